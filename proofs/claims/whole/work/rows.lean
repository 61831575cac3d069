section
-- ===== PART A: goes FIRST, ahead of the names: the tables' words, and 'selects' of the private methods out of them =====
/-- a private method of a class that the tables say can be made, by its rows of tables_1 -/
def lw_okq (q : MethodName × Nat) : Prop := (q.1.cls ≠ "java/lang/invoke/MethodHandle" ∧ q.1.cls ≠ "java/lang/invoke/VarHandle") ∧ Cond.instantiable q.1.cls q.2 ∈ tables_1 ∧ Cond.privateMethod q.1 ∈ tables_1 ∧ Cond.instanceMethod q.1 ∈ tables_1
theorem lw_p0 : lw_okq (⟨"OstlerHours$Parser", "takeClause", "()Z"⟩, 3) := ⟨⟨by decide +kernel, by decide +kernel⟩, List.mem_of_getElem? (i := 110) (by decide +kernel), List.mem_of_getElem? (i := 346) (by decide +kernel), List.mem_of_getElem? (i := 347) (by decide +kernel)⟩
theorem lw_p1 : lw_okq (⟨"OstlerHours$Parser", "wordNumber", "()I"⟩, 3) := ⟨⟨by decide +kernel, by decide +kernel⟩, List.mem_of_getElem? (i := 110) (by decide +kernel), List.mem_of_getElem? (i := 350) (by decide +kernel), List.mem_of_getElem? (i := 351) (by decide +kernel)⟩
theorem lw_p2 : lw_okq (⟨"OstlerHours$Parser", "isOneTooMany", "(I)Z"⟩, 3) := ⟨⟨by decide +kernel, by decide +kernel⟩, List.mem_of_getElem? (i := 110) (by decide +kernel), List.mem_of_getElem? (i := 414) (by decide +kernel), List.mem_of_getElem? (i := 415) (by decide +kernel)⟩
theorem lw_p3 : lw_okq (⟨"OstlerHours$Parser", "takeInn", "()Z"⟩, 3) := ⟨⟨by decide +kernel, by decide +kernel⟩, List.mem_of_getElem? (i := 110) (by decide +kernel), List.mem_of_getElem? (i := 423) (by decide +kernel), List.mem_of_getElem? (i := 424) (by decide +kernel)⟩
theorem lw_p4 : lw_okq (⟨"OstlerHours$Parser", "takeNumber", "(II)I"⟩, 3) := ⟨⟨by decide +kernel, by decide +kernel⟩, List.mem_of_getElem? (i := 110) (by decide +kernel), List.mem_of_getElem? (i := 427) (by decide +kernel), List.mem_of_getElem? (i := 428) (by decide +kernel)⟩
theorem lw_p5 : lw_okq (⟨"OstlerHours$Parser", "takeRider", "()Z"⟩, 3) := ⟨⟨by decide +kernel, by decide +kernel⟩, List.mem_of_getElem? (i := 110) (by decide +kernel), List.mem_of_getElem? (i := 439) (by decide +kernel), List.mem_of_getElem? (i := 440) (by decide +kernel)⟩
theorem lw_p6 : lw_okq (⟨"OstlerHours$Parser", "takeHour", "(I)Z"⟩, 3) := ⟨⟨by decide +kernel, by decide +kernel⟩, List.mem_of_getElem? (i := 110) (by decide +kernel), List.mem_of_getElem? (i := 447) (by decide +kernel), List.mem_of_getElem? (i := 448) (by decide +kernel)⟩
theorem lw_p7 : lw_okq (⟨"OstlerHours", "beginDay", "()V"⟩, 11) := ⟨⟨by decide +kernel, by decide +kernel⟩, List.mem_of_getElem? (i := 22) (by decide +kernel), List.mem_of_getElem? (i := 465) (by decide +kernel), List.mem_of_getElem? (i := 466) (by decide +kernel)⟩
theorem lw_p8 : lw_okq (⟨"OstlerHours$Day", "sendOff", "(II)I"⟩, 9) := ⟨⟨by decide +kernel, by decide +kernel⟩, List.mem_of_getElem? (i := 130) (by decide +kernel), List.mem_of_getElem? (i := 551) (by decide +kernel), List.mem_of_getElem? (i := 552) (by decide +kernel)⟩
theorem lw_p9 : lw_okq (⟨"OstlerHours$Day", "tire", "(II)V"⟩, 9) := ⟨⟨by decide +kernel, by decide +kernel⟩, List.mem_of_getElem? (i := 130) (by decide +kernel), List.mem_of_getElem? (i := 565) (by decide +kernel), List.mem_of_getElem? (i := 566) (by decide +kernel)⟩
theorem lw_p10 : lw_okq (⟨"OstlerHours$Day", "leadHome", "(II)I"⟩, 9) := ⟨⟨by decide +kernel, by decide +kernel⟩, List.mem_of_getElem? (i := 130) (by decide +kernel), List.mem_of_getElem? (i := 587) (by decide +kernel), List.mem_of_getElem? (i := 588) (by decide +kernel)⟩
theorem lw_p11 : lw_okq (⟨"OstlerHours$Day", "rest", "(I)V"⟩, 9) := ⟨⟨by decide +kernel, by decide +kernel⟩, List.mem_of_getElem? (i := 130) (by decide +kernel), List.mem_of_getElem? (i := 591) (by decide +kernel), List.mem_of_getElem? (i := 592) (by decide +kernel)⟩
theorem lw_p12 : lw_okq (⟨"OstlerHours$Day", "healIfRested", "(I)V"⟩, 9) := ⟨⟨by decide +kernel, by decide +kernel⟩, List.mem_of_getElem? (i := 130) (by decide +kernel), List.mem_of_getElem? (i := 600) (by decide +kernel), List.mem_of_getElem? (i := 601) (by decide +kernel)⟩
theorem lw_p13 : lw_okq (⟨"OstlerHours$Pairing", "accept", "(I)V"⟩, 4) := ⟨⟨by decide +kernel, by decide +kernel⟩, List.mem_of_getElem? (i := 197) (by decide +kernel), List.mem_of_getElem? (i := 675) (by decide +kernel), List.mem_of_getElem? (i := 676) (by decide +kernel)⟩
theorem lw_p14 : lw_okq (⟨"OstlerHours$Day", "leastTaken", "(II)I"⟩, 9) := ⟨⟨by decide +kernel, by decide +kernel⟩, List.mem_of_getElem? (i := 130) (by decide +kernel), List.mem_of_getElem? (i := 692) (by decide +kernel), List.mem_of_getElem? (i := 693) (by decide +kernel)⟩
theorem lw_p15 : lw_okq (⟨"OstlerHours", "comesFed", "(III)Z"⟩, 11) := ⟨⟨by decide +kernel, by decide +kernel⟩, List.mem_of_getElem? (i := 22) (by decide +kernel), List.mem_of_getElem? (i := 711) (by decide +kernel), List.mem_of_getElem? (i := 712) (by decide +kernel)⟩
def lw_privs_1 : List (MethodName × Nat) := [(⟨"OstlerHours$Parser", "takeClause", "()Z"⟩, 3), (⟨"OstlerHours$Parser", "wordNumber", "()I"⟩, 3), (⟨"OstlerHours$Parser", "isOneTooMany", "(I)Z"⟩, 3), (⟨"OstlerHours$Parser", "takeInn", "()Z"⟩, 3), (⟨"OstlerHours$Parser", "takeNumber", "(II)I"⟩, 3), (⟨"OstlerHours$Parser", "takeRider", "()Z"⟩, 3), (⟨"OstlerHours$Parser", "takeHour", "(I)Z"⟩, 3), (⟨"OstlerHours", "beginDay", "()V"⟩, 11), (⟨"OstlerHours$Day", "sendOff", "(II)I"⟩, 9), (⟨"OstlerHours$Day", "tire", "(II)V"⟩, 9), (⟨"OstlerHours$Day", "leadHome", "(II)I"⟩, 9), (⟨"OstlerHours$Day", "rest", "(I)V"⟩, 9), (⟨"OstlerHours$Day", "healIfRested", "(I)V"⟩, 9), (⟨"OstlerHours$Pairing", "accept", "(I)V"⟩, 4), (⟨"OstlerHours$Day", "leastTaken", "(II)I"⟩, 9), (⟨"OstlerHours", "comesFed", "(III)Z"⟩, 11)]
theorem lw_r1 : ∀ q ∈ lw_privs_1, lw_okq q := List.forall_mem_cons.mpr ⟨lw_p0, List.forall_mem_cons.mpr ⟨lw_p1, List.forall_mem_cons.mpr ⟨lw_p2, List.forall_mem_cons.mpr ⟨lw_p3, List.forall_mem_cons.mpr ⟨lw_p4, List.forall_mem_cons.mpr ⟨lw_p5, List.forall_mem_cons.mpr ⟨lw_p6, List.forall_mem_cons.mpr ⟨lw_p7, List.forall_mem_cons.mpr ⟨lw_p8, List.forall_mem_cons.mpr ⟨lw_p9, List.forall_mem_cons.mpr ⟨lw_p10, List.forall_mem_cons.mpr ⟨lw_p11, List.forall_mem_cons.mpr ⟨lw_p12, List.forall_mem_cons.mpr ⟨lw_p13, List.forall_mem_cons.mpr ⟨lw_p14, List.forall_mem_cons.mpr ⟨lw_p15, fun _ h => absurd h List.not_mem_nil⟩⟩⟩⟩⟩⟩⟩⟩⟩⟩⟩⟩⟩⟩⟩⟩
theorem lw_p16 : lw_okq (⟨"OstlerHours$Sightings", "fits", "(I)Z"⟩, 4) := ⟨⟨by decide +kernel, by decide +kernel⟩, List.mem_of_getElem? (i := 220) (by decide +kernel), List.mem_of_getElem? (i := 750) (by decide +kernel), List.mem_of_getElem? (i := 751) (by decide +kernel)⟩
theorem lw_p17 : lw_okq (⟨"OstlerHours$Shelf", "toldByAll", "(I)I"⟩, 1) := ⟨⟨by decide +kernel, by decide +kernel⟩, List.mem_of_getElem? (i := 240) (by decide +kernel), List.mem_of_getElem? (i := 811) (by decide +kernel), List.mem_of_getElem? (i := 812) (by decide +kernel)⟩
theorem lw_p18 : lw_okq (⟨"OstlerHours$Shelf", "withoutMissing", "(I)I"⟩, 1) := ⟨⟨by decide +kernel, by decide +kernel⟩, List.mem_of_getElem? (i := 240) (by decide +kernel), List.mem_of_getElem? (i := 819) (by decide +kernel), List.mem_of_getElem? (i := 820) (by decide +kernel)⟩
theorem lw_p19 : lw_okq (⟨"OstlerHoursModel", "reads", "(Z)Z"⟩, 34) := ⟨⟨by decide +kernel, by decide +kernel⟩, List.mem_of_getElem? (i := 867) (by decide +kernel), List.mem_of_getElem? (i := 992) (by decide +kernel), List.mem_of_getElem? (i := 993) (by decide +kernel)⟩
theorem lw_p20 : lw_okq (⟨"OstlerHoursModel", "nextToken", "()V"⟩, 34) := ⟨⟨by decide +kernel, by decide +kernel⟩, List.mem_of_getElem? (i := 867) (by decide +kernel), List.mem_of_getElem? (i := 996) (by decide +kernel), List.mem_of_getElem? (i := 997) (by decide +kernel)⟩
theorem lw_p21 : lw_okq (⟨"OstlerHoursModel", "readsClause", "()Z"⟩, 34) := ⟨⟨by decide +kernel, by decide +kernel⟩, List.mem_of_getElem? (i := 867) (by decide +kernel), List.mem_of_getElem? (i := 1010) (by decide +kernel), List.mem_of_getElem? (i := 1011) (by decide +kernel)⟩
theorem lw_p22 : lw_okq (⟨"OstlerHoursModel", "kindHere", "()I"⟩, 34) := ⟨⟨by decide +kernel, by decide +kernel⟩, List.mem_of_getElem? (i := 867) (by decide +kernel), List.mem_of_getElem? (i := 1014) (by decide +kernel), List.mem_of_getElem? (i := 1015) (by decide +kernel)⟩
theorem lw_p23 : lw_okq (⟨"OstlerHoursModel", "isWord", "([I)Z"⟩, 34) := ⟨⟨by decide +kernel, by decide +kernel⟩, List.mem_of_getElem? (i := 867) (by decide +kernel), List.mem_of_getElem? (i := 1018) (by decide +kernel), List.mem_of_getElem? (i := 1019) (by decide +kernel)⟩
theorem lw_p24 : lw_okq (⟨"OstlerHoursModel", "readsHour", "(I)Z"⟩, 34) := ⟨⟨by decide +kernel, by decide +kernel⟩, List.mem_of_getElem? (i := 867) (by decide +kernel), List.mem_of_getElem? (i := 1022) (by decide +kernel), List.mem_of_getElem? (i := 1023) (by decide +kernel)⟩
theorem lw_p25 : lw_okq (⟨"OstlerHoursModel", "number", "(III)Z"⟩, 34) := ⟨⟨by decide +kernel, by decide +kernel⟩, List.mem_of_getElem? (i := 867) (by decide +kernel), List.mem_of_getElem? (i := 1026) (by decide +kernel), List.mem_of_getElem? (i := 1027) (by decide +kernel)⟩
theorem lw_p26 : lw_okq (⟨"OstlerHoursModel", "readsRoad", "()Z"⟩, 34) := ⟨⟨by decide +kernel, by decide +kernel⟩, List.mem_of_getElem? (i := 867) (by decide +kernel), List.mem_of_getElem? (i := 1030) (by decide +kernel), List.mem_of_getElem? (i := 1031) (by decide +kernel)⟩
theorem lw_p27 : lw_okq (⟨"OstlerHoursModel", "readsInn", "()Z"⟩, 34) := ⟨⟨by decide +kernel, by decide +kernel⟩, List.mem_of_getElem? (i := 867) (by decide +kernel), List.mem_of_getElem? (i := 1034) (by decide +kernel), List.mem_of_getElem? (i := 1035) (by decide +kernel)⟩
theorem lw_p28 : lw_okq (⟨"OstlerHoursModel", "readsRider", "()Z"⟩, 34) := ⟨⟨by decide +kernel, by decide +kernel⟩, List.mem_of_getElem? (i := 867) (by decide +kernel), List.mem_of_getElem? (i := 1038) (by decide +kernel), List.mem_of_getElem? (i := 1039) (by decide +kernel)⟩
theorem lw_p29 : lw_okq (⟨"OstlerHoursModel", "copyRoad", "(II)V"⟩, 34) := ⟨⟨by decide +kernel, by decide +kernel⟩, List.mem_of_getElem? (i := 867) (by decide +kernel), List.mem_of_getElem? (i := 1046) (by decide +kernel), List.mem_of_getElem? (i := 1047) (by decide +kernel)⟩
theorem lw_p30 : lw_okq (⟨"OstlerHoursModel", "isHour", "(I)Z"⟩, 34) := ⟨⟨by decide +kernel, by decide +kernel⟩, List.mem_of_getElem? (i := 867) (by decide +kernel), List.mem_of_getElem? (i := 1054) (by decide +kernel), List.mem_of_getElem? (i := 1055) (by decide +kernel)⟩
theorem lw_p31 : lw_okq (⟨"OstlerHoursModel", "isRider", "(I)Z"⟩, 34) := ⟨⟨by decide +kernel, by decide +kernel⟩, List.mem_of_getElem? (i := 867) (by decide +kernel), List.mem_of_getElem? (i := 1062) (by decide +kernel), List.mem_of_getElem? (i := 1063) (by decide +kernel)⟩
def lw_privs_2 : List (MethodName × Nat) := [(⟨"OstlerHours$Sightings", "fits", "(I)Z"⟩, 4), (⟨"OstlerHours$Shelf", "toldByAll", "(I)I"⟩, 1), (⟨"OstlerHours$Shelf", "withoutMissing", "(I)I"⟩, 1), (⟨"OstlerHoursModel", "reads", "(Z)Z"⟩, 34), (⟨"OstlerHoursModel", "nextToken", "()V"⟩, 34), (⟨"OstlerHoursModel", "readsClause", "()Z"⟩, 34), (⟨"OstlerHoursModel", "kindHere", "()I"⟩, 34), (⟨"OstlerHoursModel", "isWord", "([I)Z"⟩, 34), (⟨"OstlerHoursModel", "readsHour", "(I)Z"⟩, 34), (⟨"OstlerHoursModel", "number", "(III)Z"⟩, 34), (⟨"OstlerHoursModel", "readsRoad", "()Z"⟩, 34), (⟨"OstlerHoursModel", "readsInn", "()Z"⟩, 34), (⟨"OstlerHoursModel", "readsRider", "()Z"⟩, 34), (⟨"OstlerHoursModel", "copyRoad", "(II)V"⟩, 34), (⟨"OstlerHoursModel", "isHour", "(I)Z"⟩, 34), (⟨"OstlerHoursModel", "isRider", "(I)Z"⟩, 34)]
theorem lw_r2 : ∀ q ∈ lw_privs_2, lw_okq q := List.forall_mem_cons.mpr ⟨lw_p16, List.forall_mem_cons.mpr ⟨lw_p17, List.forall_mem_cons.mpr ⟨lw_p18, List.forall_mem_cons.mpr ⟨lw_p19, List.forall_mem_cons.mpr ⟨lw_p20, List.forall_mem_cons.mpr ⟨lw_p21, List.forall_mem_cons.mpr ⟨lw_p22, List.forall_mem_cons.mpr ⟨lw_p23, List.forall_mem_cons.mpr ⟨lw_p24, List.forall_mem_cons.mpr ⟨lw_p25, List.forall_mem_cons.mpr ⟨lw_p26, List.forall_mem_cons.mpr ⟨lw_p27, List.forall_mem_cons.mpr ⟨lw_p28, List.forall_mem_cons.mpr ⟨lw_p29, List.forall_mem_cons.mpr ⟨lw_p30, List.forall_mem_cons.mpr ⟨lw_p31, fun _ h => absurd h List.not_mem_nil⟩⟩⟩⟩⟩⟩⟩⟩⟩⟩⟩⟩⟩⟩⟩⟩
theorem lw_p32 : lw_okq (⟨"OstlerHoursModel", "isInn", "(I)Z"⟩, 34) := ⟨⟨by decide +kernel, by decide +kernel⟩, List.mem_of_getElem? (i := 867) (by decide +kernel), List.mem_of_getElem? (i := 1070) (by decide +kernel), List.mem_of_getElem? (i := 1071) (by decide +kernel)⟩
theorem lw_p33 : lw_okq (⟨"OstlerHoursModel", "keepPast", "()V"⟩, 34) := ⟨⟨by decide +kernel, by decide +kernel⟩, List.mem_of_getElem? (i := 867) (by decide +kernel), List.mem_of_getElem? (i := 1087) (by decide +kernel), List.mem_of_getElem? (i := 1088) (by decide +kernel)⟩
theorem lw_p34 : lw_okq (⟨"OstlerHoursModel", "passes", "(I)V"⟩, 34) := ⟨⟨by decide +kernel, by decide +kernel⟩, List.mem_of_getElem? (i := 867) (by decide +kernel), List.mem_of_getElem? (i := 1091) (by decide +kernel), List.mem_of_getElem? (i := 1092) (by decide +kernel)⟩
theorem lw_p35 : lw_okq (⟨"OstlerHoursModel", "rides", "(II)V"⟩, 34) := ⟨⟨by decide +kernel, by decide +kernel⟩, List.mem_of_getElem? (i := 867) (by decide +kernel), List.mem_of_getElem? (i := 1095) (by decide +kernel), List.mem_of_getElem? (i := 1096) (by decide +kernel)⟩
theorem lw_p36 : lw_okq (⟨"OstlerHoursModel", "givenIn", "(II)I"⟩, 34) := ⟨⟨by decide +kernel, by decide +kernel⟩, List.mem_of_getElem? (i := 867) (by decide +kernel), List.mem_of_getElem? (i := 1099) (by decide +kernel), List.mem_of_getElem? (i := 1100) (by decide +kernel)⟩
theorem lw_p37 : lw_okq (⟨"OstlerHoursModel", "tire", "(III)V"⟩, 34) := ⟨⟨by decide +kernel, by decide +kernel⟩, List.mem_of_getElem? (i := 867) (by decide +kernel), List.mem_of_getElem? (i := 1107) (by decide +kernel), List.mem_of_getElem? (i := 1108) (by decide +kernel)⟩
theorem lw_p38 : lw_okq (⟨"OstlerHoursModel", "milesOn", "(III)I"⟩, 34) := ⟨⟨by decide +kernel, by decide +kernel⟩, List.mem_of_getElem? (i := 867) (by decide +kernel), List.mem_of_getElem? (i := 1111) (by decide +kernel), List.mem_of_getElem? (i := 1112) (by decide +kernel)⟩
theorem lw_p39 : lw_okq (⟨"OstlerHoursModel", "leads", "(II)V"⟩, 34) := ⟨⟨by decide +kernel, by decide +kernel⟩, List.mem_of_getElem? (i := 867) (by decide +kernel), List.mem_of_getElem? (i := 1121) (by decide +kernel), List.mem_of_getElem? (i := 1122) (by decide +kernel)⟩
theorem lw_p40 : lw_okq (⟨"OstlerHoursModel", "restAll", "(I)V"⟩, 34) := ⟨⟨by decide +kernel, by decide +kernel⟩, List.mem_of_getElem? (i := 867) (by decide +kernel), List.mem_of_getElem? (i := 1125) (by decide +kernel), List.mem_of_getElem? (i := 1126) (by decide +kernel)⟩
theorem lw_p41 : lw_okq (⟨"OstlerHoursModel", "oat", "(II)V"⟩, 34) := ⟨⟨by decide +kernel, by decide +kernel⟩, List.mem_of_getElem? (i := 867) (by decide +kernel), List.mem_of_getElem? (i := 1136) (by decide +kernel), List.mem_of_getElem? (i := 1137) (by decide +kernel)⟩
theorem lw_p42 : lw_okq (⟨"OstlerHoursModel", "isRiding", "(I)Z"⟩, 34) := ⟨⟨by decide +kernel, by decide +kernel⟩, List.mem_of_getElem? (i := 867) (by decide +kernel), List.mem_of_getElem? (i := 1168) (by decide +kernel), List.mem_of_getElem? (i := 1169) (by decide +kernel)⟩
theorem lw_p43 : lw_okq (⟨"OstlerHoursModel", "layTried", "()V"⟩, 34) := ⟨⟨by decide +kernel, by decide +kernel⟩, List.mem_of_getElem? (i := 867) (by decide +kernel), List.mem_of_getElem? (i := 1178) (by decide +kernel), List.mem_of_getElem? (i := 1179) (by decide +kernel)⟩
theorem lw_p44 : lw_okq (⟨"OstlerHoursModel", "comesBy", "(II)I"⟩, 34) := ⟨⟨by decide +kernel, by decide +kernel⟩, List.mem_of_getElem? (i := 867) (by decide +kernel), List.mem_of_getElem? (i := 1186) (by decide +kernel), List.mem_of_getElem? (i := 1187) (by decide +kernel)⟩
theorem lw_p45 : lw_okq (⟨"OstlerHoursModel", "takenByLine", "()I"⟩, 34) := ⟨⟨by decide +kernel, by decide +kernel⟩, List.mem_of_getElem? (i := 867) (by decide +kernel), List.mem_of_getElem? (i := 1194) (by decide +kernel), List.mem_of_getElem? (i := 1195) (by decide +kernel)⟩
theorem lw_p46 : lw_okq (⟨"OstlerHoursModel", "nextLine", "()Z"⟩, 34) := ⟨⟨by decide +kernel, by decide +kernel⟩, List.mem_of_getElem? (i := 867) (by decide +kernel), List.mem_of_getElem? (i := 1198) (by decide +kernel), List.mem_of_getElem? (i := 1199) (by decide +kernel)⟩
theorem lw_p47 : lw_okq (⟨"OstlerHoursModel", "fastestAt", "(II)I"⟩, 34) := ⟨⟨by decide +kernel, by decide +kernel⟩, List.mem_of_getElem? (i := 867) (by decide +kernel), List.mem_of_getElem? (i := 1206) (by decide +kernel), List.mem_of_getElem? (i := 1207) (by decide +kernel)⟩
def lw_privs_3 : List (MethodName × Nat) := [(⟨"OstlerHoursModel", "isInn", "(I)Z"⟩, 34), (⟨"OstlerHoursModel", "keepPast", "()V"⟩, 34), (⟨"OstlerHoursModel", "passes", "(I)V"⟩, 34), (⟨"OstlerHoursModel", "rides", "(II)V"⟩, 34), (⟨"OstlerHoursModel", "givenIn", "(II)I"⟩, 34), (⟨"OstlerHoursModel", "tire", "(III)V"⟩, 34), (⟨"OstlerHoursModel", "milesOn", "(III)I"⟩, 34), (⟨"OstlerHoursModel", "leads", "(II)V"⟩, 34), (⟨"OstlerHoursModel", "restAll", "(I)V"⟩, 34), (⟨"OstlerHoursModel", "oat", "(II)V"⟩, 34), (⟨"OstlerHoursModel", "isRiding", "(I)Z"⟩, 34), (⟨"OstlerHoursModel", "layTried", "()V"⟩, 34), (⟨"OstlerHoursModel", "comesBy", "(II)I"⟩, 34), (⟨"OstlerHoursModel", "takenByLine", "()I"⟩, 34), (⟨"OstlerHoursModel", "nextLine", "()Z"⟩, 34), (⟨"OstlerHoursModel", "fastestAt", "(II)I"⟩, 34)]
theorem lw_r3 : ∀ q ∈ lw_privs_3, lw_okq q := List.forall_mem_cons.mpr ⟨lw_p32, List.forall_mem_cons.mpr ⟨lw_p33, List.forall_mem_cons.mpr ⟨lw_p34, List.forall_mem_cons.mpr ⟨lw_p35, List.forall_mem_cons.mpr ⟨lw_p36, List.forall_mem_cons.mpr ⟨lw_p37, List.forall_mem_cons.mpr ⟨lw_p38, List.forall_mem_cons.mpr ⟨lw_p39, List.forall_mem_cons.mpr ⟨lw_p40, List.forall_mem_cons.mpr ⟨lw_p41, List.forall_mem_cons.mpr ⟨lw_p42, List.forall_mem_cons.mpr ⟨lw_p43, List.forall_mem_cons.mpr ⟨lw_p44, List.forall_mem_cons.mpr ⟨lw_p45, List.forall_mem_cons.mpr ⟨lw_p46, List.forall_mem_cons.mpr ⟨lw_p47, fun _ h => absurd h List.not_mem_nil⟩⟩⟩⟩⟩⟩⟩⟩⟩⟩⟩⟩⟩⟩⟩⟩
theorem lw_p48 : lw_okq (⟨"OstlerHoursModel", "noLine", "(II)I"⟩, 34) := ⟨⟨by decide +kernel, by decide +kernel⟩, List.mem_of_getElem? (i := 867) (by decide +kernel), List.mem_of_getElem? (i := 1259) (by decide +kernel), List.mem_of_getElem? (i := 1260) (by decide +kernel)⟩
theorem lw_p49 : lw_okq (⟨"OstlerHoursModel", "toldBy", "(I)I"⟩, 34) := ⟨⟨by decide +kernel, by decide +kernel⟩, List.mem_of_getElem? (i := 867) (by decide +kernel), List.mem_of_getElem? (i := 1272) (by decide +kernel), List.mem_of_getElem? (i := 1273) (by decide +kernel)⟩
theorem lw_p50 : lw_okq (⟨"OstlerHoursModel", "weightOf", "(I)I"⟩, 34) := ⟨⟨by decide +kernel, by decide +kernel⟩, List.mem_of_getElem? (i := 867) (by decide +kernel), List.mem_of_getElem? (i := 1277) (by decide +kernel), List.mem_of_getElem? (i := 1278) (by decide +kernel)⟩
theorem lw_p51 : lw_okq (⟨"OstlerHoursModel", "isSpan", "(III)Z"⟩, 34) := ⟨⟨by decide +kernel, by decide +kernel⟩, List.mem_of_getElem? (i := 867) (by decide +kernel), List.mem_of_getElem? (i := 1285) (by decide +kernel), List.mem_of_getElem? (i := 1286) (by decide +kernel)⟩
theorem lw_p52 : lw_okq (⟨"OstlerHoursModel", "lameOnes", "()I"⟩, 34) := ⟨⟨by decide +kernel, by decide +kernel⟩, List.mem_of_getElem? (i := 867) (by decide +kernel), List.mem_of_getElem? (i := 1297) (by decide +kernel), List.mem_of_getElem? (i := 1298) (by decide +kernel)⟩
theorem lw_p53 : lw_okq (⟨"OstlerHoursModel", "thereOnes", "()I"⟩, 34) := ⟨⟨by decide +kernel, by decide +kernel⟩, List.mem_of_getElem? (i := 867) (by decide +kernel), List.mem_of_getElem? (i := 1301) (by decide +kernel), List.mem_of_getElem? (i := 1302) (by decide +kernel)⟩
theorem lw_p54 : lw_okq (⟨"OstlerHoursModel", "clocks", "()I"⟩, 34) := ⟨⟨by decide +kernel, by decide +kernel⟩, List.mem_of_getElem? (i := 867) (by decide +kernel), List.mem_of_getElem? (i := 1305) (by decide +kernel), List.mem_of_getElem? (i := 1306) (by decide +kernel)⟩
theorem lw_p55 : lw_okq (⟨"OstlerHoursModel", "booksThere", "()I"⟩, 34) := ⟨⟨by decide +kernel, by decide +kernel⟩, List.mem_of_getElem? (i := 867) (by decide +kernel), List.mem_of_getElem? (i := 1309) (by decide +kernel), List.mem_of_getElem? (i := 1310) (by decide +kernel)⟩
def lw_privs_4 : List (MethodName × Nat) := [(⟨"OstlerHoursModel", "noLine", "(II)I"⟩, 34), (⟨"OstlerHoursModel", "toldBy", "(I)I"⟩, 34), (⟨"OstlerHoursModel", "weightOf", "(I)I"⟩, 34), (⟨"OstlerHoursModel", "isSpan", "(III)Z"⟩, 34), (⟨"OstlerHoursModel", "lameOnes", "()I"⟩, 34), (⟨"OstlerHoursModel", "thereOnes", "()I"⟩, 34), (⟨"OstlerHoursModel", "clocks", "()I"⟩, 34), (⟨"OstlerHoursModel", "booksThere", "()I"⟩, 34)]
theorem lw_r4 : ∀ q ∈ lw_privs_4, lw_okq q := List.forall_mem_cons.mpr ⟨lw_p48, List.forall_mem_cons.mpr ⟨lw_p49, List.forall_mem_cons.mpr ⟨lw_p50, List.forall_mem_cons.mpr ⟨lw_p51, List.forall_mem_cons.mpr ⟨lw_p52, List.forall_mem_cons.mpr ⟨lw_p53, List.forall_mem_cons.mpr ⟨lw_p54, List.forall_mem_cons.mpr ⟨lw_p55, fun _ h => absurd h List.not_mem_nil⟩⟩⟩⟩⟩⟩⟩⟩
def lw_privs : List (MethodName × Nat) := lw_privs_1 ++ (lw_privs_2 ++ (lw_privs_3 ++ (lw_privs_4)))
def lw_tbl : List Cond := k2_sels lw_privs ++ tables_1
theorem lw_privs_ok : ∀ q ∈ lw_privs, lw_okq q := by
  show ∀ q ∈ lw_privs_1 ++ (lw_privs_2 ++ (lw_privs_3 ++ (lw_privs_4))), lw_okq q
  exact List.forall_mem_append.mpr ⟨lw_r1, List.forall_mem_append.mpr ⟨lw_r2, List.forall_mem_append.mpr ⟨lw_r3, lw_r4⟩⟩⟩
def RX0 : String := "OstlerHours$Book"
def TX0 : u_T := fun k => match k with
  | 0 => ("OstlerHours$Book", "has", "[I", true)
  | 1 => ("OstlerHours$Book", "value", "[I", true)
  | _ => ("OstlerHours$Book", "lines", "I", false)
def tyX0 : Nat → FieldType := fun k => match k with
  | 0 => .array .int
  | 1 => .array .int
  | _ => .int
theorem nmX0 : ∀ a, a < 3 → ∀ b, b < 3 → a ≠ b → (TX0 a).2.1 ≠ (TX0 b).2.1 := by decide +kernel
theorem tyX0_ok : ∀ k, k < 3 → parseFieldDescriptor (TX0 k).2.2.1 = some (tyX0 k) := by decide +kernel
abbrev cX0_init : ByteArray := prog_2_method_1_code
def yX0_init : MethodName := ⟨RX0, "<init>", "()V"⟩
abbrev cX0_open : ByteArray := prog_2_method_2_code
def yX0_open : MethodName := ⟨RX0, "open", "(I)V"⟩
abbrev cX0_close : ByteArray := prog_2_method_3_code
def yX0_close : MethodName := ⟨RX0, "close", "()V"⟩
abbrev cX0_isMissing : ByteArray := prog_2_method_4_code
def yX0_isMissing : MethodName := ⟨RX0, "isMissing", "()Z"⟩
abbrev cX0_hasLine : ByteArray := prog_2_method_5_code
def yX0_hasLine : MethodName := ⟨RX0, "hasLine", "(I)Z"⟩
abbrev cX0_hasLines : ByteArray := prog_2_method_6_code
def yX0_hasLines : MethodName := ⟨RX0, "hasLines", "(II)Z"⟩
abbrev cX0_filledLines : ByteArray := prog_2_method_7_code
def yX0_filledLines : MethodName := ⟨RX0, "filledLines", "()I"⟩
abbrev cX0_toldBooks : ByteArray := prog_2_method_8_code
def yX0_toldBooks : MethodName := ⟨RX0, "toldBooks", "()I"⟩
abbrev cX0_ownWeight : ByteArray := prog_2_method_9_code
def yX0_ownWeight : MethodName := ⟨RX0, "ownWeight", "()I"⟩
def RX1 : String := "OstlerHours$Day"
def TX1 : u_T := fun k => match k with
  | 0 => ("OstlerHours$Day", "told", "LOstlerHours$Road;", true)
  | 1 => ("OstlerHours$Day", "number", "I", false)
  | 2 => ("OstlerHours$Day", "place", "[I", true)
  | 3 => ("OstlerHours$Day", "tired", "[I", true)
  | 4 => ("OstlerHours$Day", "ridden", "[I", true)
  | 5 => ("OstlerHours$Day", "lame", "I", false)
  | 6 => ("OstlerHours$Day", "at", "[I", true)
  | 7 => ("OstlerHours$Day", "to", "[I", true)
  | _ => ("OstlerHours$Day", "clock", "[I", true)
def tyX1 : Nat → FieldType := fun k => match k with
  | 0 => .object "OstlerHours$Road"
  | 1 => .int
  | 2 => .array .int
  | 3 => .array .int
  | 4 => .array .int
  | 5 => .int
  | 6 => .array .int
  | 7 => .array .int
  | _ => .array .int
theorem nmX1 : ∀ a, a < 9 → ∀ b, b < 9 → a ≠ b → (TX1 a).2.1 ≠ (TX1 b).2.1 := by decide +kernel
theorem tyX1_ok : ∀ k, k < 9 → parseFieldDescriptor (TX1 k).2.2.1 = some (tyX1 k) := by decide +kernel
abbrev cX1_init : ByteArray := prog_3_method_1_code
def yX1_init : MethodName := ⟨RX1, "<init>", "(LOstlerHours$Road;)V"⟩
abbrev cX1_begin : ByteArray := prog_3_method_2_code
def yX1_begin : MethodName := ⟨RX1, "begin", "()V"⟩
abbrev cX1_become : ByteArray := prog_3_method_3_code
def yX1_become : MethodName := ⟨RX1, "become", "(LOstlerHours$Day;)V"⟩
abbrev cX1_isLame : ByteArray := prog_3_method_4_code
def yX1_isLame : MethodName := ⟨RX1, "isLame", "(I)Z"⟩
abbrev cX1_isThere : ByteArray := prog_3_method_5_code
def yX1_isThere : MethodName := ⟨RX1, "isThere", "(I)Z"⟩
abbrev cX1_ridersThere : ByteArray := prog_3_method_6_code
def yX1_ridersThere : MethodName := ⟨RX1, "ridersThere", "()I"⟩
abbrev cX1_allClocks : ByteArray := prog_3_method_7_code
def yX1_allClocks : MethodName := ⟨RX1, "allClocks", "()I"⟩
abbrev cX1_tiredHours : ByteArray := prog_3_method_8_code
def yX1_tiredHours : MethodName := ⟨RX1, "tiredHours", "()I"⟩
abbrev cX1_giveOats : ByteArray := prog_3_method_9_code
def yX1_giveOats : MethodName := ⟨RX1, "giveOats", "(I)V"⟩
abbrev cX1_giveShoes : ByteArray := prog_3_method_10_code
def yX1_giveShoes : MethodName := ⟨RX1, "giveShoes", "(I)V"⟩
abbrev cX1_healIfRested : ByteArray := prog_3_method_11_code
def yX1_healIfRested : MethodName := ⟨RX1, "healIfRested", "(I)V"⟩
abbrev cX1_chooseHour : ByteArray := prog_3_method_12_code
def yX1_chooseHour : MethodName := ⟨RX1, "chooseHour", "(II)I"⟩
abbrev cX1_passStage : ByteArray := prog_3_method_13_code
def yX1_passStage : MethodName := ⟨RX1, "passStage", "()V"⟩
abbrev cX1_sendOff : ByteArray := prog_3_method_14_code
def yX1_sendOff : MethodName := ⟨RX1, "sendOff", "(II)I"⟩
abbrev cX1_tire : ByteArray := prog_3_method_15_code
def yX1_tire : MethodName := ⟨RX1, "tire", "(II)V"⟩
abbrev cX1_leadHome : ByteArray := prog_3_method_16_code
def yX1_leadHome : MethodName := ⟨RX1, "leadHome", "(II)I"⟩
abbrev cX1_rest : ByteArray := prog_3_method_17_code
def yX1_rest : MethodName := ⟨RX1, "rest", "(I)V"⟩
abbrev cX1_passUntilThere : ByteArray := prog_3_method_18_code
def yX1_passUntilThere : MethodName := ⟨RX1, "passUntilThere", "(II)I"⟩
abbrev cX1_fastestRide : ByteArray := prog_3_method_19_code
def yX1_fastestRide : MethodName := ⟨RX1, "fastestRide", "(I)I"⟩
abbrev cX1_leastTaken : ByteArray := prog_3_method_20_code
def yX1_leastTaken : MethodName := ⟨RX1, "leastTaken", "(II)I"⟩
def RX2 : String := "OstlerHours$Kind"
def TX2 : u_T := fun k => match k with
  | _ => ("", "", "", false)
def tyX2 : Nat → FieldType := fun k => match k with
  | _ => .int
theorem nmX2 : ∀ a, a < 0 → ∀ b, b < 0 → a ≠ b → (TX2 a).2.1 ≠ (TX2 b).2.1 := by decide +kernel
theorem tyX2_ok : ∀ k, k < 0 → parseFieldDescriptor (TX2 k).2.2.1 = some (tyX2 k) := by decide +kernel
abbrev cX2_takes : ByteArray := prog_4_method_2_code
def yX2_takes : MethodName := ⟨RX2, "takes", "(II)I"⟩
abbrev cX2_tires : ByteArray := prog_4_method_3_code
def yX2_tires : MethodName := ⟨RX2, "tires", "(II)I"⟩
abbrev cX2_rests : ByteArray := prog_4_method_4_code
def yX2_rests : MethodName := ⟨RX2, "rests", "(I)I"⟩
abbrev cX2_isWilling : ByteArray := prog_4_method_5_code
def yX2_isWilling : MethodName := ⟨RX2, "isWilling", "(I)Z"⟩
abbrev cX2_throwsOff : ByteArray := prog_4_method_6_code
def yX2_throwsOff : MethodName := ⟨RX2, "throwsOff", "(II)Z"⟩
abbrev cX2_isUnder : ByteArray := prog_4_method_7_code
def yX2_isUnder : MethodName := ⟨RX2, "isUnder", "(II)Z"⟩
def RX3 : String := "OstlerHours$Odds"
def TX3 : u_T := fun k => match k with
  | _ => ("", "", "", false)
def tyX3 : Nat → FieldType := fun k => match k with
  | _ => .int
theorem nmX3 : ∀ a, a < 0 → ∀ b, b < 0 → a ≠ b → (TX3 a).2.1 ≠ (TX3 b).2.1 := by decide +kernel
theorem tyX3_ok : ∀ k, k < 0 → parseFieldDescriptor (TX3 k).2.2.1 = some (tyX3 k) := by decide +kernel
abbrev cX3_ofFalls : ByteArray := prog_5_method_2_code
def yX3_ofFalls : MethodName := ⟨RX3, "ofFalls", "(IIII)I"⟩
abbrev cX3_ways : ByteArray := prog_5_method_3_code
def yX3_ways : MethodName := ⟨RX3, "ways", "(II)J"⟩
abbrev cX3_power : ByteArray := prog_5_method_4_code
def yX3_power : MethodName := ⟨RX3, "power", "(II)J"⟩
def RX4 : String := "OstlerHours$Pairing"
def TX4 : u_T := fun k => match k with
  | 0 => ("OstlerHours$Pairing", "tried", "[I", true)
  | 1 => ("OstlerHours$Pairing", "best", "[I", true)
  | 2 => ("OstlerHours$Pairing", "least", "I", false)
  | _ => ("OstlerHours$Pairing", "found", "Z", false)
def tyX4 : Nat → FieldType := fun k => match k with
  | 0 => .array .int
  | 1 => .array .int
  | 2 => .int
  | _ => .boolean
theorem nmX4 : ∀ a, a < 4 → ∀ b, b < 4 → a ≠ b → (TX4 a).2.1 ≠ (TX4 b).2.1 := by decide +kernel
theorem tyX4_ok : ∀ k, k < 4 → parseFieldDescriptor (TX4 k).2.2.1 = some (tyX4 k) := by decide +kernel
abbrev cX4_init : ByteArray := prog_6_method_1_code
def yX4_init : MethodName := ⟨RX4, "<init>", "()V"⟩
abbrev cX4_pair : ByteArray := prog_6_method_2_code
def yX4_pair : MethodName := ⟨RX4, "pair", "(LOstlerHours$Day;)V"⟩
abbrev cX4_pairFrom : ByteArray := prog_6_method_3_code
def yX4_pairFrom : MethodName := ⟨RX4, "pairFrom", "(LOstlerHours$Pairing;LOstlerHours$Day;III)V"⟩
abbrev cX4_accept : ByteArray := prog_6_method_4_code
def yX4_accept : MethodName := ⟨RX4, "accept", "(I)V"⟩
def RX5 : String := "OstlerHours$Parser"
def TX5 : u_T := fun k => match k with
  | 0 => ("OstlerHours$Parser", "text", "LOstlerHours$Text;", true)
  | 1 => ("OstlerHours$Parser", "draft", "LOstlerHours$Road;", true)
  | _ => ("OstlerHours$Parser", "clauses", "I", false)
def tyX5 : Nat → FieldType := fun k => match k with
  | 0 => .object "OstlerHours$Text"
  | 1 => .object "OstlerHours$Road"
  | _ => .int
theorem nmX5 : ∀ a, a < 3 → ∀ b, b < 3 → a ≠ b → (TX5 a).2.1 ≠ (TX5 b).2.1 := by decide +kernel
theorem tyX5_ok : ∀ k, k < 3 → parseFieldDescriptor (TX5 k).2.2.1 = some (tyX5 k) := by decide +kernel
abbrev cX5_init : ByteArray := prog_7_method_1_code
def yX5_init : MethodName := ⟨RX5, "<init>", "(LOstlerHours$Text;)V"⟩
abbrev cX5_findFault : ByteArray := prog_7_method_2_code
def yX5_findFault : MethodName := ⟨RX5, "findFault", "(LOstlerHours$Road;)I"⟩
abbrev cX5_takeClause : ByteArray := prog_7_method_3_code
def yX5_takeClause : MethodName := ⟨RX5, "takeClause", "()Z"⟩
abbrev cX5_wordNumber : ByteArray := prog_7_method_4_code
def yX5_wordNumber : MethodName := ⟨RX5, "wordNumber", "()I"⟩
abbrev cX5_isOneTooMany : ByteArray := prog_7_method_5_code
def yX5_isOneTooMany : MethodName := ⟨RX5, "isOneTooMany", "(I)Z"⟩
abbrev cX5_takeInn : ByteArray := prog_7_method_6_code
def yX5_takeInn : MethodName := ⟨RX5, "takeInn", "()Z"⟩
abbrev cX5_takeHour : ByteArray := prog_7_method_7_code
def yX5_takeHour : MethodName := ⟨RX5, "takeHour", "(I)Z"⟩
abbrev cX5_takeRider : ByteArray := prog_7_method_8_code
def yX5_takeRider : MethodName := ⟨RX5, "takeRider", "()Z"⟩
abbrev cX5_takeNumber : ByteArray := prog_7_method_9_code
def yX5_takeNumber : MethodName := ⟨RX5, "takeNumber", "(II)I"⟩
def RX6 : String := "OstlerHours$Past"
def TX6 : u_T := fun k => match k with
  | 0 => ("OstlerHours$Past", "days", "[LOstlerHours$Day;", true)
  | 1 => ("OstlerHours$Past", "next", "I", false)
  | _ => ("OstlerHours$Past", "size", "I", false)
def tyX6 : Nat → FieldType := fun k => match k with
  | 0 => .array (.object "OstlerHours$Day")
  | 1 => .int
  | _ => .int
theorem nmX6 : ∀ a, a < 3 → ∀ b, b < 3 → a ≠ b → (TX6 a).2.1 ≠ (TX6 b).2.1 := by decide +kernel
theorem tyX6_ok : ∀ k, k < 3 → parseFieldDescriptor (TX6 k).2.2.1 = some (tyX6 k) := by decide +kernel
abbrev cX6_init : ByteArray := prog_8_method_1_code
def yX6_init : MethodName := ⟨RX6, "<init>", "(LOstlerHours$Road;)V"⟩
abbrev cX6_remember : ByteArray := prog_8_method_2_code
def yX6_remember : MethodName := ⟨RX6, "remember", "(LOstlerHours$Day;)V"⟩
abbrev cX6_clear : ByteArray := prog_8_method_3_code
def yX6_clear : MethodName := ⟨RX6, "clear", "()V"⟩
abbrev cX6_restore : ByteArray := prog_8_method_4_code
def yX6_restore : MethodName := ⟨RX6, "restore", "(LOstlerHours$Day;)V"⟩
def RX7 : String := "OstlerHours$Road"
def TX7 : u_T := fun k => match k with
  | 0 => ("OstlerHours$Road", "inns", "I", false)
  | 1 => ("OstlerHours$Road", "hours", "I", false)
  | 2 => ("OstlerHours$Road", "riders", "I", false)
  | 3 => ("OstlerHours$Road", "miles", "[I", true)
  | 4 => ("OstlerHours$Road", "kind", "[I", true)
  | 5 => ("OstlerHours$Road", "home", "[I", true)
  | 6 => ("OstlerHours$Road", "tired", "[I", true)
  | 7 => ("OstlerHours$Road", "from", "[I", true)
  | _ => ("OstlerHours$Road", "to", "[I", true)
def tyX7 : Nat → FieldType := fun k => match k with
  | 0 => .int
  | 1 => .int
  | 2 => .int
  | 3 => .array .int
  | 4 => .array .int
  | 5 => .array .int
  | 6 => .array .int
  | 7 => .array .int
  | _ => .array .int
theorem nmX7 : ∀ a, a < 9 → ∀ b, b < 9 → a ≠ b → (TX7 a).2.1 ≠ (TX7 b).2.1 := by decide +kernel
theorem tyX7_ok : ∀ k, k < 9 → parseFieldDescriptor (TX7 k).2.2.1 = some (tyX7 k) := by decide +kernel
abbrev cX7_init : ByteArray := prog_9_method_1_code
def yX7_init : MethodName := ⟨RX7, "<init>", "()V"⟩
abbrev cX7_clear : ByteArray := prog_9_method_2_code
def yX7_clear : MethodName := ⟨RX7, "clear", "()V"⟩
abbrev cX7_become : ByteArray := prog_9_method_3_code
def yX7_become : MethodName := ⟨RX7, "become", "(LOstlerHours$Road;)V"⟩
abbrev cX7_hasInn : ByteArray := prog_9_method_4_code
def yX7_hasInn : MethodName := ⟨RX7, "hasInn", "(I)Z"⟩
abbrev cX7_hasHour : ByteArray := prog_9_method_5_code
def yX7_hasHour : MethodName := ⟨RX7, "hasHour", "(I)Z"⟩
abbrev cX7_hasRider : ByteArray := prog_9_method_6_code
def yX7_hasRider : MethodName := ⟨RX7, "hasRider", "(I)Z"⟩
abbrev cX7_addInn : ByteArray := prog_9_method_7_code
def yX7_addInn : MethodName := ⟨RX7, "addInn", "(I)V"⟩
abbrev cX7_addHour : ByteArray := prog_9_method_8_code
def yX7_addHour : MethodName := ⟨RX7, "addHour", "(III)V"⟩
abbrev cX7_addRider : ByteArray := prog_9_method_9_code
def yX7_addRider : MethodName := ⟨RX7, "addRider", "(II)V"⟩
abbrev cX7_nextInn : ByteArray := prog_9_method_10_code
def yX7_nextInn : MethodName := ⟨RX7, "nextInn", "(II)I"⟩
abbrev cX7_milesBetween : ByteArray := prog_9_method_11_code
def yX7_milesBetween : MethodName := ⟨RX7, "milesBetween", "(II)I"⟩
def RX8 : String := "OstlerHours$Shelf"
def TX8 : u_T := fun k => match k with
  | _ => ("OstlerHours$Shelf", "books", "[LOstlerHours$Book;", true)
def tyX8 : Nat → FieldType := fun k => match k with
  | _ => .array (.object "OstlerHours$Book")
theorem nmX8 : ∀ a, a < 1 → ∀ b, b < 1 → a ≠ b → (TX8 a).2.1 ≠ (TX8 b).2.1 := by decide +kernel
theorem tyX8_ok : ∀ k, k < 1 → parseFieldDescriptor (TX8 k).2.2.1 = some (tyX8 k) := by decide +kernel
abbrev cX8_init : ByteArray := prog_10_method_1_code
def yX8_init : MethodName := ⟨RX8, "<init>", "()V"⟩
abbrev cX8_hasPlace : ByteArray := prog_10_method_2_code
def yX8_hasPlace : MethodName := ⟨RX8, "hasPlace", "(I)Z"⟩
abbrev cX8_closeAll : ByteArray := prog_10_method_3_code
def yX8_closeAll : MethodName := ⟨RX8, "closeAll", "()V"⟩
abbrev cX8_openBooks : ByteArray := prog_10_method_4_code
def yX8_openBooks : MethodName := ⟨RX8, "openBooks", "()I"⟩
abbrev cX8_reachFrom : ByteArray := prog_10_method_5_code
def yX8_reachFrom : MethodName := ⟨RX8, "reachFrom", "(I)I"⟩
abbrev cX8_toldByAll : ByteArray := prog_10_method_6_code
def yX8_toldByAll : MethodName := ⟨RX8, "toldByAll", "(I)I"⟩
abbrev cX8_withoutMissing : ByteArray := prog_10_method_7_code
def yX8_withoutMissing : MethodName := ⟨RX8, "withoutMissing", "(I)I"⟩
abbrev cX8_weightOf : ByteArray := prog_10_method_8_code
def yX8_weightOf : MethodName := ⟨RX8, "weightOf", "(I)I"⟩
def RX9 : String := "OstlerHours$Sightings"
def TX9 : u_T := fun k => match k with
  | 0 => ("OstlerHours$Sightings", "miles", "[I", true)
  | 1 => ("OstlerHours$Sightings", "took", "[I", true)
  | 2 => ("OstlerHours$Sightings", "tiredBy", "[I", true)
  | _ => ("OstlerHours$Sightings", "size", "I", false)
def tyX9 : Nat → FieldType := fun k => match k with
  | 0 => .array .int
  | 1 => .array .int
  | 2 => .array .int
  | _ => .int
theorem nmX9 : ∀ a, a < 4 → ∀ b, b < 4 → a ≠ b → (TX9 a).2.1 ≠ (TX9 b).2.1 := by decide +kernel
theorem tyX9_ok : ∀ k, k < 4 → parseFieldDescriptor (TX9 k).2.2.1 = some (tyX9 k) := by decide +kernel
abbrev cX9_init : ByteArray := prog_11_method_1_code
def yX9_init : MethodName := ⟨RX9, "<init>", "()V"⟩
abbrev cX9_append : ByteArray := prog_11_method_2_code
def yX9_append : MethodName := ⟨RX9, "append", "(III)V"⟩
abbrev cX9_clear : ByteArray := prog_11_method_3_code
def yX9_clear : MethodName := ⟨RX9, "clear", "()V"⟩
abbrev cX9_fittingKinds : ByteArray := prog_11_method_4_code
def yX9_fittingKinds : MethodName := ⟨RX9, "fittingKinds", "()I"⟩
abbrev cX9_fits : ByteArray := prog_11_method_5_code
def yX9_fits : MethodName := ⟨RX9, "fits", "(I)Z"⟩
abbrev cX9_bestMiles : ByteArray := prog_11_method_6_code
def yX9_bestMiles : MethodName := ⟨RX9, "bestMiles", "()I"⟩
abbrev cX9_greatestPart : ByteArray := prog_11_method_7_code
def yX9_greatestPart : MethodName := ⟨RX9, "greatestPart", "(II)I"⟩
abbrev cX9_likeKinds : ByteArray := prog_11_method_8_code
def yX9_likeKinds : MethodName := ⟨RX9, "likeKinds", "(III)I"⟩
def RX10 : String := "OstlerHours$Text"
def TX10 : u_T := fun k => match k with
  | 0 => ("OstlerHours$Text", "letters", "[I", true)
  | 1 => ("OstlerHours$Text", "behind", "I", false)
  | 2 => ("OstlerHours$Text", "length", "I", false)
  | 3 => ("OstlerHours$Text", "place", "I", false)
  | _ => ("OstlerHours$Text", "sort", "I", false)
def tyX10 : Nat → FieldType := fun k => match k with
  | 0 => .array .int
  | 1 => .int
  | 2 => .int
  | 3 => .int
  | _ => .int
theorem nmX10 : ∀ a, a < 5 → ∀ b, b < 5 → a ≠ b → (TX10 a).2.1 ≠ (TX10 b).2.1 := by decide +kernel
theorem tyX10_ok : ∀ k, k < 5 → parseFieldDescriptor (TX10 k).2.2.1 = some (tyX10 k) := by decide +kernel
abbrev cX10_init : ByteArray := prog_12_method_1_code
def yX10_init : MethodName := ⟨RX10, "<init>", "()V"⟩
abbrev cX10_append : ByteArray := prog_12_method_2_code
def yX10_append : MethodName := ⟨RX10, "append", "(I)V"⟩
abbrev cX10_clear : ByteArray := prog_12_method_3_code
def yX10_clear : MethodName := ⟨RX10, "clear", "()V"⟩
abbrev cX10_firstToken : ByteArray := prog_12_method_4_code
def yX10_firstToken : MethodName := ⟨RX10, "firstToken", "()V"⟩
abbrev cX10_nextToken : ByteArray := prog_12_method_5_code
def yX10_nextToken : MethodName := ⟨RX10, "nextToken", "()V"⟩
abbrev cX10_sortOf : ByteArray := prog_12_method_6_code
def yX10_sortOf : MethodName := ⟨RX10, "sortOf", "(I)I"⟩
abbrev cX10_isSemicolon : ByteArray := prog_12_method_7_code
def yX10_isSemicolon : MethodName := ⟨RX10, "isSemicolon", "()Z"⟩
abbrev cX10_isWord : ByteArray := prog_12_method_8_code
def yX10_isWord : MethodName := ⟨RX10, "isWord", "(Ljava/lang/String;)Z"⟩
abbrev cX10_digit : ByteArray := prog_12_method_9_code
def yX10_digit : MethodName := ⟨RX10, "digit", "()I"⟩
def RX11 : String := "OstlerHours"
def TX11 : u_T := fun k => match k with
  | 0 => ("OstlerHours", "told", "LOstlerHours$Road;", true)
  | 1 => ("OstlerHours", "text", "LOstlerHours$Text;", true)
  | 2 => ("OstlerHours", "parser", "LOstlerHours$Parser;", true)
  | 3 => ("OstlerHours", "now", "LOstlerHours$Day;", true)
  | 4 => ("OstlerHours", "foretold", "LOstlerHours$Day;", true)
  | 5 => ("OstlerHours", "past", "LOstlerHours$Past;", true)
  | 6 => ("OstlerHours", "kept", "[LOstlerHours$Day;", true)
  | 7 => ("OstlerHours", "isKept", "[Z", true)
  | 8 => ("OstlerHours", "pairing", "LOstlerHours$Pairing;", true)
  | 9 => ("OstlerHours", "sightings", "LOstlerHours$Sightings;", true)
  | _ => ("OstlerHours", "shelf", "LOstlerHours$Shelf;", true)
def tyX11 : Nat → FieldType := fun k => match k with
  | 0 => .object "OstlerHours$Road"
  | 1 => .object "OstlerHours$Text"
  | 2 => .object "OstlerHours$Parser"
  | 3 => .object "OstlerHours$Day"
  | 4 => .object "OstlerHours$Day"
  | 5 => .object "OstlerHours$Past"
  | 6 => .array (.object "OstlerHours$Day")
  | 7 => .array .boolean
  | 8 => .object "OstlerHours$Pairing"
  | 9 => .object "OstlerHours$Sightings"
  | _ => .object "OstlerHours$Shelf"
theorem nmX11 : ∀ a, a < 11 → ∀ b, b < 11 → a ≠ b → (TX11 a).2.1 ≠ (TX11 b).2.1 := by decide +kernel
theorem tyX11_ok : ∀ k, k < 11 → parseFieldDescriptor (TX11 k).2.2.1 = some (tyX11 k) := by decide +kernel
abbrev cX11_init : ByteArray := prog_1_method_1_code
def yX11_init : MethodName := ⟨RX11, "<init>", "()V"⟩
abbrev cX11_write : ByteArray := prog_1_method_2_code
def yX11_write : MethodName := ⟨RX11, "write", "(I)I"⟩
abbrev cX11_erase : ByteArray := prog_1_method_3_code
def yX11_erase : MethodName := ⟨RX11, "erase", "()I"⟩
abbrev cX11_fault : ByteArray := prog_1_method_4_code
def yX11_fault : MethodName := ⟨RX11, "fault", "()I"⟩
abbrev cX11_road : ByteArray := prog_1_method_5_code
def yX11_road : MethodName := ⟨RX11, "road", "()I"⟩
abbrev cX11_hour : ByteArray := prog_1_method_6_code
def yX11_hour : MethodName := ⟨RX11, "hour", "(II)I"⟩
abbrev cX11_rider : ByteArray := prog_1_method_7_code
def yX11_rider : MethodName := ⟨RX11, "rider", "(II)I"⟩
abbrev cX11_inn : ByteArray := prog_1_method_8_code
def yX11_inn : MethodName := ⟨RX11, "inn", "(I)I"⟩
abbrev cX11_as : ByteArray := prog_1_method_9_code
def yX11_as : MethodName := ⟨RX11, "as", "(II)I"⟩
abbrev cX11_stage : ByteArray := prog_1_method_10_code
def yX11_stage : MethodName := ⟨RX11, "stage", "(I)I"⟩
abbrev cX11_oats : ByteArray := prog_1_method_11_code
def yX11_oats : MethodName := ⟨RX11, "oats", "(I)I"⟩
abbrev cX11_shoe : ByteArray := prog_1_method_12_code
def yX11_shoe : MethodName := ⟨RX11, "shoe", "(I)I"⟩
abbrev cX11_lead : ByteArray := prog_1_method_13_code
def yX11_lead : MethodName := ⟨RX11, "lead", "(II)I"⟩
abbrev cX11_turn : ByteArray := prog_1_method_14_code
def yX11_turn : MethodName := ⟨RX11, "turn", "(II)I"⟩
abbrev cX11_undo : ByteArray := prog_1_method_15_code
def yX11_undo : MethodName := ⟨RX11, "undo", "()I"⟩
abbrev cX11_keep : ByteArray := prog_1_method_16_code
def yX11_keep : MethodName := ⟨RX11, "keep", "(I)I"⟩
abbrev cX11_back : ByteArray := prog_1_method_17_code
def yX11_back : MethodName := ⟨RX11, "back", "(I)I"⟩
abbrev cX11_given : ByteArray := prog_1_method_18_code
def yX11_given : MethodName := ⟨RX11, "given", "(I)I"⟩
abbrev cX11_ahead : ByteArray := prog_1_method_19_code
def yX11_ahead : MethodName := ⟨RX11, "ahead", "(III)I"⟩
abbrev cX11_comes : ByteArray := prog_1_method_20_code
def yX11_comes : MethodName := ⟨RX11, "comes", "(II)I"⟩
abbrev cX11_match : ByteArray := prog_1_method_21_code
def yX11_match : MethodName := ⟨RX11, "match", "(I)I"⟩
abbrev cX11_fastest : ByteArray := prog_1_method_22_code
def yX11_fastest : MethodName := ⟨RX11, "fastest", "(I)I"⟩
abbrev cX11_feed : ByteArray := prog_1_method_23_code
def yX11_feed : MethodName := ⟨RX11, "feed", "(II)I"⟩
abbrev cX11_falls : ByteArray := prog_1_method_24_code
def yX11_falls : MethodName := ⟨RX11, "falls", "(IIII)I"⟩
abbrev cX11_seen : ByteArray := prog_1_method_25_code
def yX11_seen : MethodName := ⟨RX11, "seen", "(III)I"⟩
abbrev cX11_forget : ByteArray := prog_1_method_26_code
def yX11_forget : MethodName := ⟨RX11, "forget", "()I"⟩
abbrev cX11_kinds : ByteArray := prog_1_method_27_code
def yX11_kinds : MethodName := ⟨RX11, "kinds", "()I"⟩
abbrev cX11_ask : ByteArray := prog_1_method_28_code
def yX11_ask : MethodName := ⟨RX11, "ask", "()I"⟩
abbrev cX11_book : ByteArray := prog_1_method_29_code
def yX11_book : MethodName := ⟨RX11, "book", "(II)I"⟩
abbrev cX11_enter : ByteArray := prog_1_method_30_code
def yX11_enter : MethodName := ⟨RX11, "enter", "(IIII)I"⟩
abbrev cX11_read : ByteArray := prog_1_method_31_code
def yX11_read : MethodName := ⟨RX11, "read", "(III)I"⟩
abbrev cX11_weigh : ByteArray := prog_1_method_32_code
def yX11_weigh : MethodName := ⟨RX11, "weigh", "(II)I"⟩
abbrev cX11_copy : ByteArray := prog_1_method_33_code
def yX11_copy : MethodName := ⟨RX11, "copy", "(IIIII)I"⟩
abbrev cX11_drop : ByteArray := prog_1_method_34_code
def yX11_drop : MethodName := ⟨RX11, "drop", "(I)I"⟩
abbrev cX11_count : ByteArray := prog_1_method_35_code
def yX11_count : MethodName := ⟨RX11, "count", "(I)I"⟩
abbrev cX11_beginDay : ByteArray := prog_1_method_36_code
def yX11_beginDay : MethodName := ⟨RX11, "beginDay", "()V"⟩
abbrev cX11_comesFed : ByteArray := prog_1_method_37_code
def yX11_comesFed : MethodName := ⟨RX11, "comesFed", "(III)Z"⟩
def RX12 : String := "OstlerHoursModel"
def TX12 : u_T := fun k => match k with
  | 0 => ("OstlerHoursModel", "row", "[I", true)
  | 1 => ("OstlerHoursModel", "undos", "I", false)
  | 2 => ("OstlerHoursModel", "isKept", "[Z", true)
  | 3 => ("OstlerHoursModel", "text", "[I", true)
  | 4 => ("OstlerHoursModel", "length", "I", false)
  | 5 => ("OstlerHoursModel", "seenMany", "I", false)
  | 6 => ("OstlerHoursModel", "seenMiles", "[I", true)
  | 7 => ("OstlerHoursModel", "seenTook", "[I", true)
  | 8 => ("OstlerHoursModel", "seenTired", "[I", true)
  | 9 => ("OstlerHoursModel", "sizes", "[I", true)
  | 10 => ("OstlerHoursModel", "sorts", "[I", true)
  | 11 => ("OstlerHoursModel", "values", "[I", true)
  | 12 => ("OstlerHoursModel", "first", "I", false)
  | 13 => ("OstlerHoursModel", "behind", "I", false)
  | 14 => ("OstlerHoursModel", "readInns", "I", false)
  | 15 => ("OstlerHoursModel", "readHours", "I", false)
  | 16 => ("OstlerHoursModel", "readRiders", "I", false)
  | 17 => ("OstlerHoursModel", "clauses", "I", false)
  | 18 => ("OstlerHoursModel", "doing", "Z", false)
  | 19 => ("OstlerHoursModel", "numbers", "[I", true)
  | 20 => ("OstlerHoursModel", "roadWord", "[I", true)
  | 21 => ("OstlerHoursModel", "innWord", "[I", true)
  | 22 => ("OstlerHoursModel", "hackWord", "[I", true)
  | 23 => ("OstlerHoursModel", "viciousWord", "[I", true)
  | 24 => ("OstlerHoursModel", "dawnWord", "[I", true)
  | 25 => ("OstlerHoursModel", "greyWord", "[I", true)
  | 26 => ("OstlerHoursModel", "midnightWord", "[I", true)
  | 27 => ("OstlerHoursModel", "riderWord", "[I", true)
  | 28 => ("OstlerHoursModel", "ridden", "I", false)
  | 29 => ("OstlerHoursModel", "led", "I", false)
  | 30 => ("OstlerHoursModel", "line", "[I", true)
  | 31 => ("OstlerHoursModel", "bestLine", "[I", true)
  | 32 => ("OstlerHoursModel", "movedSorts", "[I", true)
  | _ => ("OstlerHoursModel", "movedValues", "[I", true)
def tyX12 : Nat → FieldType := fun k => match k with
  | 0 => .array .int
  | 1 => .int
  | 2 => .array .boolean
  | 3 => .array .int
  | 4 => .int
  | 5 => .int
  | 6 => .array .int
  | 7 => .array .int
  | 8 => .array .int
  | 9 => .array .int
  | 10 => .array .int
  | 11 => .array .int
  | 12 => .int
  | 13 => .int
  | 14 => .int
  | 15 => .int
  | 16 => .int
  | 17 => .int
  | 18 => .boolean
  | 19 => .array .int
  | 20 => .array .int
  | 21 => .array .int
  | 22 => .array .int
  | 23 => .array .int
  | 24 => .array .int
  | 25 => .array .int
  | 26 => .array .int
  | 27 => .array .int
  | 28 => .int
  | 29 => .int
  | 30 => .array .int
  | 31 => .array .int
  | 32 => .array .int
  | _ => .array .int
theorem nmX12 : ∀ a, a < 34 → ∀ b, b < 34 → a ≠ b → (TX12 a).2.1 ≠ (TX12 b).2.1 := by decide +kernel
theorem tyX12_ok : ∀ k, k < 34 → parseFieldDescriptor (TX12 k).2.2.1 = some (tyX12 k) := by decide +kernel
abbrev cX12_init : ByteArray := prog_14_method_1_code
def yX12_init : MethodName := ⟨RX12, "<init>", "()V"⟩
abbrev cX12_in : ByteArray := prog_14_method_2_code
def yX12_in : MethodName := ⟨RX12, "in", "(JJJ)Z"⟩
abbrev cX12_has : ByteArray := prog_14_method_3_code
def yX12_has : MethodName := ⟨RX12, "has", "(II)Z"⟩
abbrev cX12_bits : ByteArray := prog_14_method_4_code
def yX12_bits : MethodName := ⟨RX12, "bits", "(I)I"⟩
abbrev cX12_write : ByteArray := prog_14_method_5_code
def yX12_write : MethodName := ⟨RX12, "write", "(I)I"⟩
abbrev cX12_erase : ByteArray := prog_14_method_6_code
def yX12_erase : MethodName := ⟨RX12, "erase", "()I"⟩
abbrev cX12_isLetter : ByteArray := prog_14_method_7_code
def yX12_isLetter : MethodName := ⟨RX12, "isLetter", "(I)Z"⟩
abbrev cX12_isDigit : ByteArray := prog_14_method_8_code
def yX12_isDigit : MethodName := ⟨RX12, "isDigit", "(I)Z"⟩
abbrev cX12_nextToken : ByteArray := prog_14_method_9_code
def yX12_nextToken : MethodName := ⟨RX12, "nextToken", "()V"⟩
abbrev cX12_isWord : ByteArray := prog_14_method_10_code
def yX12_isWord : MethodName := ⟨RX12, "isWord", "([I)Z"⟩
abbrev cX12_number : ByteArray := prog_14_method_11_code
def yX12_number : MethodName := ⟨RX12, "number", "(III)Z"⟩
abbrev cX12_kindHere : ByteArray := prog_14_method_12_code
def yX12_kindHere : MethodName := ⟨RX12, "kindHere", "()I"⟩
abbrev cX12_readsHour : ByteArray := prog_14_method_13_code
def yX12_readsHour : MethodName := ⟨RX12, "readsHour", "(I)Z"⟩
abbrev cX12_readsInn : ByteArray := prog_14_method_14_code
def yX12_readsInn : MethodName := ⟨RX12, "readsInn", "()Z"⟩
abbrev cX12_readsRider : ByteArray := prog_14_method_15_code
def yX12_readsRider : MethodName := ⟨RX12, "readsRider", "()Z"⟩
abbrev cX12_readsRoad : ByteArray := prog_14_method_16_code
def yX12_readsRoad : MethodName := ⟨RX12, "readsRoad", "()Z"⟩
abbrev cX12_readsClause : ByteArray := prog_14_method_17_code
def yX12_readsClause : MethodName := ⟨RX12, "readsClause", "()Z"⟩
abbrev cX12_reads : ByteArray := prog_14_method_18_code
def yX12_reads : MethodName := ⟨RX12, "reads", "(Z)Z"⟩
abbrev cX12_fault : ByteArray := prog_14_method_19_code
def yX12_fault : MethodName := ⟨RX12, "fault", "()I"⟩
abbrev cX12_copyRoad : ByteArray := prog_14_method_20_code
def yX12_copyRoad : MethodName := ⟨RX12, "copyRoad", "(II)V"⟩
abbrev cX12_road : ByteArray := prog_14_method_21_code
def yX12_road : MethodName := ⟨RX12, "road", "()I"⟩
abbrev cX12_isInn : ByteArray := prog_14_method_22_code
def yX12_isInn : MethodName := ⟨RX12, "isInn", "(I)Z"⟩
abbrev cX12_isHour : ByteArray := prog_14_method_23_code
def yX12_isHour : MethodName := ⟨RX12, "isHour", "(I)Z"⟩
abbrev cX12_isRider : ByteArray := prog_14_method_24_code
def yX12_isRider : MethodName := ⟨RX12, "isRider", "(I)Z"⟩
abbrev cX12_takes : ByteArray := prog_14_method_25_code
def yX12_takes : MethodName := ⟨RX12, "takes", "(II)I"⟩
abbrev cX12_tires : ByteArray := prog_14_method_26_code
def yX12_tires : MethodName := ⟨RX12, "tires", "(II)I"⟩
abbrev cX12_rests : ByteArray := prog_14_method_27_code
def yX12_rests : MethodName := ⟨RX12, "rests", "(I)I"⟩
abbrev cX12_hour : ByteArray := prog_14_method_28_code
def yX12_hour : MethodName := ⟨RX12, "hour", "(II)I"⟩
abbrev cX12_rider : ByteArray := prog_14_method_29_code
def yX12_rider : MethodName := ⟨RX12, "rider", "(II)I"⟩
abbrev cX12_inn : ByteArray := prog_14_method_30_code
def yX12_inn : MethodName := ⟨RX12, "inn", "(I)I"⟩
abbrev cX12_as : ByteArray := prog_14_method_31_code
def yX12_as : MethodName := ⟨RX12, "as", "(II)I"⟩
abbrev cX12_givenIn : ByteArray := prog_14_method_32_code
def yX12_givenIn : MethodName := ⟨RX12, "givenIn", "(II)I"⟩
abbrev cX12_next : ByteArray := prog_14_method_33_code
def yX12_next : MethodName := ⟨RX12, "next", "(II)I"⟩
abbrev cX12_milesOn : ByteArray := prog_14_method_34_code
def yX12_milesOn : MethodName := ⟨RX12, "milesOn", "(III)I"⟩
abbrev cX12_tire : ByteArray := prog_14_method_35_code
def yX12_tire : MethodName := ⟨RX12, "tire", "(III)V"⟩
abbrev cX12_rides : ByteArray := prog_14_method_36_code
def yX12_rides : MethodName := ⟨RX12, "rides", "(II)V"⟩
abbrev cX12_leads : ByteArray := prog_14_method_37_code
def yX12_leads : MethodName := ⟨RX12, "leads", "(II)V"⟩
abbrev cX12_restAll : ByteArray := prog_14_method_38_code
def yX12_restAll : MethodName := ⟨RX12, "restAll", "(I)V"⟩
abbrev cX12_passes : ByteArray := prog_14_method_39_code
def yX12_passes : MethodName := ⟨RX12, "passes", "(I)V"⟩
abbrev cX12_keepPast : ByteArray := prog_14_method_40_code
def yX12_keepPast : MethodName := ⟨RX12, "keepPast", "()V"⟩
abbrev cX12_stage : ByteArray := prog_14_method_41_code
def yX12_stage : MethodName := ⟨RX12, "stage", "(I)I"⟩
abbrev cX12_oat : ByteArray := prog_14_method_42_code
def yX12_oat : MethodName := ⟨RX12, "oat", "(II)V"⟩
abbrev cX12_oats : ByteArray := prog_14_method_43_code
def yX12_oats : MethodName := ⟨RX12, "oats", "(I)I"⟩
abbrev cX12_shoe : ByteArray := prog_14_method_44_code
def yX12_shoe : MethodName := ⟨RX12, "shoe", "(I)I"⟩
abbrev cX12_lead : ByteArray := prog_14_method_45_code
def yX12_lead : MethodName := ⟨RX12, "lead", "(II)I"⟩
abbrev cX12_turn : ByteArray := prog_14_method_46_code
def yX12_turn : MethodName := ⟨RX12, "turn", "(II)I"⟩
abbrev cX12_undo : ByteArray := prog_14_method_47_code
def yX12_undo : MethodName := ⟨RX12, "undo", "()I"⟩
abbrev cX12_keep : ByteArray := prog_14_method_48_code
def yX12_keep : MethodName := ⟨RX12, "keep", "(I)I"⟩
abbrev cX12_back : ByteArray := prog_14_method_49_code
def yX12_back : MethodName := ⟨RX12, "back", "(I)I"⟩
abbrev cX12_isRiding : ByteArray := prog_14_method_50_code
def yX12_isRiding : MethodName := ⟨RX12, "isRiding", "(I)Z"⟩
abbrev cX12_given : ByteArray := prog_14_method_51_code
def yX12_given : MethodName := ⟨RX12, "given", "(I)I"⟩
abbrev cX12_layTried : ByteArray := prog_14_method_52_code
def yX12_layTried : MethodName := ⟨RX12, "layTried", "()V"⟩
abbrev cX12_ahead : ByteArray := prog_14_method_53_code
def yX12_ahead : MethodName := ⟨RX12, "ahead", "(III)I"⟩
abbrev cX12_comesBy : ByteArray := prog_14_method_54_code
def yX12_comesBy : MethodName := ⟨RX12, "comesBy", "(II)I"⟩
abbrev cX12_comes : ByteArray := prog_14_method_55_code
def yX12_comes : MethodName := ⟨RX12, "comes", "(II)I"⟩
abbrev cX12_takenByLine : ByteArray := prog_14_method_56_code
def yX12_takenByLine : MethodName := ⟨RX12, "takenByLine", "()I"⟩
abbrev cX12_nextLine : ByteArray := prog_14_method_57_code
def yX12_nextLine : MethodName := ⟨RX12, "nextLine", "()Z"⟩
abbrev cX12_match : ByteArray := prog_14_method_58_code
def yX12_match : MethodName := ⟨RX12, "match", "(I)I"⟩
abbrev cX12_fastestAt : ByteArray := prog_14_method_59_code
def yX12_fastestAt : MethodName := ⟨RX12, "fastestAt", "(II)I"⟩
abbrev cX12_fastest : ByteArray := prog_14_method_60_code
def yX12_fastest : MethodName := ⟨RX12, "fastest", "(I)I"⟩
abbrev cX12_feed : ByteArray := prog_14_method_61_code
def yX12_feed : MethodName := ⟨RX12, "feed", "(II)I"⟩
abbrev cX12_falls : ByteArray := prog_14_method_62_code
def yX12_falls : MethodName := ⟨RX12, "falls", "(IIII)I"⟩
abbrev cX12_seen : ByteArray := prog_14_method_63_code
def yX12_seen : MethodName := ⟨RX12, "seen", "(III)I"⟩
abbrev cX12_forget : ByteArray := prog_14_method_64_code
def yX12_forget : MethodName := ⟨RX12, "forget", "()I"⟩
abbrev cX12_kinds : ByteArray := prog_14_method_65_code
def yX12_kinds : MethodName := ⟨RX12, "kinds", "()I"⟩
abbrev cX12_greatestPart : ByteArray := prog_14_method_66_code
def yX12_greatestPart : MethodName := ⟨RX12, "greatestPart", "(II)I"⟩
abbrev cX12_ask : ByteArray := prog_14_method_67_code
def yX12_ask : MethodName := ⟨RX12, "ask", "()I"⟩
abbrev cX12_isBook : ByteArray := prog_14_method_68_code
def yX12_isBook : MethodName := ⟨RX12, "isBook", "(I)Z"⟩
abbrev cX12_book : ByteArray := prog_14_method_69_code
def yX12_book : MethodName := ⟨RX12, "book", "(II)I"⟩
abbrev cX12_noLine : ByteArray := prog_14_method_70_code
def yX12_noLine : MethodName := ⟨RX12, "noLine", "(II)I"⟩
abbrev cX12_enter : ByteArray := prog_14_method_71_code
def yX12_enter : MethodName := ⟨RX12, "enter", "(IIII)I"⟩
abbrev cX12_read : ByteArray := prog_14_method_72_code
def yX12_read : MethodName := ⟨RX12, "read", "(III)I"⟩
abbrev cX12_toldBy : ByteArray := prog_14_method_73_code
def yX12_toldBy : MethodName := ⟨RX12, "toldBy", "(I)I"⟩
abbrev cX12_weightOf : ByteArray := prog_14_method_74_code
def yX12_weightOf : MethodName := ⟨RX12, "weightOf", "(I)I"⟩
abbrev cX12_weigh : ByteArray := prog_14_method_75_code
def yX12_weigh : MethodName := ⟨RX12, "weigh", "(II)I"⟩
abbrev cX12_isSpan : ByteArray := prog_14_method_76_code
def yX12_isSpan : MethodName := ⟨RX12, "isSpan", "(III)Z"⟩
abbrev cX12_copy : ByteArray := prog_14_method_77_code
def yX12_copy : MethodName := ⟨RX12, "copy", "(IIIII)I"⟩
abbrev cX12_drop : ByteArray := prog_14_method_78_code
def yX12_drop : MethodName := ⟨RX12, "drop", "(I)I"⟩
abbrev cX12_lameOnes : ByteArray := prog_14_method_79_code
def yX12_lameOnes : MethodName := ⟨RX12, "lameOnes", "()I"⟩
abbrev cX12_thereOnes : ByteArray := prog_14_method_80_code
def yX12_thereOnes : MethodName := ⟨RX12, "thereOnes", "()I"⟩
abbrev cX12_clocks : ByteArray := prog_14_method_81_code
def yX12_clocks : MethodName := ⟨RX12, "clocks", "()I"⟩
abbrev cX12_booksThere : ByteArray := prog_14_method_82_code
def yX12_booksThere : MethodName := ⟨RX12, "booksThere", "()I"⟩
abbrev cX12_count : ByteArray := prog_14_method_83_code
def yX12_count : MethodName := ⟨RX12, "count", "(I)I"⟩
def RJ6 : String := "java/lang/Integer"
abbrev cJ6_compare_7cf53 : ByteArray := prog_15_method_40_code
def yJ6_compare_7cf53 : MethodName := ⟨RJ6, "compare", "(II)I"⟩
abbrev cJ6_bitCount_0f7a4 : ByteArray := prog_15_method_49_code
def yJ6_bitCount_0f7a4 : MethodName := ⟨RJ6, "bitCount", "(I)I"⟩
def RJ9 : String := "java/lang/Math"
abbrev cJ9_max_7cf53 : ByteArray := prog_16_method_65_code
def yJ9_max_7cf53 : MethodName := ⟨RJ9, "max", "(II)I"⟩
abbrev cJ9_min_7cf53 : ByteArray := prog_16_method_69_code
def yJ9_min_7cf53 : MethodName := ⟨RJ9, "min", "(II)I"⟩
def RJ0 : String := "java/lang/String"
abbrev cJ0_length_8abf5 : ByteArray := prog_17_method_54_code
def yJ0_length_8abf5 : MethodName := ⟨RJ0, "length", "()I"⟩
abbrev cJ0_charAt_5068e : ByteArray := prog_17_method_56_code
def yJ0_charAt_5068e : MethodName := ⟨RJ0, "charAt", "(I)C"⟩
abbrev cJ0_coder_7d493 : ByteArray := prog_17_method_152_code
def yJ0_coder_7d493 : MethodName := ⟨RJ0, "coder", "()B"⟩
abbrev cJ0_isLatin1_aae02 : ByteArray := prog_17_method_154_code
def yJ0_isLatin1_aae02 : MethodName := ⟨RJ0, "isLatin1", "()Z"⟩
abbrev cJ0_checkIndex_df160 : ByteArray := prog_17_method_155_code
def yJ0_checkIndex_df160 : MethodName := ⟨RJ0, "checkIndex", "(II)V"⟩
def RJ1 : String := "java/lang/StringLatin1"
abbrev cJ1_charAt_3b067 : ByteArray := prog_18_method_2_code
def yJ1_charAt_3b067 : MethodName := ⟨RJ1, "charAt", "([BI)C"⟩
def RJ2 : String := "java/lang/StringUTF16"
abbrev cJ2_getChar_3b067 : ByteArray := prog_19_method_5_code
def yJ2_getChar_3b067 : MethodName := ⟨RJ2, "getChar", "([BI)C"⟩
abbrev cJ2_length_9d52b : ByteArray := prog_19_method_6_code
def yJ2_length_9d52b : MethodName := ⟨RJ2, "length", "([B)I"⟩
abbrev cJ2_charAt_3b067 : ByteArray := prog_19_method_83_code
def yJ2_charAt_3b067 : MethodName := ⟨RJ2, "charAt", "([BI)C"⟩
abbrev cJ2_checkIndex_2214a : ByteArray := prog_19_method_91_code
def yJ2_checkIndex_2214a : MethodName := ⟨RJ2, "checkIndex", "(I[B)V"⟩
def RJ10 : String := "java/lang/System"
def RJ3 : String := "jdk/internal/util/Preconditions"
abbrev cJ3_checkIndex_8e157 : ByteArray := prog_21_method_11_code
def yJ3_checkIndex_8e157 : MethodName := ⟨RJ3, "checkIndex", "(IILjava/util/function/BiFunction;)I"⟩
def RL : String := "OstlerHoursLaw"
abbrev cL_law : ByteArray := code
def yL_law : MethodName := ⟨RL, "law", "([I)Z"⟩
abbrev vwCl : List vw_C := [(RX0, TX0, 3), (RX1, TX1, 9), (RX4, TX4, 4), (RX5, TX5, 3), (RX6, TX6, 3), (RX7, TX7, 9), (RX8, TX8, 1), (RX9, TX9, 4), (RX10, TX10, 5), (RX11, TX11, 11), (RX12, TX12, 34)]
end
section
theorem dX0_init_0 : decode cX0_init 0 = .ok (.aload_n 0, 1) := by decide +kernel
theorem dX0_init_1 : decode cX0_init 1 = .ok (.invokespecial 3, 3) := by decide +kernel
theorem dX0_init_4 : decode cX0_init 4 = .ok (.aload_n 0, 1) := by decide +kernel
theorem dX0_init_5 : decode cX0_init 5 = .ok (.bipush 10, 2) := by decide +kernel
theorem dX0_init_7 : decode cX0_init 7 = .ok (.newarray .int, 2) := by decide +kernel
theorem dX0_init_9 : decode cX0_init 9 = .ok (.putfield 9, 3) := by decide +kernel
theorem dX0_init_12 : decode cX0_init 12 = .ok (.aload_n 0, 1) := by decide +kernel
theorem dX0_init_13 : decode cX0_init 13 = .ok (.bipush 10, 2) := by decide +kernel
theorem dX0_init_15 : decode cX0_init 15 = .ok (.newarray .int, 2) := by decide +kernel
theorem dX0_init_17 : decode cX0_init 17 = .ok (.putfield 15, 3) := by decide +kernel
theorem dX0_init_20 : decode cX0_init 20 = .ok (.aload_n 0, 1) := by decide +kernel
theorem dX0_init_21 : decode cX0_init 21 = .ok (.iconst (-1), 1) := by decide +kernel
theorem dX0_init_22 : decode cX0_init 22 = .ok (.putfield 18, 3) := by decide +kernel
theorem dX0_init_25 : decode cX0_init 25 = .ok (.return_, 1) := by decide +kernel
theorem dX0_open_0 : decode cX0_open 0 = .ok (.aload_n 0, 1) := by decide +kernel
theorem dX0_open_1 : decode cX0_open 1 = .ok (.iload_n 1, 1) := by decide +kernel
theorem dX0_open_2 : decode cX0_open 2 = .ok (.bipush 10, 2) := by decide +kernel
theorem dX0_open_4 : decode cX0_open 4 = .ok (.invokestatic 22, 3) := by decide +kernel
theorem dX0_open_7 : decode cX0_open 7 = .ok (.putfield 18, 3) := by decide +kernel
theorem dX0_open_10 : decode cX0_open 10 = .ok (.iconst 0, 1) := by decide +kernel
theorem dX0_open_11 : decode cX0_open 11 = .ok (.istore_n 2, 1) := by decide +kernel
theorem dX0_open_12 : decode cX0_open 12 = .ok (.iload_n 2, 1) := by decide +kernel
theorem dX0_open_13 : decode cX0_open 13 = .ok (.bipush 10, 2) := by decide +kernel
theorem dX0_open_15 : decode cX0_open 15 = .ok (.if_icmp .ge 16, 3) := by decide +kernel
theorem dX0_open_18 : decode cX0_open 18 = .ok (.aload_n 0, 1) := by decide +kernel
theorem dX0_open_19 : decode cX0_open 19 = .ok (.getfield 9, 3) := by decide +kernel
theorem dX0_open_22 : decode cX0_open 22 = .ok (.iload_n 2, 1) := by decide +kernel
theorem dX0_open_23 : decode cX0_open 23 = .ok (.iconst 3, 1) := by decide +kernel
theorem dX0_open_24 : decode cX0_open 24 = .ok (.iastore, 1) := by decide +kernel
theorem dX0_open_25 : decode cX0_open 25 = .ok (.iinc 2 1, 3) := by decide +kernel
theorem dX0_open_28 : decode cX0_open 28 = .ok (.goto (-16), 3) := by decide +kernel
theorem dX0_open_31 : decode cX0_open 31 = .ok (.return_, 1) := by decide +kernel
theorem dX0_close_0 : decode cX0_close 0 = .ok (.aload_n 0, 1) := by decide +kernel
theorem dX0_close_1 : decode cX0_close 1 = .ok (.iconst (-1), 1) := by decide +kernel
theorem dX0_close_2 : decode cX0_close 2 = .ok (.putfield 18, 3) := by decide +kernel
theorem dX0_close_5 : decode cX0_close 5 = .ok (.return_, 1) := by decide +kernel
theorem dX0_isMissing_0 : decode cX0_isMissing 0 = .ok (.aload_n 0, 1) := by decide +kernel
theorem dX0_isMissing_1 : decode cX0_isMissing 1 = .ok (.getfield 18, 3) := by decide +kernel
theorem dX0_isMissing_4 : decode cX0_isMissing 4 = .ok (.iconst (-1), 1) := by decide +kernel
theorem dX0_isMissing_5 : decode cX0_isMissing 5 = .ok (.if_icmp .ne 7, 3) := by decide +kernel
theorem dX0_isMissing_8 : decode cX0_isMissing 8 = .ok (.iconst 1, 1) := by decide +kernel
theorem dX0_isMissing_9 : decode cX0_isMissing 9 = .ok (.goto 4, 3) := by decide +kernel
theorem dX0_isMissing_12 : decode cX0_isMissing 12 = .ok (.iconst 0, 1) := by decide +kernel
theorem dX0_isMissing_13 : decode cX0_isMissing 13 = .ok (.ireturn, 1) := by decide +kernel
theorem dX0_hasLine_0 : decode cX0_hasLine 0 = .ok (.iload_n 1, 1) := by decide +kernel
theorem dX0_hasLine_1 : decode cX0_hasLine 1 = .ok (.ifCond .lt 15, 3) := by decide +kernel
theorem dX0_hasLine_4 : decode cX0_hasLine 4 = .ok (.iload_n 1, 1) := by decide +kernel
theorem dX0_hasLine_5 : decode cX0_hasLine 5 = .ok (.aload_n 0, 1) := by decide +kernel
theorem dX0_hasLine_6 : decode cX0_hasLine 6 = .ok (.getfield 18, 3) := by decide +kernel
theorem dX0_hasLine_9 : decode cX0_hasLine 9 = .ok (.if_icmp .ge 7, 3) := by decide +kernel
theorem dX0_hasLine_12 : decode cX0_hasLine 12 = .ok (.iconst 1, 1) := by decide +kernel
theorem dX0_hasLine_13 : decode cX0_hasLine 13 = .ok (.goto 4, 3) := by decide +kernel
theorem dX0_hasLine_16 : decode cX0_hasLine 16 = .ok (.iconst 0, 1) := by decide +kernel
theorem dX0_hasLine_17 : decode cX0_hasLine 17 = .ok (.ireturn, 1) := by decide +kernel
theorem dX0_hasLines_0 : decode cX0_hasLines 0 = .ok (.iload_n 1, 1) := by decide +kernel
theorem dX0_hasLines_1 : decode cX0_hasLines 1 = .ok (.ifCond .lt 21, 3) := by decide +kernel
theorem dX0_hasLines_4 : decode cX0_hasLines 4 = .ok (.iload_n 2, 1) := by decide +kernel
theorem dX0_hasLines_5 : decode cX0_hasLines 5 = .ok (.ifCond .lt 17, 3) := by decide +kernel
theorem dX0_hasLines_8 : decode cX0_hasLines 8 = .ok (.iload_n 1, 1) := by decide +kernel
theorem dX0_hasLines_9 : decode cX0_hasLines 9 = .ok (.aload_n 0, 1) := by decide +kernel
theorem dX0_hasLines_10 : decode cX0_hasLines 10 = .ok (.getfield 18, 3) := by decide +kernel
theorem dX0_hasLines_13 : decode cX0_hasLines 13 = .ok (.iload_n 2, 1) := by decide +kernel
theorem dX0_hasLines_14 : decode cX0_hasLines 14 = .ok (.isub, 1) := by decide +kernel
theorem dX0_hasLines_15 : decode cX0_hasLines 15 = .ok (.if_icmp .gt 7, 3) := by decide +kernel
theorem dX0_hasLines_18 : decode cX0_hasLines 18 = .ok (.iconst 1, 1) := by decide +kernel
theorem dX0_hasLines_19 : decode cX0_hasLines 19 = .ok (.goto 4, 3) := by decide +kernel
theorem dX0_hasLines_22 : decode cX0_hasLines 22 = .ok (.iconst 0, 1) := by decide +kernel
theorem dX0_hasLines_23 : decode cX0_hasLines 23 = .ok (.ireturn, 1) := by decide +kernel
theorem dX0_filledLines_0 : decode cX0_filledLines 0 = .ok (.iconst 0, 1) := by decide +kernel
theorem dX0_filledLines_1 : decode cX0_filledLines 1 = .ok (.istore_n 1, 1) := by decide +kernel
theorem dX0_filledLines_2 : decode cX0_filledLines 2 = .ok (.iconst 0, 1) := by decide +kernel
theorem dX0_filledLines_3 : decode cX0_filledLines 3 = .ok (.istore_n 2, 1) := by decide +kernel
theorem dX0_filledLines_4 : decode cX0_filledLines 4 = .ok (.iload_n 2, 1) := by decide +kernel
theorem dX0_filledLines_5 : decode cX0_filledLines 5 = .ok (.aload_n 0, 1) := by decide +kernel
theorem dX0_filledLines_6 : decode cX0_filledLines 6 = .ok (.getfield 18, 3) := by decide +kernel
theorem dX0_filledLines_9 : decode cX0_filledLines 9 = .ok (.if_icmp .ge 22, 3) := by decide +kernel
theorem dX0_filledLines_12 : decode cX0_filledLines 12 = .ok (.aload_n 0, 1) := by decide +kernel
theorem dX0_filledLines_13 : decode cX0_filledLines 13 = .ok (.getfield 9, 3) := by decide +kernel
theorem dX0_filledLines_16 : decode cX0_filledLines 16 = .ok (.iload_n 2, 1) := by decide +kernel
theorem dX0_filledLines_17 : decode cX0_filledLines 17 = .ok (.iaload, 1) := by decide +kernel
theorem dX0_filledLines_18 : decode cX0_filledLines 18 = .ok (.iconst 3, 1) := by decide +kernel
theorem dX0_filledLines_19 : decode cX0_filledLines 19 = .ok (.if_icmp .eq 6, 3) := by decide +kernel
theorem dX0_filledLines_22 : decode cX0_filledLines 22 = .ok (.iinc 1 1, 3) := by decide +kernel
theorem dX0_filledLines_25 : decode cX0_filledLines 25 = .ok (.iinc 2 1, 3) := by decide +kernel
theorem dX0_filledLines_28 : decode cX0_filledLines 28 = .ok (.goto (-24), 3) := by decide +kernel
theorem dX0_filledLines_31 : decode cX0_filledLines 31 = .ok (.iload_n 1, 1) := by decide +kernel
theorem dX0_filledLines_32 : decode cX0_filledLines 32 = .ok (.ireturn, 1) := by decide +kernel
theorem dX0_toldBooks_0 : decode cX0_toldBooks 0 = .ok (.iconst 0, 1) := by decide +kernel
theorem dX0_toldBooks_1 : decode cX0_toldBooks 1 = .ok (.istore_n 1, 1) := by decide +kernel
theorem dX0_toldBooks_2 : decode cX0_toldBooks 2 = .ok (.iconst 0, 1) := by decide +kernel
theorem dX0_toldBooks_3 : decode cX0_toldBooks 3 = .ok (.istore_n 2, 1) := by decide +kernel
theorem dX0_toldBooks_4 : decode cX0_toldBooks 4 = .ok (.iload_n 2, 1) := by decide +kernel
theorem dX0_toldBooks_5 : decode cX0_toldBooks 5 = .ok (.aload_n 0, 1) := by decide +kernel
theorem dX0_toldBooks_6 : decode cX0_toldBooks 6 = .ok (.getfield 18, 3) := by decide +kernel
theorem dX0_toldBooks_9 : decode cX0_toldBooks 9 = .ok (.if_icmp .ge 30, 3) := by decide +kernel
theorem dX0_toldBooks_12 : decode cX0_toldBooks 12 = .ok (.aload_n 0, 1) := by decide +kernel
theorem dX0_toldBooks_13 : decode cX0_toldBooks 13 = .ok (.getfield 9, 3) := by decide +kernel
theorem dX0_toldBooks_16 : decode cX0_toldBooks 16 = .ok (.iload_n 2, 1) := by decide +kernel
theorem dX0_toldBooks_17 : decode cX0_toldBooks 17 = .ok (.iaload, 1) := by decide +kernel
theorem dX0_toldBooks_18 : decode cX0_toldBooks 18 = .ok (.iconst 2, 1) := by decide +kernel
theorem dX0_toldBooks_19 : decode cX0_toldBooks 19 = .ok (.if_icmp .ne 14, 3) := by decide +kernel
theorem dX0_toldBooks_22 : decode cX0_toldBooks 22 = .ok (.iload_n 1, 1) := by decide +kernel
theorem dX0_toldBooks_23 : decode cX0_toldBooks 23 = .ok (.iconst 1, 1) := by decide +kernel
theorem dX0_toldBooks_24 : decode cX0_toldBooks 24 = .ok (.aload_n 0, 1) := by decide +kernel
theorem dX0_toldBooks_25 : decode cX0_toldBooks 25 = .ok (.getfield 15, 3) := by decide +kernel
theorem dX0_toldBooks_28 : decode cX0_toldBooks 28 = .ok (.iload_n 2, 1) := by decide +kernel
theorem dX0_toldBooks_29 : decode cX0_toldBooks 29 = .ok (.iaload, 1) := by decide +kernel
theorem dX0_toldBooks_30 : decode cX0_toldBooks 30 = .ok (.ishl, 1) := by decide +kernel
theorem dX0_toldBooks_31 : decode cX0_toldBooks 31 = .ok (.ior, 1) := by decide +kernel
theorem dX0_toldBooks_32 : decode cX0_toldBooks 32 = .ok (.istore_n 1, 1) := by decide +kernel
theorem dX0_toldBooks_33 : decode cX0_toldBooks 33 = .ok (.iinc 2 1, 3) := by decide +kernel
theorem dX0_toldBooks_36 : decode cX0_toldBooks 36 = .ok (.goto (-32), 3) := by decide +kernel
theorem dX0_toldBooks_39 : decode cX0_toldBooks 39 = .ok (.iload_n 1, 1) := by decide +kernel
theorem dX0_toldBooks_40 : decode cX0_toldBooks 40 = .ok (.ireturn, 1) := by decide +kernel
theorem dX0_ownWeight_0 : decode cX0_ownWeight 0 = .ok (.iconst 0, 1) := by decide +kernel
theorem dX0_ownWeight_1 : decode cX0_ownWeight 1 = .ok (.istore_n 1, 1) := by decide +kernel
theorem dX0_ownWeight_2 : decode cX0_ownWeight 2 = .ok (.iconst 0, 1) := by decide +kernel
theorem dX0_ownWeight_3 : decode cX0_ownWeight 3 = .ok (.istore_n 2, 1) := by decide +kernel
theorem dX0_ownWeight_4 : decode cX0_ownWeight 4 = .ok (.iload_n 2, 1) := by decide +kernel
theorem dX0_ownWeight_5 : decode cX0_ownWeight 5 = .ok (.aload_n 0, 1) := by decide +kernel
theorem dX0_ownWeight_6 : decode cX0_ownWeight 6 = .ok (.getfield 18, 3) := by decide +kernel
theorem dX0_ownWeight_9 : decode cX0_ownWeight 9 = .ok (.if_icmp .ge 46, 3) := by decide +kernel
theorem dX0_ownWeight_12 : decode cX0_ownWeight 12 = .ok (.aload_n 0, 1) := by decide +kernel
theorem dX0_ownWeight_13 : decode cX0_ownWeight 13 = .ok (.getfield 9, 3) := by decide +kernel
theorem dX0_ownWeight_16 : decode cX0_ownWeight 16 = .ok (.iload_n 2, 1) := by decide +kernel
theorem dX0_ownWeight_17 : decode cX0_ownWeight 17 = .ok (.iaload, 1) := by decide +kernel
theorem dX0_ownWeight_18 : decode cX0_ownWeight 18 = .ok (.ifCond .ne 15, 3) := by decide +kernel
theorem dX0_ownWeight_21 : decode cX0_ownWeight 21 = .ok (.iload_n 1, 1) := by decide +kernel
theorem dX0_ownWeight_22 : decode cX0_ownWeight 22 = .ok (.aload_n 0, 1) := by decide +kernel
theorem dX0_ownWeight_23 : decode cX0_ownWeight 23 = .ok (.getfield 15, 3) := by decide +kernel
theorem dX0_ownWeight_26 : decode cX0_ownWeight 26 = .ok (.iload_n 2, 1) := by decide +kernel
theorem dX0_ownWeight_27 : decode cX0_ownWeight 27 = .ok (.iaload, 1) := by decide +kernel
theorem dX0_ownWeight_28 : decode cX0_ownWeight 28 = .ok (.iadd, 1) := by decide +kernel
theorem dX0_ownWeight_29 : decode cX0_ownWeight 29 = .ok (.istore_n 1, 1) := by decide +kernel
theorem dX0_ownWeight_30 : decode cX0_ownWeight 30 = .ok (.goto 19, 3) := by decide +kernel
theorem dX0_ownWeight_33 : decode cX0_ownWeight 33 = .ok (.aload_n 0, 1) := by decide +kernel
theorem dX0_ownWeight_34 : decode cX0_ownWeight 34 = .ok (.getfield 9, 3) := by decide +kernel
theorem dX0_ownWeight_37 : decode cX0_ownWeight 37 = .ok (.iload_n 2, 1) := by decide +kernel
theorem dX0_ownWeight_38 : decode cX0_ownWeight 38 = .ok (.iaload, 1) := by decide +kernel
theorem dX0_ownWeight_39 : decode cX0_ownWeight 39 = .ok (.iconst 1, 1) := by decide +kernel
theorem dX0_ownWeight_40 : decode cX0_ownWeight 40 = .ok (.if_icmp .ne 9, 3) := by decide +kernel
theorem dX0_ownWeight_43 : decode cX0_ownWeight 43 = .ok (.iinc 1 1000, 6) := by decide +kernel
theorem dX0_ownWeight_49 : decode cX0_ownWeight 49 = .ok (.iinc 2 1, 3) := by decide +kernel
theorem dX0_ownWeight_52 : decode cX0_ownWeight 52 = .ok (.goto (-48), 3) := by decide +kernel
theorem dX0_ownWeight_55 : decode cX0_ownWeight 55 = .ok (.iload_n 1, 1) := by decide +kernel
theorem dX0_ownWeight_56 : decode cX0_ownWeight 56 = .ok (.ireturn, 1) := by decide +kernel
theorem dX1_init_0 : decode cX1_init 0 = .ok (.aload_n 0, 1) := by decide +kernel
theorem dX1_init_1 : decode cX1_init 1 = .ok (.invokespecial 5, 3) := by decide +kernel
theorem dX1_init_4 : decode cX1_init 4 = .ok (.aload_n 0, 1) := by decide +kernel
theorem dX1_init_5 : decode cX1_init 5 = .ok (.bipush 8, 2) := by decide +kernel
theorem dX1_init_7 : decode cX1_init 7 = .ok (.newarray .int, 2) := by decide +kernel
theorem dX1_init_9 : decode cX1_init 9 = .ok (.putfield 11, 3) := by decide +kernel
theorem dX1_init_12 : decode cX1_init 12 = .ok (.aload_n 0, 1) := by decide +kernel
theorem dX1_init_13 : decode cX1_init 13 = .ok (.bipush 8, 2) := by decide +kernel
theorem dX1_init_15 : decode cX1_init 15 = .ok (.newarray .int, 2) := by decide +kernel
theorem dX1_init_17 : decode cX1_init 17 = .ok (.putfield 15, 3) := by decide +kernel
theorem dX1_init_20 : decode cX1_init 20 = .ok (.aload_n 0, 1) := by decide +kernel
theorem dX1_init_21 : decode cX1_init 21 = .ok (.bipush 8, 2) := by decide +kernel
theorem dX1_init_23 : decode cX1_init 23 = .ok (.newarray .int, 2) := by decide +kernel
theorem dX1_init_25 : decode cX1_init 25 = .ok (.putfield 18, 3) := by decide +kernel
theorem dX1_init_28 : decode cX1_init 28 = .ok (.aload_n 0, 1) := by decide +kernel
theorem dX1_init_29 : decode cX1_init 29 = .ok (.iconst 4, 1) := by decide +kernel
theorem dX1_init_30 : decode cX1_init 30 = .ok (.newarray .int, 2) := by decide +kernel
theorem dX1_init_32 : decode cX1_init 32 = .ok (.putfield 21, 3) := by decide +kernel
theorem dX1_init_35 : decode cX1_init 35 = .ok (.aload_n 0, 1) := by decide +kernel
theorem dX1_init_36 : decode cX1_init 36 = .ok (.iconst 4, 1) := by decide +kernel
theorem dX1_init_37 : decode cX1_init 37 = .ok (.newarray .int, 2) := by decide +kernel
theorem dX1_init_39 : decode cX1_init 39 = .ok (.putfield 24, 3) := by decide +kernel
theorem dX1_init_42 : decode cX1_init 42 = .ok (.aload_n 0, 1) := by decide +kernel
theorem dX1_init_43 : decode cX1_init 43 = .ok (.iconst 4, 1) := by decide +kernel
theorem dX1_init_44 : decode cX1_init 44 = .ok (.newarray .int, 2) := by decide +kernel
theorem dX1_init_46 : decode cX1_init 46 = .ok (.putfield 27, 3) := by decide +kernel
theorem dX1_init_49 : decode cX1_init 49 = .ok (.aload_n 0, 1) := by decide +kernel
theorem dX1_init_50 : decode cX1_init 50 = .ok (.aload_n 1, 1) := by decide +kernel
theorem dX1_init_51 : decode cX1_init 51 = .ok (.putfield 30, 3) := by decide +kernel
theorem dX1_init_54 : decode cX1_init 54 = .ok (.return_, 1) := by decide +kernel
theorem dX1_begin_0 : decode cX1_begin 0 = .ok (.aload_n 0, 1) := by decide +kernel
theorem dX1_begin_1 : decode cX1_begin 1 = .ok (.iconst 0, 1) := by decide +kernel
theorem dX1_begin_2 : decode cX1_begin 2 = .ok (.putfield 34, 3) := by decide +kernel
theorem dX1_begin_5 : decode cX1_begin 5 = .ok (.aload_n 0, 1) := by decide +kernel
theorem dX1_begin_6 : decode cX1_begin 6 = .ok (.iconst 0, 1) := by decide +kernel
theorem dX1_begin_7 : decode cX1_begin 7 = .ok (.putfield 38, 3) := by decide +kernel
theorem dX1_begin_10 : decode cX1_begin 10 = .ok (.iconst 0, 1) := by decide +kernel
theorem dX1_begin_11 : decode cX1_begin 11 = .ok (.istore_n 1, 1) := by decide +kernel
theorem dX1_begin_12 : decode cX1_begin 12 = .ok (.iload_n 1, 1) := by decide +kernel
theorem dX1_begin_13 : decode cX1_begin 13 = .ok (.aload_n 0, 1) := by decide +kernel
theorem dX1_begin_14 : decode cX1_begin 14 = .ok (.getfield 30, 3) := by decide +kernel
theorem dX1_begin_17 : decode cX1_begin 17 = .ok (.getfield 41, 3) := by decide +kernel
theorem dX1_begin_20 : decode cX1_begin 20 = .ok (.if_icmp .ge 46, 3) := by decide +kernel
theorem dX1_begin_23 : decode cX1_begin 23 = .ok (.aload_n 0, 1) := by decide +kernel
theorem dX1_begin_24 : decode cX1_begin 24 = .ok (.getfield 11, 3) := by decide +kernel
theorem dX1_begin_27 : decode cX1_begin 27 = .ok (.iload_n 1, 1) := by decide +kernel
theorem dX1_begin_28 : decode cX1_begin 28 = .ok (.aload_n 0, 1) := by decide +kernel
theorem dX1_begin_29 : decode cX1_begin 29 = .ok (.getfield 30, 3) := by decide +kernel
theorem dX1_begin_32 : decode cX1_begin 32 = .ok (.getfield 46, 3) := by decide +kernel
theorem dX1_begin_35 : decode cX1_begin 35 = .ok (.iload_n 1, 1) := by decide +kernel
theorem dX1_begin_36 : decode cX1_begin 36 = .ok (.iaload, 1) := by decide +kernel
theorem dX1_begin_37 : decode cX1_begin 37 = .ok (.iastore, 1) := by decide +kernel
theorem dX1_begin_38 : decode cX1_begin 38 = .ok (.aload_n 0, 1) := by decide +kernel
theorem dX1_begin_39 : decode cX1_begin 39 = .ok (.getfield 15, 3) := by decide +kernel
theorem dX1_begin_42 : decode cX1_begin 42 = .ok (.iload_n 1, 1) := by decide +kernel
theorem dX1_begin_43 : decode cX1_begin 43 = .ok (.aload_n 0, 1) := by decide +kernel
theorem dX1_begin_44 : decode cX1_begin 44 = .ok (.getfield 30, 3) := by decide +kernel
theorem dX1_begin_47 : decode cX1_begin 47 = .ok (.getfield 49, 3) := by decide +kernel
theorem dX1_begin_50 : decode cX1_begin 50 = .ok (.iload_n 1, 1) := by decide +kernel
theorem dX1_begin_51 : decode cX1_begin 51 = .ok (.iaload, 1) := by decide +kernel
theorem dX1_begin_52 : decode cX1_begin 52 = .ok (.iastore, 1) := by decide +kernel
theorem dX1_begin_53 : decode cX1_begin 53 = .ok (.aload_n 0, 1) := by decide +kernel
theorem dX1_begin_54 : decode cX1_begin 54 = .ok (.getfield 18, 3) := by decide +kernel
theorem dX1_begin_57 : decode cX1_begin 57 = .ok (.iload_n 1, 1) := by decide +kernel
theorem dX1_begin_58 : decode cX1_begin 58 = .ok (.iconst 0, 1) := by decide +kernel
theorem dX1_begin_59 : decode cX1_begin 59 = .ok (.iastore, 1) := by decide +kernel
theorem dX1_begin_60 : decode cX1_begin 60 = .ok (.iinc 1 1, 3) := by decide +kernel
theorem dX1_begin_63 : decode cX1_begin 63 = .ok (.goto (-51), 3) := by decide +kernel
theorem dX1_begin_66 : decode cX1_begin 66 = .ok (.iconst 0, 1) := by decide +kernel
theorem dX1_begin_67 : decode cX1_begin 67 = .ok (.istore_n 1, 1) := by decide +kernel
theorem dX1_begin_68 : decode cX1_begin 68 = .ok (.iload_n 1, 1) := by decide +kernel
theorem dX1_begin_69 : decode cX1_begin 69 = .ok (.aload_n 0, 1) := by decide +kernel
theorem dX1_begin_70 : decode cX1_begin 70 = .ok (.getfield 30, 3) := by decide +kernel
theorem dX1_begin_73 : decode cX1_begin 73 = .ok (.getfield 50, 3) := by decide +kernel
theorem dX1_begin_76 : decode cX1_begin 76 = .ok (.if_icmp .ge 46, 3) := by decide +kernel
theorem dX1_begin_79 : decode cX1_begin 79 = .ok (.aload_n 0, 1) := by decide +kernel
theorem dX1_begin_80 : decode cX1_begin 80 = .ok (.getfield 21, 3) := by decide +kernel
theorem dX1_begin_83 : decode cX1_begin 83 = .ok (.iload_n 1, 1) := by decide +kernel
theorem dX1_begin_84 : decode cX1_begin 84 = .ok (.aload_n 0, 1) := by decide +kernel
theorem dX1_begin_85 : decode cX1_begin 85 = .ok (.getfield 30, 3) := by decide +kernel
theorem dX1_begin_88 : decode cX1_begin 88 = .ok (.getfield 53, 3) := by decide +kernel
theorem dX1_begin_91 : decode cX1_begin 91 = .ok (.iload_n 1, 1) := by decide +kernel
theorem dX1_begin_92 : decode cX1_begin 92 = .ok (.iaload, 1) := by decide +kernel
theorem dX1_begin_93 : decode cX1_begin 93 = .ok (.iastore, 1) := by decide +kernel
theorem dX1_begin_94 : decode cX1_begin 94 = .ok (.aload_n 0, 1) := by decide +kernel
theorem dX1_begin_95 : decode cX1_begin 95 = .ok (.getfield 24, 3) := by decide +kernel
theorem dX1_begin_98 : decode cX1_begin 98 = .ok (.iload_n 1, 1) := by decide +kernel
theorem dX1_begin_99 : decode cX1_begin 99 = .ok (.aload_n 0, 1) := by decide +kernel
theorem dX1_begin_100 : decode cX1_begin 100 = .ok (.getfield 30, 3) := by decide +kernel
theorem dX1_begin_103 : decode cX1_begin 103 = .ok (.getfield 56, 3) := by decide +kernel
theorem dX1_begin_106 : decode cX1_begin 106 = .ok (.iload_n 1, 1) := by decide +kernel
theorem dX1_begin_107 : decode cX1_begin 107 = .ok (.iaload, 1) := by decide +kernel
theorem dX1_begin_108 : decode cX1_begin 108 = .ok (.iastore, 1) := by decide +kernel
theorem dX1_begin_109 : decode cX1_begin 109 = .ok (.aload_n 0, 1) := by decide +kernel
theorem dX1_begin_110 : decode cX1_begin 110 = .ok (.getfield 27, 3) := by decide +kernel
theorem dX1_begin_113 : decode cX1_begin 113 = .ok (.iload_n 1, 1) := by decide +kernel
theorem dX1_begin_114 : decode cX1_begin 114 = .ok (.iconst 0, 1) := by decide +kernel
theorem dX1_begin_115 : decode cX1_begin 115 = .ok (.iastore, 1) := by decide +kernel
theorem dX1_begin_116 : decode cX1_begin 116 = .ok (.iinc 1 1, 3) := by decide +kernel
theorem dX1_begin_119 : decode cX1_begin 119 = .ok (.goto (-51), 3) := by decide +kernel
theorem dX1_begin_122 : decode cX1_begin 122 = .ok (.return_, 1) := by decide +kernel
theorem dX1_become_0 : decode cX1_become 0 = .ok (.aload_n 0, 1) := by decide +kernel
theorem dX1_become_1 : decode cX1_become 1 = .ok (.aload_n 1, 1) := by decide +kernel
theorem dX1_become_2 : decode cX1_become 2 = .ok (.getfield 34, 3) := by decide +kernel
theorem dX1_become_5 : decode cX1_become 5 = .ok (.putfield 34, 3) := by decide +kernel
theorem dX1_become_8 : decode cX1_become 8 = .ok (.aload_n 0, 1) := by decide +kernel
theorem dX1_become_9 : decode cX1_become 9 = .ok (.aload_n 1, 1) := by decide +kernel
theorem dX1_become_10 : decode cX1_become 10 = .ok (.getfield 38, 3) := by decide +kernel
theorem dX1_become_13 : decode cX1_become 13 = .ok (.putfield 38, 3) := by decide +kernel
theorem dX1_become_16 : decode cX1_become 16 = .ok (.aload_n 1, 1) := by decide +kernel
theorem dX1_become_17 : decode cX1_become 17 = .ok (.getfield 11, 3) := by decide +kernel
theorem dX1_become_20 : decode cX1_become 20 = .ok (.iconst 0, 1) := by decide +kernel
theorem dX1_become_21 : decode cX1_become 21 = .ok (.aload_n 0, 1) := by decide +kernel
theorem dX1_become_22 : decode cX1_become 22 = .ok (.getfield 11, 3) := by decide +kernel
theorem dX1_become_25 : decode cX1_become 25 = .ok (.iconst 0, 1) := by decide +kernel
theorem dX1_become_26 : decode cX1_become 26 = .ok (.bipush 8, 2) := by decide +kernel
theorem dX1_become_28 : decode cX1_become 28 = .ok (.invokestatic 57, 3) := by decide +kernel
theorem dX1_become_31 : decode cX1_become 31 = .ok (.aload_n 1, 1) := by decide +kernel
theorem dX1_become_32 : decode cX1_become 32 = .ok (.getfield 15, 3) := by decide +kernel
theorem dX1_become_35 : decode cX1_become 35 = .ok (.iconst 0, 1) := by decide +kernel
theorem dX1_become_36 : decode cX1_become 36 = .ok (.aload_n 0, 1) := by decide +kernel
theorem dX1_become_37 : decode cX1_become 37 = .ok (.getfield 15, 3) := by decide +kernel
theorem dX1_become_40 : decode cX1_become 40 = .ok (.iconst 0, 1) := by decide +kernel
theorem dX1_become_41 : decode cX1_become 41 = .ok (.bipush 8, 2) := by decide +kernel
theorem dX1_become_43 : decode cX1_become 43 = .ok (.invokestatic 57, 3) := by decide +kernel
theorem dX1_become_46 : decode cX1_become 46 = .ok (.aload_n 1, 1) := by decide +kernel
theorem dX1_become_47 : decode cX1_become 47 = .ok (.getfield 18, 3) := by decide +kernel
theorem dX1_become_50 : decode cX1_become 50 = .ok (.iconst 0, 1) := by decide +kernel
theorem dX1_become_51 : decode cX1_become 51 = .ok (.aload_n 0, 1) := by decide +kernel
theorem dX1_become_52 : decode cX1_become 52 = .ok (.getfield 18, 3) := by decide +kernel
theorem dX1_become_55 : decode cX1_become 55 = .ok (.iconst 0, 1) := by decide +kernel
theorem dX1_become_56 : decode cX1_become 56 = .ok (.bipush 8, 2) := by decide +kernel
theorem dX1_become_58 : decode cX1_become 58 = .ok (.invokestatic 57, 3) := by decide +kernel
theorem dX1_become_61 : decode cX1_become 61 = .ok (.aload_n 1, 1) := by decide +kernel
theorem dX1_become_62 : decode cX1_become 62 = .ok (.getfield 21, 3) := by decide +kernel
theorem dX1_become_65 : decode cX1_become 65 = .ok (.iconst 0, 1) := by decide +kernel
theorem dX1_become_66 : decode cX1_become 66 = .ok (.aload_n 0, 1) := by decide +kernel
theorem dX1_become_67 : decode cX1_become 67 = .ok (.getfield 21, 3) := by decide +kernel
theorem dX1_become_70 : decode cX1_become 70 = .ok (.iconst 0, 1) := by decide +kernel
theorem dX1_become_71 : decode cX1_become 71 = .ok (.iconst 4, 1) := by decide +kernel
theorem dX1_become_72 : decode cX1_become 72 = .ok (.invokestatic 57, 3) := by decide +kernel
theorem dX1_become_75 : decode cX1_become 75 = .ok (.aload_n 1, 1) := by decide +kernel
theorem dX1_become_76 : decode cX1_become 76 = .ok (.getfield 24, 3) := by decide +kernel
theorem dX1_become_79 : decode cX1_become 79 = .ok (.iconst 0, 1) := by decide +kernel
theorem dX1_become_80 : decode cX1_become 80 = .ok (.aload_n 0, 1) := by decide +kernel
theorem dX1_become_81 : decode cX1_become 81 = .ok (.getfield 24, 3) := by decide +kernel
theorem dX1_become_84 : decode cX1_become 84 = .ok (.iconst 0, 1) := by decide +kernel
theorem dX1_become_85 : decode cX1_become 85 = .ok (.iconst 4, 1) := by decide +kernel
theorem dX1_become_86 : decode cX1_become 86 = .ok (.invokestatic 57, 3) := by decide +kernel
theorem dX1_become_89 : decode cX1_become 89 = .ok (.aload_n 1, 1) := by decide +kernel
theorem dX1_become_90 : decode cX1_become 90 = .ok (.getfield 27, 3) := by decide +kernel
theorem dX1_become_93 : decode cX1_become 93 = .ok (.iconst 0, 1) := by decide +kernel
theorem dX1_become_94 : decode cX1_become 94 = .ok (.aload_n 0, 1) := by decide +kernel
theorem dX1_become_95 : decode cX1_become 95 = .ok (.getfield 27, 3) := by decide +kernel
theorem dX1_become_98 : decode cX1_become 98 = .ok (.iconst 0, 1) := by decide +kernel
theorem dX1_become_99 : decode cX1_become 99 = .ok (.iconst 4, 1) := by decide +kernel
theorem dX1_become_100 : decode cX1_become 100 = .ok (.invokestatic 57, 3) := by decide +kernel
theorem dX1_become_103 : decode cX1_become 103 = .ok (.return_, 1) := by decide +kernel
theorem dX1_isLame_0 : decode cX1_isLame 0 = .ok (.aload_n 0, 1) := by decide +kernel
theorem dX1_isLame_1 : decode cX1_isLame 1 = .ok (.getfield 38, 3) := by decide +kernel
theorem dX1_isLame_4 : decode cX1_isLame 4 = .ok (.iload_n 1, 1) := by decide +kernel
theorem dX1_isLame_5 : decode cX1_isLame 5 = .ok (.ishr, 1) := by decide +kernel
theorem dX1_isLame_6 : decode cX1_isLame 6 = .ok (.iconst 1, 1) := by decide +kernel
theorem dX1_isLame_7 : decode cX1_isLame 7 = .ok (.iand, 1) := by decide +kernel
theorem dX1_isLame_8 : decode cX1_isLame 8 = .ok (.ifCond .eq 7, 3) := by decide +kernel
theorem dX1_isLame_11 : decode cX1_isLame 11 = .ok (.iconst 1, 1) := by decide +kernel
theorem dX1_isLame_12 : decode cX1_isLame 12 = .ok (.goto 4, 3) := by decide +kernel
theorem dX1_isLame_15 : decode cX1_isLame 15 = .ok (.iconst 0, 1) := by decide +kernel
theorem dX1_isLame_16 : decode cX1_isLame 16 = .ok (.ireturn, 1) := by decide +kernel
theorem dX1_isThere_0 : decode cX1_isThere 0 = .ok (.aload_n 0, 1) := by decide +kernel
theorem dX1_isThere_1 : decode cX1_isThere 1 = .ok (.getfield 21, 3) := by decide +kernel
theorem dX1_isThere_4 : decode cX1_isThere 4 = .ok (.iload_n 1, 1) := by decide +kernel
theorem dX1_isThere_5 : decode cX1_isThere 5 = .ok (.iaload, 1) := by decide +kernel
theorem dX1_isThere_6 : decode cX1_isThere 6 = .ok (.aload_n 0, 1) := by decide +kernel
theorem dX1_isThere_7 : decode cX1_isThere 7 = .ok (.getfield 24, 3) := by decide +kernel
theorem dX1_isThere_10 : decode cX1_isThere 10 = .ok (.iload_n 1, 1) := by decide +kernel
theorem dX1_isThere_11 : decode cX1_isThere 11 = .ok (.iaload, 1) := by decide +kernel
theorem dX1_isThere_12 : decode cX1_isThere 12 = .ok (.if_icmp .ne 7, 3) := by decide +kernel
theorem dX1_isThere_15 : decode cX1_isThere 15 = .ok (.iconst 1, 1) := by decide +kernel
theorem dX1_isThere_16 : decode cX1_isThere 16 = .ok (.goto 4, 3) := by decide +kernel
theorem dX1_isThere_19 : decode cX1_isThere 19 = .ok (.iconst 0, 1) := by decide +kernel
theorem dX1_isThere_20 : decode cX1_isThere 20 = .ok (.ireturn, 1) := by decide +kernel
theorem dX1_ridersThere_0 : decode cX1_ridersThere 0 = .ok (.iconst 0, 1) := by decide +kernel
theorem dX1_ridersThere_1 : decode cX1_ridersThere 1 = .ok (.istore_n 1, 1) := by decide +kernel
theorem dX1_ridersThere_2 : decode cX1_ridersThere 2 = .ok (.iconst 0, 1) := by decide +kernel
theorem dX1_ridersThere_3 : decode cX1_ridersThere 3 = .ok (.istore_n 2, 1) := by decide +kernel
theorem dX1_ridersThere_4 : decode cX1_ridersThere 4 = .ok (.iload_n 2, 1) := by decide +kernel
theorem dX1_ridersThere_5 : decode cX1_ridersThere 5 = .ok (.aload_n 0, 1) := by decide +kernel
theorem dX1_ridersThere_6 : decode cX1_ridersThere 6 = .ok (.getfield 30, 3) := by decide +kernel
theorem dX1_ridersThere_9 : decode cX1_ridersThere 9 = .ok (.getfield 50, 3) := by decide +kernel
theorem dX1_ridersThere_12 : decode cX1_ridersThere 12 = .ok (.if_icmp .ge 23, 3) := by decide +kernel
theorem dX1_ridersThere_15 : decode cX1_ridersThere 15 = .ok (.aload_n 0, 1) := by decide +kernel
theorem dX1_ridersThere_16 : decode cX1_ridersThere 16 = .ok (.iload_n 2, 1) := by decide +kernel
theorem dX1_ridersThere_17 : decode cX1_ridersThere 17 = .ok (.invokevirtual 63, 3) := by decide +kernel
theorem dX1_ridersThere_20 : decode cX1_ridersThere 20 = .ok (.ifCond .eq 9, 3) := by decide +kernel
theorem dX1_ridersThere_23 : decode cX1_ridersThere 23 = .ok (.iload_n 1, 1) := by decide +kernel
theorem dX1_ridersThere_24 : decode cX1_ridersThere 24 = .ok (.iconst 1, 1) := by decide +kernel
theorem dX1_ridersThere_25 : decode cX1_ridersThere 25 = .ok (.iload_n 2, 1) := by decide +kernel
theorem dX1_ridersThere_26 : decode cX1_ridersThere 26 = .ok (.ishl, 1) := by decide +kernel
theorem dX1_ridersThere_27 : decode cX1_ridersThere 27 = .ok (.ior, 1) := by decide +kernel
theorem dX1_ridersThere_28 : decode cX1_ridersThere 28 = .ok (.istore_n 1, 1) := by decide +kernel
theorem dX1_ridersThere_29 : decode cX1_ridersThere 29 = .ok (.iinc 2 1, 3) := by decide +kernel
theorem dX1_ridersThere_32 : decode cX1_ridersThere 32 = .ok (.goto (-28), 3) := by decide +kernel
theorem dX1_ridersThere_35 : decode cX1_ridersThere 35 = .ok (.iload_n 1, 1) := by decide +kernel
theorem dX1_ridersThere_36 : decode cX1_ridersThere 36 = .ok (.ireturn, 1) := by decide +kernel
theorem dX1_allClocks_0 : decode cX1_allClocks 0 = .ok (.iconst 0, 1) := by decide +kernel
theorem dX1_allClocks_1 : decode cX1_allClocks 1 = .ok (.istore_n 1, 1) := by decide +kernel
theorem dX1_allClocks_2 : decode cX1_allClocks 2 = .ok (.iconst 0, 1) := by decide +kernel
theorem dX1_allClocks_3 : decode cX1_allClocks 3 = .ok (.istore_n 2, 1) := by decide +kernel
theorem dX1_allClocks_4 : decode cX1_allClocks 4 = .ok (.iload_n 2, 1) := by decide +kernel
theorem dX1_allClocks_5 : decode cX1_allClocks 5 = .ok (.aload_n 0, 1) := by decide +kernel
theorem dX1_allClocks_6 : decode cX1_allClocks 6 = .ok (.getfield 30, 3) := by decide +kernel
theorem dX1_allClocks_9 : decode cX1_allClocks 9 = .ok (.getfield 50, 3) := by decide +kernel
theorem dX1_allClocks_12 : decode cX1_allClocks 12 = .ok (.if_icmp .ge 18, 3) := by decide +kernel
theorem dX1_allClocks_15 : decode cX1_allClocks 15 = .ok (.iload_n 1, 1) := by decide +kernel
theorem dX1_allClocks_16 : decode cX1_allClocks 16 = .ok (.aload_n 0, 1) := by decide +kernel
theorem dX1_allClocks_17 : decode cX1_allClocks 17 = .ok (.getfield 27, 3) := by decide +kernel
theorem dX1_allClocks_20 : decode cX1_allClocks 20 = .ok (.iload_n 2, 1) := by decide +kernel
theorem dX1_allClocks_21 : decode cX1_allClocks 21 = .ok (.iaload, 1) := by decide +kernel
theorem dX1_allClocks_22 : decode cX1_allClocks 22 = .ok (.iadd, 1) := by decide +kernel
theorem dX1_allClocks_23 : decode cX1_allClocks 23 = .ok (.istore_n 1, 1) := by decide +kernel
theorem dX1_allClocks_24 : decode cX1_allClocks 24 = .ok (.iinc 2 1, 3) := by decide +kernel
theorem dX1_allClocks_27 : decode cX1_allClocks 27 = .ok (.goto (-23), 3) := by decide +kernel
theorem dX1_allClocks_30 : decode cX1_allClocks 30 = .ok (.iload_n 1, 1) := by decide +kernel
theorem dX1_allClocks_31 : decode cX1_allClocks 31 = .ok (.ireturn, 1) := by decide +kernel
theorem dX1_tiredHours_0 : decode cX1_tiredHours 0 = .ok (.iconst 0, 1) := by decide +kernel
theorem dX1_tiredHours_1 : decode cX1_tiredHours 1 = .ok (.istore_n 1, 1) := by decide +kernel
theorem dX1_tiredHours_2 : decode cX1_tiredHours 2 = .ok (.iconst 0, 1) := by decide +kernel
theorem dX1_tiredHours_3 : decode cX1_tiredHours 3 = .ok (.istore_n 2, 1) := by decide +kernel
theorem dX1_tiredHours_4 : decode cX1_tiredHours 4 = .ok (.iload_n 2, 1) := by decide +kernel
theorem dX1_tiredHours_5 : decode cX1_tiredHours 5 = .ok (.aload_n 0, 1) := by decide +kernel
theorem dX1_tiredHours_6 : decode cX1_tiredHours 6 = .ok (.getfield 30, 3) := by decide +kernel
theorem dX1_tiredHours_9 : decode cX1_tiredHours 9 = .ok (.getfield 41, 3) := by decide +kernel
theorem dX1_tiredHours_12 : decode cX1_tiredHours 12 = .ok (.if_icmp .ge 24, 3) := by decide +kernel
theorem dX1_tiredHours_15 : decode cX1_tiredHours 15 = .ok (.aload_n 0, 1) := by decide +kernel
theorem dX1_tiredHours_16 : decode cX1_tiredHours 16 = .ok (.getfield 15, 3) := by decide +kernel
theorem dX1_tiredHours_19 : decode cX1_tiredHours 19 = .ok (.iload_n 2, 1) := by decide +kernel
theorem dX1_tiredHours_20 : decode cX1_tiredHours 20 = .ok (.iaload, 1) := by decide +kernel
theorem dX1_tiredHours_21 : decode cX1_tiredHours 21 = .ok (.ifCond .le 9, 3) := by decide +kernel
theorem dX1_tiredHours_24 : decode cX1_tiredHours 24 = .ok (.iload_n 1, 1) := by decide +kernel
theorem dX1_tiredHours_25 : decode cX1_tiredHours 25 = .ok (.iconst 1, 1) := by decide +kernel
theorem dX1_tiredHours_26 : decode cX1_tiredHours 26 = .ok (.iload_n 2, 1) := by decide +kernel
theorem dX1_tiredHours_27 : decode cX1_tiredHours 27 = .ok (.ishl, 1) := by decide +kernel
theorem dX1_tiredHours_28 : decode cX1_tiredHours 28 = .ok (.ior, 1) := by decide +kernel
theorem dX1_tiredHours_29 : decode cX1_tiredHours 29 = .ok (.istore_n 1, 1) := by decide +kernel
theorem dX1_tiredHours_30 : decode cX1_tiredHours 30 = .ok (.iinc 2 1, 3) := by decide +kernel
theorem dX1_tiredHours_33 : decode cX1_tiredHours 33 = .ok (.goto (-29), 3) := by decide +kernel
theorem dX1_tiredHours_36 : decode cX1_tiredHours 36 = .ok (.iload_n 1, 1) := by decide +kernel
theorem dX1_tiredHours_37 : decode cX1_tiredHours 37 = .ok (.ireturn, 1) := by decide +kernel
theorem dX1_giveOats_0 : decode cX1_giveOats 0 = .ok (.aload_n 0, 1) := by decide +kernel
theorem dX1_giveOats_1 : decode cX1_giveOats 1 = .ok (.getfield 15, 3) := by decide +kernel
theorem dX1_giveOats_4 : decode cX1_giveOats 4 = .ok (.iload_n 1, 1) := by decide +kernel
theorem dX1_giveOats_5 : decode cX1_giveOats 5 = .ok (.iconst 0, 1) := by decide +kernel
theorem dX1_giveOats_6 : decode cX1_giveOats 6 = .ok (.aload_n 0, 1) := by decide +kernel
theorem dX1_giveOats_7 : decode cX1_giveOats 7 = .ok (.getfield 15, 3) := by decide +kernel
theorem dX1_giveOats_10 : decode cX1_giveOats 10 = .ok (.iload_n 1, 1) := by decide +kernel
theorem dX1_giveOats_11 : decode cX1_giveOats 11 = .ok (.iaload, 1) := by decide +kernel
theorem dX1_giveOats_12 : decode cX1_giveOats 12 = .ok (.iconst 3, 1) := by decide +kernel
theorem dX1_giveOats_13 : decode cX1_giveOats 13 = .ok (.isub, 1) := by decide +kernel
theorem dX1_giveOats_14 : decode cX1_giveOats 14 = .ok (.invokestatic 67, 3) := by decide +kernel
theorem dX1_giveOats_17 : decode cX1_giveOats 17 = .ok (.iastore, 1) := by decide +kernel
theorem dX1_giveOats_18 : decode cX1_giveOats 18 = .ok (.aload_n 0, 1) := by decide +kernel
theorem dX1_giveOats_19 : decode cX1_giveOats 19 = .ok (.iload_n 1, 1) := by decide +kernel
theorem dX1_giveOats_20 : decode cX1_giveOats 20 = .ok (.invokevirtual 73, 3) := by decide +kernel
theorem dX1_giveOats_23 : decode cX1_giveOats 23 = .ok (.return_, 1) := by decide +kernel
theorem dX1_giveShoes_0 : decode cX1_giveShoes 0 = .ok (.aload_n 0, 1) := by decide +kernel
theorem dX1_giveShoes_1 : decode cX1_giveShoes 1 = .ok (.dup, 1) := by decide +kernel
theorem dX1_giveShoes_2 : decode cX1_giveShoes 2 = .ok (.getfield 38, 3) := by decide +kernel
theorem dX1_giveShoes_5 : decode cX1_giveShoes 5 = .ok (.iconst 1, 1) := by decide +kernel
theorem dX1_giveShoes_6 : decode cX1_giveShoes 6 = .ok (.iload_n 1, 1) := by decide +kernel
theorem dX1_giveShoes_7 : decode cX1_giveShoes 7 = .ok (.ishl, 1) := by decide +kernel
theorem dX1_giveShoes_8 : decode cX1_giveShoes 8 = .ok (.iconst (-1), 1) := by decide +kernel
theorem dX1_giveShoes_9 : decode cX1_giveShoes 9 = .ok (.ixor, 1) := by decide +kernel
theorem dX1_giveShoes_10 : decode cX1_giveShoes 10 = .ok (.iand, 1) := by decide +kernel
theorem dX1_giveShoes_11 : decode cX1_giveShoes 11 = .ok (.putfield 38, 3) := by decide +kernel
theorem dX1_giveShoes_14 : decode cX1_giveShoes 14 = .ok (.aload_n 0, 1) := by decide +kernel
theorem dX1_giveShoes_15 : decode cX1_giveShoes 15 = .ok (.getfield 15, 3) := by decide +kernel
theorem dX1_giveShoes_18 : decode cX1_giveShoes 18 = .ok (.iload_n 1, 1) := by decide +kernel
theorem dX1_giveShoes_19 : decode cX1_giveShoes 19 = .ok (.iconst 5, 1) := by decide +kernel
theorem dX1_giveShoes_20 : decode cX1_giveShoes 20 = .ok (.iastore, 1) := by decide +kernel
theorem dX1_giveShoes_21 : decode cX1_giveShoes 21 = .ok (.return_, 1) := by decide +kernel
theorem dX1_healIfRested_0 : decode cX1_healIfRested 0 = .ok (.aload_n 0, 1) := by decide +kernel
theorem dX1_healIfRested_1 : decode cX1_healIfRested 1 = .ok (.getfield 15, 3) := by decide +kernel
theorem dX1_healIfRested_4 : decode cX1_healIfRested 4 = .ok (.iload_n 1, 1) := by decide +kernel
theorem dX1_healIfRested_5 : decode cX1_healIfRested 5 = .ok (.iaload, 1) := by decide +kernel
theorem dX1_healIfRested_6 : decode cX1_healIfRested 6 = .ok (.ifCond .ne 17, 3) := by decide +kernel
theorem dX1_healIfRested_9 : decode cX1_healIfRested 9 = .ok (.aload_n 0, 1) := by decide +kernel
theorem dX1_healIfRested_10 : decode cX1_healIfRested 10 = .ok (.dup, 1) := by decide +kernel
theorem dX1_healIfRested_11 : decode cX1_healIfRested 11 = .ok (.getfield 38, 3) := by decide +kernel
theorem dX1_healIfRested_14 : decode cX1_healIfRested 14 = .ok (.iconst 1, 1) := by decide +kernel
theorem dX1_healIfRested_15 : decode cX1_healIfRested 15 = .ok (.iload_n 1, 1) := by decide +kernel
theorem dX1_healIfRested_16 : decode cX1_healIfRested 16 = .ok (.ishl, 1) := by decide +kernel
theorem dX1_healIfRested_17 : decode cX1_healIfRested 17 = .ok (.iconst (-1), 1) := by decide +kernel
theorem dX1_healIfRested_18 : decode cX1_healIfRested 18 = .ok (.ixor, 1) := by decide +kernel
theorem dX1_healIfRested_19 : decode cX1_healIfRested 19 = .ok (.iand, 1) := by decide +kernel
theorem dX1_healIfRested_20 : decode cX1_healIfRested 20 = .ok (.putfield 38, 3) := by decide +kernel
theorem dX1_healIfRested_23 : decode cX1_healIfRested 23 = .ok (.return_, 1) := by decide +kernel
theorem dX1_chooseHour_0 : decode cX1_chooseHour 0 = .ok (.iload_n 2, 1) := by decide +kernel
theorem dX1_chooseHour_1 : decode cX1_chooseHour 1 = .ok (.aload_n 0, 1) := by decide +kernel
theorem dX1_chooseHour_2 : decode cX1_chooseHour 2 = .ok (.getfield 38, 3) := by decide +kernel
theorem dX1_chooseHour_5 : decode cX1_chooseHour 5 = .ok (.ior, 1) := by decide +kernel
theorem dX1_chooseHour_6 : decode cX1_chooseHour 6 = .ok (.istore_n 3, 1) := by decide +kernel
theorem dX1_chooseHour_7 : decode cX1_chooseHour 7 = .ok (.iconst (-1), 1) := by decide +kernel
theorem dX1_chooseHour_8 : decode cX1_chooseHour 8 = .ok (.istore 4, 2) := by decide +kernel
theorem dX1_chooseHour_10 : decode cX1_chooseHour 10 = .ok (.iconst 0, 1) := by decide +kernel
theorem dX1_chooseHour_11 : decode cX1_chooseHour 11 = .ok (.istore 5, 2) := by decide +kernel
theorem dX1_chooseHour_13 : decode cX1_chooseHour 13 = .ok (.iconst 0, 1) := by decide +kernel
theorem dX1_chooseHour_14 : decode cX1_chooseHour 14 = .ok (.istore 6, 2) := by decide +kernel
theorem dX1_chooseHour_16 : decode cX1_chooseHour 16 = .ok (.iload 6, 2) := by decide +kernel
theorem dX1_chooseHour_18 : decode cX1_chooseHour 18 = .ok (.aload_n 0, 1) := by decide +kernel
theorem dX1_chooseHour_19 : decode cX1_chooseHour 19 = .ok (.getfield 30, 3) := by decide +kernel
theorem dX1_chooseHour_22 : decode cX1_chooseHour 22 = .ok (.getfield 41, 3) := by decide +kernel
theorem dX1_chooseHour_25 : decode cX1_chooseHour 25 = .ok (.if_icmp .ge 93, 3) := by decide +kernel
theorem dX1_chooseHour_28 : decode cX1_chooseHour 28 = .ok (.aload_n 0, 1) := by decide +kernel
theorem dX1_chooseHour_29 : decode cX1_chooseHour 29 = .ok (.getfield 11, 3) := by decide +kernel
theorem dX1_chooseHour_32 : decode cX1_chooseHour 32 = .ok (.iload 6, 2) := by decide +kernel
theorem dX1_chooseHour_34 : decode cX1_chooseHour 34 = .ok (.iaload, 1) := by decide +kernel
theorem dX1_chooseHour_35 : decode cX1_chooseHour 35 = .ok (.aload_n 0, 1) := by decide +kernel
theorem dX1_chooseHour_36 : decode cX1_chooseHour 36 = .ok (.getfield 21, 3) := by decide +kernel
theorem dX1_chooseHour_39 : decode cX1_chooseHour 39 = .ok (.iload_n 1, 1) := by decide +kernel
theorem dX1_chooseHour_40 : decode cX1_chooseHour 40 = .ok (.iaload, 1) := by decide +kernel
theorem dX1_chooseHour_41 : decode cX1_chooseHour 41 = .ok (.if_icmp .ne 71, 3) := by decide +kernel
theorem dX1_chooseHour_44 : decode cX1_chooseHour 44 = .ok (.iload_n 3, 1) := by decide +kernel
theorem dX1_chooseHour_45 : decode cX1_chooseHour 45 = .ok (.iload 6, 2) := by decide +kernel
theorem dX1_chooseHour_47 : decode cX1_chooseHour 47 = .ok (.ishr, 1) := by decide +kernel
theorem dX1_chooseHour_48 : decode cX1_chooseHour 48 = .ok (.iconst 1, 1) := by decide +kernel
theorem dX1_chooseHour_49 : decode cX1_chooseHour 49 = .ok (.iand, 1) := by decide +kernel
theorem dX1_chooseHour_50 : decode cX1_chooseHour 50 = .ok (.ifCond .ne 62, 3) := by decide +kernel
theorem dX1_chooseHour_53 : decode cX1_chooseHour 53 = .ok (.aload_n 0, 1) := by decide +kernel
theorem dX1_chooseHour_54 : decode cX1_chooseHour 54 = .ok (.getfield 30, 3) := by decide +kernel
theorem dX1_chooseHour_57 : decode cX1_chooseHour 57 = .ok (.getfield 77, 3) := by decide +kernel
theorem dX1_chooseHour_60 : decode cX1_chooseHour 60 = .ok (.iload 6, 2) := by decide +kernel
theorem dX1_chooseHour_62 : decode cX1_chooseHour 62 = .ok (.iaload, 1) := by decide +kernel
theorem dX1_chooseHour_63 : decode cX1_chooseHour 63 = .ok (.invokestatic 80, 3) := by decide +kernel
theorem dX1_chooseHour_66 : decode cX1_chooseHour 66 = .ok (.ifCond .eq 13, 3) := by decide +kernel
theorem dX1_chooseHour_69 : decode cX1_chooseHour 69 = .ok (.aload_n 0, 1) := by decide +kernel
theorem dX1_chooseHour_70 : decode cX1_chooseHour 70 = .ok (.getfield 15, 3) := by decide +kernel
theorem dX1_chooseHour_73 : decode cX1_chooseHour 73 = .ok (.iload 6, 2) := by decide +kernel
theorem dX1_chooseHour_75 : decode cX1_chooseHour 75 = .ok (.iaload, 1) := by decide +kernel
theorem dX1_chooseHour_76 : decode cX1_chooseHour 76 = .ok (.goto 13, 3) := by decide +kernel
theorem dX1_chooseHour_79 : decode cX1_chooseHour 79 = .ok (.aload_n 0, 1) := by decide +kernel
theorem dX1_chooseHour_80 : decode cX1_chooseHour 80 = .ok (.getfield 15, 3) := by decide +kernel
theorem dX1_chooseHour_83 : decode cX1_chooseHour 83 = .ok (.iload 6, 2) := by decide +kernel
theorem dX1_chooseHour_85 : decode cX1_chooseHour 85 = .ok (.iaload, 1) := by decide +kernel
theorem dX1_chooseHour_86 : decode cX1_chooseHour 86 = .ok (.bipush 11, 2) := by decide +kernel
theorem dX1_chooseHour_88 : decode cX1_chooseHour 88 = .ok (.iadd, 1) := by decide +kernel
theorem dX1_chooseHour_89 : decode cX1_chooseHour 89 = .ok (.istore 7, 2) := by decide +kernel
theorem dX1_chooseHour_91 : decode cX1_chooseHour 91 = .ok (.iload 4, 2) := by decide +kernel
theorem dX1_chooseHour_93 : decode cX1_chooseHour 93 = .ok (.iconst (-1), 1) := by decide +kernel
theorem dX1_chooseHour_94 : decode cX1_chooseHour 94 = .ok (.if_icmp .eq 10, 3) := by decide +kernel
theorem dX1_chooseHour_97 : decode cX1_chooseHour 97 = .ok (.iload 7, 2) := by decide +kernel
theorem dX1_chooseHour_99 : decode cX1_chooseHour 99 = .ok (.iload 5, 2) := by decide +kernel
theorem dX1_chooseHour_101 : decode cX1_chooseHour 101 = .ok (.if_icmp .ge 11, 3) := by decide +kernel
theorem dX1_chooseHour_104 : decode cX1_chooseHour 104 = .ok (.iload 6, 2) := by decide +kernel
theorem dX1_chooseHour_106 : decode cX1_chooseHour 106 = .ok (.istore 4, 2) := by decide +kernel
theorem dX1_chooseHour_108 : decode cX1_chooseHour 108 = .ok (.iload 7, 2) := by decide +kernel
theorem dX1_chooseHour_110 : decode cX1_chooseHour 110 = .ok (.istore 5, 2) := by decide +kernel
theorem dX1_chooseHour_112 : decode cX1_chooseHour 112 = .ok (.iinc 6 1, 3) := by decide +kernel
theorem dX1_chooseHour_115 : decode cX1_chooseHour 115 = .ok (.goto (-99), 3) := by decide +kernel
theorem dX1_chooseHour_118 : decode cX1_chooseHour 118 = .ok (.iload 4, 2) := by decide +kernel
theorem dX1_chooseHour_120 : decode cX1_chooseHour 120 = .ok (.ireturn, 1) := by decide +kernel
theorem dX1_passStage_0 : decode cX1_passStage 0 = .ok (.iconst 0, 1) := by decide +kernel
theorem dX1_passStage_1 : decode cX1_passStage 1 = .ok (.istore_n 1, 1) := by decide +kernel
theorem dX1_passStage_2 : decode cX1_passStage 2 = .ok (.iconst 0, 1) := by decide +kernel
theorem dX1_passStage_3 : decode cX1_passStage 3 = .ok (.istore_n 2, 1) := by decide +kernel
theorem dX1_passStage_4 : decode cX1_passStage 4 = .ok (.iload_n 2, 1) := by decide +kernel
theorem dX1_passStage_5 : decode cX1_passStage 5 = .ok (.aload_n 0, 1) := by decide +kernel
theorem dX1_passStage_6 : decode cX1_passStage 6 = .ok (.getfield 30, 3) := by decide +kernel
theorem dX1_passStage_9 : decode cX1_passStage 9 = .ok (.getfield 50, 3) := by decide +kernel
theorem dX1_passStage_12 : decode cX1_passStage 12 = .ok (.if_icmp .ge 26, 3) := by decide +kernel
theorem dX1_passStage_15 : decode cX1_passStage 15 = .ok (.aload_n 0, 1) := by decide +kernel
theorem dX1_passStage_16 : decode cX1_passStage 16 = .ok (.iload_n 2, 1) := by decide +kernel
theorem dX1_passStage_17 : decode cX1_passStage 17 = .ok (.invokevirtual 63, 3) := by decide +kernel
theorem dX1_passStage_20 : decode cX1_passStage 20 = .ok (.ifCond .ne 12, 3) := by decide +kernel
theorem dX1_passStage_23 : decode cX1_passStage 23 = .ok (.iload_n 1, 1) := by decide +kernel
theorem dX1_passStage_24 : decode cX1_passStage 24 = .ok (.aload_n 0, 1) := by decide +kernel
theorem dX1_passStage_25 : decode cX1_passStage 25 = .ok (.iload_n 2, 1) := by decide +kernel
theorem dX1_passStage_26 : decode cX1_passStage 26 = .ok (.iload_n 1, 1) := by decide +kernel
theorem dX1_passStage_27 : decode cX1_passStage 27 = .ok (.invokevirtual 85, 3) := by decide +kernel
theorem dX1_passStage_30 : decode cX1_passStage 30 = .ok (.ior, 1) := by decide +kernel
theorem dX1_passStage_31 : decode cX1_passStage 31 = .ok (.istore_n 1, 1) := by decide +kernel
theorem dX1_passStage_32 : decode cX1_passStage 32 = .ok (.iinc 2 1, 3) := by decide +kernel
theorem dX1_passStage_35 : decode cX1_passStage 35 = .ok (.goto (-31), 3) := by decide +kernel
theorem dX1_passStage_38 : decode cX1_passStage 38 = .ok (.iconst 0, 1) := by decide +kernel
theorem dX1_passStage_39 : decode cX1_passStage 39 = .ok (.istore_n 2, 1) := by decide +kernel
theorem dX1_passStage_40 : decode cX1_passStage 40 = .ok (.iconst 0, 1) := by decide +kernel
theorem dX1_passStage_41 : decode cX1_passStage 41 = .ok (.istore_n 3, 1) := by decide +kernel
theorem dX1_passStage_42 : decode cX1_passStage 42 = .ok (.iload_n 3, 1) := by decide +kernel
theorem dX1_passStage_43 : decode cX1_passStage 43 = .ok (.aload_n 0, 1) := by decide +kernel
theorem dX1_passStage_44 : decode cX1_passStage 44 = .ok (.getfield 30, 3) := by decide +kernel
theorem dX1_passStage_47 : decode cX1_passStage 47 = .ok (.getfield 88, 3) := by decide +kernel
theorem dX1_passStage_50 : decode cX1_passStage 50 = .ok (.if_icmp .ge 20, 3) := by decide +kernel
theorem dX1_passStage_53 : decode cX1_passStage 53 = .ok (.iload_n 2, 1) := by decide +kernel
theorem dX1_passStage_54 : decode cX1_passStage 54 = .ok (.aload_n 0, 1) := by decide +kernel
theorem dX1_passStage_55 : decode cX1_passStage 55 = .ok (.iload_n 3, 1) := by decide +kernel
theorem dX1_passStage_56 : decode cX1_passStage 56 = .ok (.iload_n 1, 1) := by decide +kernel
theorem dX1_passStage_57 : decode cX1_passStage 57 = .ok (.iload_n 2, 1) := by decide +kernel
theorem dX1_passStage_58 : decode cX1_passStage 58 = .ok (.ior, 1) := by decide +kernel
theorem dX1_passStage_59 : decode cX1_passStage 59 = .ok (.invokevirtual 91, 3) := by decide +kernel
theorem dX1_passStage_62 : decode cX1_passStage 62 = .ok (.ior, 1) := by decide +kernel
theorem dX1_passStage_63 : decode cX1_passStage 63 = .ok (.istore_n 2, 1) := by decide +kernel
theorem dX1_passStage_64 : decode cX1_passStage 64 = .ok (.iinc 3 1, 3) := by decide +kernel
theorem dX1_passStage_67 : decode cX1_passStage 67 = .ok (.goto (-25), 3) := by decide +kernel
theorem dX1_passStage_70 : decode cX1_passStage 70 = .ok (.iconst 0, 1) := by decide +kernel
theorem dX1_passStage_71 : decode cX1_passStage 71 = .ok (.istore_n 3, 1) := by decide +kernel
theorem dX1_passStage_72 : decode cX1_passStage 72 = .ok (.iload_n 3, 1) := by decide +kernel
theorem dX1_passStage_73 : decode cX1_passStage 73 = .ok (.aload_n 0, 1) := by decide +kernel
theorem dX1_passStage_74 : decode cX1_passStage 74 = .ok (.getfield 30, 3) := by decide +kernel
theorem dX1_passStage_77 : decode cX1_passStage 77 = .ok (.getfield 41, 3) := by decide +kernel
theorem dX1_passStage_80 : decode cX1_passStage 80 = .ok (.if_icmp .ge 22, 3) := by decide +kernel
theorem dX1_passStage_83 : decode cX1_passStage 83 = .ok (.iload_n 1, 1) := by decide +kernel
theorem dX1_passStage_84 : decode cX1_passStage 84 = .ok (.iload_n 3, 1) := by decide +kernel
theorem dX1_passStage_85 : decode cX1_passStage 85 = .ok (.ishr, 1) := by decide +kernel
theorem dX1_passStage_86 : decode cX1_passStage 86 = .ok (.iconst 1, 1) := by decide +kernel
theorem dX1_passStage_87 : decode cX1_passStage 87 = .ok (.iand, 1) := by decide +kernel
theorem dX1_passStage_88 : decode cX1_passStage 88 = .ok (.ifCond .ne 8, 3) := by decide +kernel
theorem dX1_passStage_91 : decode cX1_passStage 91 = .ok (.aload_n 0, 1) := by decide +kernel
theorem dX1_passStage_92 : decode cX1_passStage 92 = .ok (.iload_n 3, 1) := by decide +kernel
theorem dX1_passStage_93 : decode cX1_passStage 93 = .ok (.invokevirtual 94, 3) := by decide +kernel
theorem dX1_passStage_96 : decode cX1_passStage 96 = .ok (.iinc 3 1, 3) := by decide +kernel
theorem dX1_passStage_99 : decode cX1_passStage 99 = .ok (.goto (-27), 3) := by decide +kernel
theorem dX1_passStage_102 : decode cX1_passStage 102 = .ok (.aload_n 0, 1) := by decide +kernel
theorem dX1_passStage_103 : decode cX1_passStage 103 = .ok (.dup, 1) := by decide +kernel
theorem dX1_passStage_104 : decode cX1_passStage 104 = .ok (.getfield 34, 3) := by decide +kernel
theorem dX1_passStage_107 : decode cX1_passStage 107 = .ok (.iconst 1, 1) := by decide +kernel
theorem dX1_passStage_108 : decode cX1_passStage 108 = .ok (.iadd, 1) := by decide +kernel
theorem dX1_passStage_109 : decode cX1_passStage 109 = .ok (.putfield 34, 3) := by decide +kernel
theorem dX1_passStage_112 : decode cX1_passStage 112 = .ok (.return_, 1) := by decide +kernel
theorem dX1_sendOff_0 : decode cX1_sendOff 0 = .ok (.aload_n 0, 1) := by decide +kernel
theorem dX1_sendOff_1 : decode cX1_sendOff 1 = .ok (.iload_n 1, 1) := by decide +kernel
theorem dX1_sendOff_2 : decode cX1_sendOff 2 = .ok (.iload_n 2, 1) := by decide +kernel
theorem dX1_sendOff_3 : decode cX1_sendOff 3 = .ok (.invokevirtual 97, 3) := by decide +kernel
theorem dX1_sendOff_6 : decode cX1_sendOff 6 = .ok (.istore_n 3, 1) := by decide +kernel
theorem dX1_sendOff_7 : decode cX1_sendOff 7 = .ok (.iload_n 3, 1) := by decide +kernel
theorem dX1_sendOff_8 : decode cX1_sendOff 8 = .ok (.iconst (-1), 1) := by decide +kernel
theorem dX1_sendOff_9 : decode cX1_sendOff 9 = .ok (.if_icmp .ne 15, 3) := by decide +kernel
theorem dX1_sendOff_12 : decode cX1_sendOff 12 = .ok (.aload_n 0, 1) := by decide +kernel
theorem dX1_sendOff_13 : decode cX1_sendOff 13 = .ok (.getfield 27, 3) := by decide +kernel
theorem dX1_sendOff_16 : decode cX1_sendOff 16 = .ok (.iload_n 1, 1) := by decide +kernel
theorem dX1_sendOff_17 : decode cX1_sendOff 17 = .ok (.dup2, 1) := by decide +kernel
theorem dX1_sendOff_18 : decode cX1_sendOff 18 = .ok (.iaload, 1) := by decide +kernel
theorem dX1_sendOff_19 : decode cX1_sendOff 19 = .ok (.iconst 1, 1) := by decide +kernel
theorem dX1_sendOff_20 : decode cX1_sendOff 20 = .ok (.iadd, 1) := by decide +kernel
theorem dX1_sendOff_21 : decode cX1_sendOff 21 = .ok (.iastore, 1) := by decide +kernel
theorem dX1_sendOff_22 : decode cX1_sendOff 22 = .ok (.iconst 0, 1) := by decide +kernel
theorem dX1_sendOff_23 : decode cX1_sendOff 23 = .ok (.ireturn, 1) := by decide +kernel
theorem dX1_sendOff_24 : decode cX1_sendOff 24 = .ok (.aload_n 0, 1) := by decide +kernel
theorem dX1_sendOff_25 : decode cX1_sendOff 25 = .ok (.getfield 18, 3) := by decide +kernel
theorem dX1_sendOff_28 : decode cX1_sendOff 28 = .ok (.iload_n 3, 1) := by decide +kernel
theorem dX1_sendOff_29 : decode cX1_sendOff 29 = .ok (.dup2, 1) := by decide +kernel
theorem dX1_sendOff_30 : decode cX1_sendOff 30 = .ok (.iaload, 1) := by decide +kernel
theorem dX1_sendOff_31 : decode cX1_sendOff 31 = .ok (.iconst 1, 1) := by decide +kernel
theorem dX1_sendOff_32 : decode cX1_sendOff 32 = .ok (.iadd, 1) := by decide +kernel
theorem dX1_sendOff_33 : decode cX1_sendOff 33 = .ok (.iastore, 1) := by decide +kernel
theorem dX1_sendOff_34 : decode cX1_sendOff 34 = .ok (.aload_n 0, 1) := by decide +kernel
theorem dX1_sendOff_35 : decode cX1_sendOff 35 = .ok (.getfield 30, 3) := by decide +kernel
theorem dX1_sendOff_38 : decode cX1_sendOff 38 = .ok (.getfield 77, 3) := by decide +kernel
theorem dX1_sendOff_41 : decode cX1_sendOff 41 = .ok (.iload_n 3, 1) := by decide +kernel
theorem dX1_sendOff_42 : decode cX1_sendOff 42 = .ok (.iaload, 1) := by decide +kernel
theorem dX1_sendOff_43 : decode cX1_sendOff 43 = .ok (.istore 4, 2) := by decide +kernel
theorem dX1_sendOff_45 : decode cX1_sendOff 45 = .ok (.iload 4, 2) := by decide +kernel
theorem dX1_sendOff_47 : decode cX1_sendOff 47 = .ok (.aload_n 0, 1) := by decide +kernel
theorem dX1_sendOff_48 : decode cX1_sendOff 48 = .ok (.getfield 18, 3) := by decide +kernel
theorem dX1_sendOff_51 : decode cX1_sendOff 51 = .ok (.iload_n 3, 1) := by decide +kernel
theorem dX1_sendOff_52 : decode cX1_sendOff 52 = .ok (.iaload, 1) := by decide +kernel
theorem dX1_sendOff_53 : decode cX1_sendOff 53 = .ok (.invokestatic 100, 3) := by decide +kernel
theorem dX1_sendOff_56 : decode cX1_sendOff 56 = .ok (.ifCond .eq 22, 3) := by decide +kernel
theorem dX1_sendOff_59 : decode cX1_sendOff 59 = .ok (.aload_n 0, 1) := by decide +kernel
theorem dX1_sendOff_60 : decode cX1_sendOff 60 = .ok (.getfield 27, 3) := by decide +kernel
theorem dX1_sendOff_63 : decode cX1_sendOff 63 = .ok (.iload_n 1, 1) := by decide +kernel
theorem dX1_sendOff_64 : decode cX1_sendOff 64 = .ok (.dup2, 1) := by decide +kernel
theorem dX1_sendOff_65 : decode cX1_sendOff 65 = .ok (.iaload, 1) := by decide +kernel
theorem dX1_sendOff_66 : decode cX1_sendOff 66 = .ok (.iconst 2, 1) := by decide +kernel
theorem dX1_sendOff_67 : decode cX1_sendOff 67 = .ok (.iadd, 1) := by decide +kernel
theorem dX1_sendOff_68 : decode cX1_sendOff 68 = .ok (.iastore, 1) := by decide +kernel
theorem dX1_sendOff_69 : decode cX1_sendOff 69 = .ok (.aload_n 0, 1) := by decide +kernel
theorem dX1_sendOff_70 : decode cX1_sendOff 70 = .ok (.iload_n 3, 1) := by decide +kernel
theorem dX1_sendOff_71 : decode cX1_sendOff 71 = .ok (.iconst 1, 1) := by decide +kernel
theorem dX1_sendOff_72 : decode cX1_sendOff 72 = .ok (.invokevirtual 104, 3) := by decide +kernel
theorem dX1_sendOff_75 : decode cX1_sendOff 75 = .ok (.goto 81, 3) := by decide +kernel
theorem dX1_sendOff_78 : decode cX1_sendOff 78 = .ok (.aload_n 0, 1) := by decide +kernel
theorem dX1_sendOff_79 : decode cX1_sendOff 79 = .ok (.getfield 21, 3) := by decide +kernel
theorem dX1_sendOff_82 : decode cX1_sendOff 82 = .ok (.iload_n 1, 1) := by decide +kernel
theorem dX1_sendOff_83 : decode cX1_sendOff 83 = .ok (.iaload, 1) := by decide +kernel
theorem dX1_sendOff_84 : decode cX1_sendOff 84 = .ok (.aload_n 0, 1) := by decide +kernel
theorem dX1_sendOff_85 : decode cX1_sendOff 85 = .ok (.getfield 24, 3) := by decide +kernel
theorem dX1_sendOff_88 : decode cX1_sendOff 88 = .ok (.iload_n 1, 1) := by decide +kernel
theorem dX1_sendOff_89 : decode cX1_sendOff 89 = .ok (.iaload, 1) := by decide +kernel
theorem dX1_sendOff_90 : decode cX1_sendOff 90 = .ok (.invokestatic 108, 3) := by decide +kernel
theorem dX1_sendOff_93 : decode cX1_sendOff 93 = .ok (.istore 5, 2) := by decide +kernel
theorem dX1_sendOff_95 : decode cX1_sendOff 95 = .ok (.aload_n 0, 1) := by decide +kernel
theorem dX1_sendOff_96 : decode cX1_sendOff 96 = .ok (.getfield 30, 3) := by decide +kernel
theorem dX1_sendOff_99 : decode cX1_sendOff 99 = .ok (.aload_n 0, 1) := by decide +kernel
theorem dX1_sendOff_100 : decode cX1_sendOff 100 = .ok (.getfield 21, 3) := by decide +kernel
theorem dX1_sendOff_103 : decode cX1_sendOff 103 = .ok (.iload_n 1, 1) := by decide +kernel
theorem dX1_sendOff_104 : decode cX1_sendOff 104 = .ok (.iaload, 1) := by decide +kernel
theorem dX1_sendOff_105 : decode cX1_sendOff 105 = .ok (.iload 5, 2) := by decide +kernel
theorem dX1_sendOff_107 : decode cX1_sendOff 107 = .ok (.invokevirtual 111, 3) := by decide +kernel
theorem dX1_sendOff_110 : decode cX1_sendOff 110 = .ok (.istore 6, 2) := by decide +kernel
theorem dX1_sendOff_112 : decode cX1_sendOff 112 = .ok (.aload_n 0, 1) := by decide +kernel
theorem dX1_sendOff_113 : decode cX1_sendOff 113 = .ok (.getfield 21, 3) := by decide +kernel
theorem dX1_sendOff_116 : decode cX1_sendOff 116 = .ok (.iload_n 1, 1) := by decide +kernel
theorem dX1_sendOff_117 : decode cX1_sendOff 117 = .ok (.iload 5, 2) := by decide +kernel
theorem dX1_sendOff_119 : decode cX1_sendOff 119 = .ok (.iastore, 1) := by decide +kernel
theorem dX1_sendOff_120 : decode cX1_sendOff 120 = .ok (.aload_n 0, 1) := by decide +kernel
theorem dX1_sendOff_121 : decode cX1_sendOff 121 = .ok (.getfield 11, 3) := by decide +kernel
theorem dX1_sendOff_124 : decode cX1_sendOff 124 = .ok (.iload_n 3, 1) := by decide +kernel
theorem dX1_sendOff_125 : decode cX1_sendOff 125 = .ok (.iload 5, 2) := by decide +kernel
theorem dX1_sendOff_127 : decode cX1_sendOff 127 = .ok (.iastore, 1) := by decide +kernel
theorem dX1_sendOff_128 : decode cX1_sendOff 128 = .ok (.aload_n 0, 1) := by decide +kernel
theorem dX1_sendOff_129 : decode cX1_sendOff 129 = .ok (.getfield 27, 3) := by decide +kernel
theorem dX1_sendOff_132 : decode cX1_sendOff 132 = .ok (.iload_n 1, 1) := by decide +kernel
theorem dX1_sendOff_133 : decode cX1_sendOff 133 = .ok (.dup2, 1) := by decide +kernel
theorem dX1_sendOff_134 : decode cX1_sendOff 134 = .ok (.iaload, 1) := by decide +kernel
theorem dX1_sendOff_135 : decode cX1_sendOff 135 = .ok (.iload 4, 2) := by decide +kernel
theorem dX1_sendOff_137 : decode cX1_sendOff 137 = .ok (.iload 6, 2) := by decide +kernel
theorem dX1_sendOff_139 : decode cX1_sendOff 139 = .ok (.invokestatic 114, 3) := by decide +kernel
theorem dX1_sendOff_142 : decode cX1_sendOff 142 = .ok (.iadd, 1) := by decide +kernel
theorem dX1_sendOff_143 : decode cX1_sendOff 143 = .ok (.iastore, 1) := by decide +kernel
theorem dX1_sendOff_144 : decode cX1_sendOff 144 = .ok (.aload_n 0, 1) := by decide +kernel
theorem dX1_sendOff_145 : decode cX1_sendOff 145 = .ok (.iload_n 3, 1) := by decide +kernel
theorem dX1_sendOff_146 : decode cX1_sendOff 146 = .ok (.iload 4, 2) := by decide +kernel
theorem dX1_sendOff_148 : decode cX1_sendOff 148 = .ok (.iload 6, 2) := by decide +kernel
theorem dX1_sendOff_150 : decode cX1_sendOff 150 = .ok (.invokestatic 117, 3) := by decide +kernel
theorem dX1_sendOff_153 : decode cX1_sendOff 153 = .ok (.invokevirtual 104, 3) := by decide +kernel
theorem dX1_sendOff_156 : decode cX1_sendOff 156 = .ok (.iconst 1, 1) := by decide +kernel
theorem dX1_sendOff_157 : decode cX1_sendOff 157 = .ok (.iload_n 3, 1) := by decide +kernel
theorem dX1_sendOff_158 : decode cX1_sendOff 158 = .ok (.ishl, 1) := by decide +kernel
theorem dX1_sendOff_159 : decode cX1_sendOff 159 = .ok (.ireturn, 1) := by decide +kernel
theorem dX1_tire_0 : decode cX1_tire 0 = .ok (.aload_n 0, 1) := by decide +kernel
theorem dX1_tire_1 : decode cX1_tire 1 = .ok (.getfield 15, 3) := by decide +kernel
theorem dX1_tire_4 : decode cX1_tire 4 = .ok (.iload_n 1, 1) := by decide +kernel
theorem dX1_tire_5 : decode cX1_tire 5 = .ok (.dup2, 1) := by decide +kernel
theorem dX1_tire_6 : decode cX1_tire 6 = .ok (.iaload, 1) := by decide +kernel
theorem dX1_tire_7 : decode cX1_tire 7 = .ok (.iload_n 2, 1) := by decide +kernel
theorem dX1_tire_8 : decode cX1_tire 8 = .ok (.iadd, 1) := by decide +kernel
theorem dX1_tire_9 : decode cX1_tire 9 = .ok (.iastore, 1) := by decide +kernel
theorem dX1_tire_10 : decode cX1_tire 10 = .ok (.aload_n 0, 1) := by decide +kernel
theorem dX1_tire_11 : decode cX1_tire 11 = .ok (.getfield 15, 3) := by decide +kernel
theorem dX1_tire_14 : decode cX1_tire 14 = .ok (.iload_n 1, 1) := by decide +kernel
theorem dX1_tire_15 : decode cX1_tire 15 = .ok (.iaload, 1) := by decide +kernel
theorem dX1_tire_16 : decode cX1_tire 16 = .ok (.bipush 10, 2) := by decide +kernel
theorem dX1_tire_18 : decode cX1_tire 18 = .ok (.if_icmp .lt 23, 3) := by decide +kernel
theorem dX1_tire_21 : decode cX1_tire 21 = .ok (.aload_n 0, 1) := by decide +kernel
theorem dX1_tire_22 : decode cX1_tire 22 = .ok (.getfield 15, 3) := by decide +kernel
theorem dX1_tire_25 : decode cX1_tire 25 = .ok (.iload_n 1, 1) := by decide +kernel
theorem dX1_tire_26 : decode cX1_tire 26 = .ok (.bipush 10, 2) := by decide +kernel
theorem dX1_tire_28 : decode cX1_tire 28 = .ok (.iastore, 1) := by decide +kernel
theorem dX1_tire_29 : decode cX1_tire 29 = .ok (.aload_n 0, 1) := by decide +kernel
theorem dX1_tire_30 : decode cX1_tire 30 = .ok (.dup, 1) := by decide +kernel
theorem dX1_tire_31 : decode cX1_tire 31 = .ok (.getfield 38, 3) := by decide +kernel
theorem dX1_tire_34 : decode cX1_tire 34 = .ok (.iconst 1, 1) := by decide +kernel
theorem dX1_tire_35 : decode cX1_tire 35 = .ok (.iload_n 1, 1) := by decide +kernel
theorem dX1_tire_36 : decode cX1_tire 36 = .ok (.ishl, 1) := by decide +kernel
theorem dX1_tire_37 : decode cX1_tire 37 = .ok (.ior, 1) := by decide +kernel
theorem dX1_tire_38 : decode cX1_tire 38 = .ok (.putfield 38, 3) := by decide +kernel
theorem dX1_tire_41 : decode cX1_tire 41 = .ok (.return_, 1) := by decide +kernel
theorem dX1_leadHome_0 : decode cX1_leadHome 0 = .ok (.iload_n 2, 1) := by decide +kernel
theorem dX1_leadHome_1 : decode cX1_leadHome 1 = .ok (.aload_n 0, 1) := by decide +kernel
theorem dX1_leadHome_2 : decode cX1_leadHome 2 = .ok (.getfield 38, 3) := by decide +kernel
theorem dX1_leadHome_5 : decode cX1_leadHome 5 = .ok (.ior, 1) := by decide +kernel
theorem dX1_leadHome_6 : decode cX1_leadHome 6 = .ok (.istore_n 3, 1) := by decide +kernel
theorem dX1_leadHome_7 : decode cX1_leadHome 7 = .ok (.iconst 0, 1) := by decide +kernel
theorem dX1_leadHome_8 : decode cX1_leadHome 8 = .ok (.istore 4, 2) := by decide +kernel
theorem dX1_leadHome_10 : decode cX1_leadHome 10 = .ok (.iload 4, 2) := by decide +kernel
theorem dX1_leadHome_12 : decode cX1_leadHome 12 = .ok (.aload_n 0, 1) := by decide +kernel
theorem dX1_leadHome_13 : decode cX1_leadHome 13 = .ok (.getfield 30, 3) := by decide +kernel
theorem dX1_leadHome_16 : decode cX1_leadHome 16 = .ok (.getfield 41, 3) := by decide +kernel
theorem dX1_leadHome_19 : decode cX1_leadHome 19 = .ok (.if_icmp .ge 69, 3) := by decide +kernel
theorem dX1_leadHome_22 : decode cX1_leadHome 22 = .ok (.aload_n 0, 1) := by decide +kernel
theorem dX1_leadHome_23 : decode cX1_leadHome 23 = .ok (.getfield 11, 3) := by decide +kernel
theorem dX1_leadHome_26 : decode cX1_leadHome 26 = .ok (.iload 4, 2) := by decide +kernel
theorem dX1_leadHome_28 : decode cX1_leadHome 28 = .ok (.iaload, 1) := by decide +kernel
theorem dX1_leadHome_29 : decode cX1_leadHome 29 = .ok (.iload_n 1, 1) := by decide +kernel
theorem dX1_leadHome_30 : decode cX1_leadHome 30 = .ok (.if_icmp .ne 52, 3) := by decide +kernel
theorem dX1_leadHome_33 : decode cX1_leadHome 33 = .ok (.aload_n 0, 1) := by decide +kernel
theorem dX1_leadHome_34 : decode cX1_leadHome 34 = .ok (.getfield 30, 3) := by decide +kernel
theorem dX1_leadHome_37 : decode cX1_leadHome 37 = .ok (.getfield 46, 3) := by decide +kernel
theorem dX1_leadHome_40 : decode cX1_leadHome 40 = .ok (.iload 4, 2) := by decide +kernel
theorem dX1_leadHome_42 : decode cX1_leadHome 42 = .ok (.iaload, 1) := by decide +kernel
theorem dX1_leadHome_43 : decode cX1_leadHome 43 = .ok (.iload_n 1, 1) := by decide +kernel
theorem dX1_leadHome_44 : decode cX1_leadHome 44 = .ok (.if_icmp .eq 38, 3) := by decide +kernel
theorem dX1_leadHome_47 : decode cX1_leadHome 47 = .ok (.iload_n 3, 1) := by decide +kernel
theorem dX1_leadHome_48 : decode cX1_leadHome 48 = .ok (.iload 4, 2) := by decide +kernel
theorem dX1_leadHome_50 : decode cX1_leadHome 50 = .ok (.ishr, 1) := by decide +kernel
theorem dX1_leadHome_51 : decode cX1_leadHome 51 = .ok (.iconst 1, 1) := by decide +kernel
theorem dX1_leadHome_52 : decode cX1_leadHome 52 = .ok (.iand, 1) := by decide +kernel
theorem dX1_leadHome_53 : decode cX1_leadHome 53 = .ok (.ifCond .ne 29, 3) := by decide +kernel
theorem dX1_leadHome_56 : decode cX1_leadHome 56 = .ok (.aload_n 0, 1) := by decide +kernel
theorem dX1_leadHome_57 : decode cX1_leadHome 57 = .ok (.getfield 11, 3) := by decide +kernel
theorem dX1_leadHome_60 : decode cX1_leadHome 60 = .ok (.iload 4, 2) := by decide +kernel
theorem dX1_leadHome_62 : decode cX1_leadHome 62 = .ok (.iload_n 1, 1) := by decide +kernel
theorem dX1_leadHome_63 : decode cX1_leadHome 63 = .ok (.aload_n 0, 1) := by decide +kernel
theorem dX1_leadHome_64 : decode cX1_leadHome 64 = .ok (.getfield 30, 3) := by decide +kernel
theorem dX1_leadHome_67 : decode cX1_leadHome 67 = .ok (.getfield 46, 3) := by decide +kernel
theorem dX1_leadHome_70 : decode cX1_leadHome 70 = .ok (.iload 4, 2) := by decide +kernel
theorem dX1_leadHome_72 : decode cX1_leadHome 72 = .ok (.iaload, 1) := by decide +kernel
theorem dX1_leadHome_73 : decode cX1_leadHome 73 = .ok (.invokestatic 108, 3) := by decide +kernel
theorem dX1_leadHome_76 : decode cX1_leadHome 76 = .ok (.iastore, 1) := by decide +kernel
theorem dX1_leadHome_77 : decode cX1_leadHome 77 = .ok (.iconst 1, 1) := by decide +kernel
theorem dX1_leadHome_78 : decode cX1_leadHome 78 = .ok (.iload 4, 2) := by decide +kernel
theorem dX1_leadHome_80 : decode cX1_leadHome 80 = .ok (.ishl, 1) := by decide +kernel
theorem dX1_leadHome_81 : decode cX1_leadHome 81 = .ok (.ireturn, 1) := by decide +kernel
theorem dX1_leadHome_82 : decode cX1_leadHome 82 = .ok (.iinc 4 1, 3) := by decide +kernel
theorem dX1_leadHome_85 : decode cX1_leadHome 85 = .ok (.goto (-75), 3) := by decide +kernel
theorem dX1_leadHome_88 : decode cX1_leadHome 88 = .ok (.iconst 0, 1) := by decide +kernel
theorem dX1_leadHome_89 : decode cX1_leadHome 89 = .ok (.ireturn, 1) := by decide +kernel
theorem dX1_rest_0 : decode cX1_rest 0 = .ok (.aload_n 0, 1) := by decide +kernel
theorem dX1_rest_1 : decode cX1_rest 1 = .ok (.iload_n 1, 1) := by decide +kernel
theorem dX1_rest_2 : decode cX1_rest 2 = .ok (.invokevirtual 120, 3) := by decide +kernel
theorem dX1_rest_5 : decode cX1_rest 5 = .ok (.ifCond .eq 7, 3) := by decide +kernel
theorem dX1_rest_8 : decode cX1_rest 8 = .ok (.iconst 1, 1) := by decide +kernel
theorem dX1_rest_9 : decode cX1_rest 9 = .ok (.goto 15, 3) := by decide +kernel
theorem dX1_rest_12 : decode cX1_rest 12 = .ok (.aload_n 0, 1) := by decide +kernel
theorem dX1_rest_13 : decode cX1_rest 13 = .ok (.getfield 30, 3) := by decide +kernel
theorem dX1_rest_16 : decode cX1_rest 16 = .ok (.getfield 77, 3) := by decide +kernel
theorem dX1_rest_19 : decode cX1_rest 19 = .ok (.iload_n 1, 1) := by decide +kernel
theorem dX1_rest_20 : decode cX1_rest 20 = .ok (.iaload, 1) := by decide +kernel
theorem dX1_rest_21 : decode cX1_rest 21 = .ok (.invokestatic 123, 3) := by decide +kernel
theorem dX1_rest_24 : decode cX1_rest 24 = .ok (.istore_n 2, 1) := by decide +kernel
theorem dX1_rest_25 : decode cX1_rest 25 = .ok (.aload_n 0, 1) := by decide +kernel
theorem dX1_rest_26 : decode cX1_rest 26 = .ok (.getfield 15, 3) := by decide +kernel
theorem dX1_rest_29 : decode cX1_rest 29 = .ok (.iload_n 1, 1) := by decide +kernel
theorem dX1_rest_30 : decode cX1_rest 30 = .ok (.iconst 0, 1) := by decide +kernel
theorem dX1_rest_31 : decode cX1_rest 31 = .ok (.aload_n 0, 1) := by decide +kernel
theorem dX1_rest_32 : decode cX1_rest 32 = .ok (.getfield 15, 3) := by decide +kernel
theorem dX1_rest_35 : decode cX1_rest 35 = .ok (.iload_n 1, 1) := by decide +kernel
theorem dX1_rest_36 : decode cX1_rest 36 = .ok (.iaload, 1) := by decide +kernel
theorem dX1_rest_37 : decode cX1_rest 37 = .ok (.iload_n 2, 1) := by decide +kernel
theorem dX1_rest_38 : decode cX1_rest 38 = .ok (.isub, 1) := by decide +kernel
theorem dX1_rest_39 : decode cX1_rest 39 = .ok (.invokestatic 67, 3) := by decide +kernel
theorem dX1_rest_42 : decode cX1_rest 42 = .ok (.iastore, 1) := by decide +kernel
theorem dX1_rest_43 : decode cX1_rest 43 = .ok (.aload_n 0, 1) := by decide +kernel
theorem dX1_rest_44 : decode cX1_rest 44 = .ok (.iload_n 1, 1) := by decide +kernel
theorem dX1_rest_45 : decode cX1_rest 45 = .ok (.invokevirtual 73, 3) := by decide +kernel
theorem dX1_rest_48 : decode cX1_rest 48 = .ok (.return_, 1) := by decide +kernel
theorem dX1_passUntilThere_0 : decode cX1_passUntilThere 0 = .ok (.iconst 0, 1) := by decide +kernel
theorem dX1_passUntilThere_1 : decode cX1_passUntilThere 1 = .ok (.istore_n 3, 1) := by decide +kernel
theorem dX1_passUntilThere_2 : decode cX1_passUntilThere 2 = .ok (.iload_n 3, 1) := by decide +kernel
theorem dX1_passUntilThere_3 : decode cX1_passUntilThere 3 = .ok (.iload_n 2, 1) := by decide +kernel
theorem dX1_passUntilThere_4 : decode cX1_passUntilThere 4 = .ok (.if_icmp .ge 23, 3) := by decide +kernel
theorem dX1_passUntilThere_7 : decode cX1_passUntilThere 7 = .ok (.aload_n 0, 1) := by decide +kernel
theorem dX1_passUntilThere_8 : decode cX1_passUntilThere 8 = .ok (.iload_n 1, 1) := by decide +kernel
theorem dX1_passUntilThere_9 : decode cX1_passUntilThere 9 = .ok (.invokevirtual 63, 3) := by decide +kernel
theorem dX1_passUntilThere_12 : decode cX1_passUntilThere 12 = .ok (.ifCond .eq 5, 3) := by decide +kernel
theorem dX1_passUntilThere_15 : decode cX1_passUntilThere 15 = .ok (.iload_n 3, 1) := by decide +kernel
theorem dX1_passUntilThere_16 : decode cX1_passUntilThere 16 = .ok (.ireturn, 1) := by decide +kernel
theorem dX1_passUntilThere_17 : decode cX1_passUntilThere 17 = .ok (.aload_n 0, 1) := by decide +kernel
theorem dX1_passUntilThere_18 : decode cX1_passUntilThere 18 = .ok (.invokevirtual 127, 3) := by decide +kernel
theorem dX1_passUntilThere_21 : decode cX1_passUntilThere 21 = .ok (.iinc 3 1, 3) := by decide +kernel
theorem dX1_passUntilThere_24 : decode cX1_passUntilThere 24 = .ok (.goto (-22), 3) := by decide +kernel
theorem dX1_passUntilThere_27 : decode cX1_passUntilThere 27 = .ok (.aload_n 0, 1) := by decide +kernel
theorem dX1_passUntilThere_28 : decode cX1_passUntilThere 28 = .ok (.iload_n 1, 1) := by decide +kernel
theorem dX1_passUntilThere_29 : decode cX1_passUntilThere 29 = .ok (.invokevirtual 63, 3) := by decide +kernel
theorem dX1_passUntilThere_32 : decode cX1_passUntilThere 32 = .ok (.ifCond .eq 7, 3) := by decide +kernel
theorem dX1_passUntilThere_35 : decode cX1_passUntilThere 35 = .ok (.iload_n 2, 1) := by decide +kernel
theorem dX1_passUntilThere_36 : decode cX1_passUntilThere 36 = .ok (.goto 4, 3) := by decide +kernel
theorem dX1_passUntilThere_39 : decode cX1_passUntilThere 39 = .ok (.iconst (-1), 1) := by decide +kernel
theorem dX1_passUntilThere_40 : decode cX1_passUntilThere 40 = .ok (.ireturn, 1) := by decide +kernel
theorem dX1_fastestRide_0 : decode cX1_fastestRide 0 = .ok (.iconst 0, 1) := by decide +kernel
theorem dX1_fastestRide_1 : decode cX1_fastestRide 1 = .ok (.istore_n 2, 1) := by decide +kernel
theorem dX1_fastestRide_2 : decode cX1_fastestRide 2 = .ok (.aload_n 0, 1) := by decide +kernel
theorem dX1_fastestRide_3 : decode cX1_fastestRide 3 = .ok (.getfield 21, 3) := by decide +kernel
theorem dX1_fastestRide_6 : decode cX1_fastestRide 6 = .ok (.iload_n 1, 1) := by decide +kernel
theorem dX1_fastestRide_7 : decode cX1_fastestRide 7 = .ok (.iaload, 1) := by decide +kernel
theorem dX1_fastestRide_8 : decode cX1_fastestRide 8 = .ok (.istore_n 3, 1) := by decide +kernel
theorem dX1_fastestRide_9 : decode cX1_fastestRide 9 = .ok (.iconst 0, 1) := by decide +kernel
theorem dX1_fastestRide_10 : decode cX1_fastestRide 10 = .ok (.istore 4, 2) := by decide +kernel
theorem dX1_fastestRide_12 : decode cX1_fastestRide 12 = .ok (.iload 4, 2) := by decide +kernel
theorem dX1_fastestRide_14 : decode cX1_fastestRide 14 = .ok (.bipush 6, 2) := by decide +kernel
theorem dX1_fastestRide_16 : decode cX1_fastestRide 16 = .ok (.if_icmp .ge 64, 3) := by decide +kernel
theorem dX1_fastestRide_19 : decode cX1_fastestRide 19 = .ok (.iload_n 3, 1) := by decide +kernel
theorem dX1_fastestRide_20 : decode cX1_fastestRide 20 = .ok (.aload_n 0, 1) := by decide +kernel
theorem dX1_fastestRide_21 : decode cX1_fastestRide 21 = .ok (.getfield 24, 3) := by decide +kernel
theorem dX1_fastestRide_24 : decode cX1_fastestRide 24 = .ok (.iload_n 1, 1) := by decide +kernel
theorem dX1_fastestRide_25 : decode cX1_fastestRide 25 = .ok (.iaload, 1) := by decide +kernel
theorem dX1_fastestRide_26 : decode cX1_fastestRide 26 = .ok (.if_icmp .eq 54, 3) := by decide +kernel
theorem dX1_fastestRide_29 : decode cX1_fastestRide 29 = .ok (.iload_n 3, 1) := by decide +kernel
theorem dX1_fastestRide_30 : decode cX1_fastestRide 30 = .ok (.aload_n 0, 1) := by decide +kernel
theorem dX1_fastestRide_31 : decode cX1_fastestRide 31 = .ok (.getfield 24, 3) := by decide +kernel
theorem dX1_fastestRide_34 : decode cX1_fastestRide 34 = .ok (.iload_n 1, 1) := by decide +kernel
theorem dX1_fastestRide_35 : decode cX1_fastestRide 35 = .ok (.iaload, 1) := by decide +kernel
theorem dX1_fastestRide_36 : decode cX1_fastestRide 36 = .ok (.invokestatic 108, 3) := by decide +kernel
theorem dX1_fastestRide_39 : decode cX1_fastestRide 39 = .ok (.istore 5, 2) := by decide +kernel
theorem dX1_fastestRide_41 : decode cX1_fastestRide 41 = .ok (.aload_n 0, 1) := by decide +kernel
theorem dX1_fastestRide_42 : decode cX1_fastestRide 42 = .ok (.iload_n 3, 1) := by decide +kernel
theorem dX1_fastestRide_43 : decode cX1_fastestRide 43 = .ok (.aload_n 0, 1) := by decide +kernel
theorem dX1_fastestRide_44 : decode cX1_fastestRide 44 = .ok (.getfield 30, 3) := by decide +kernel
theorem dX1_fastestRide_47 : decode cX1_fastestRide 47 = .ok (.iload_n 3, 1) := by decide +kernel
theorem dX1_fastestRide_48 : decode cX1_fastestRide 48 = .ok (.iload 5, 2) := by decide +kernel
theorem dX1_fastestRide_50 : decode cX1_fastestRide 50 = .ok (.invokevirtual 111, 3) := by decide +kernel
theorem dX1_fastestRide_53 : decode cX1_fastestRide 53 = .ok (.invokevirtual 130, 3) := by decide +kernel
theorem dX1_fastestRide_56 : decode cX1_fastestRide 56 = .ok (.istore 6, 2) := by decide +kernel
theorem dX1_fastestRide_58 : decode cX1_fastestRide 58 = .ok (.iload 6, 2) := by decide +kernel
theorem dX1_fastestRide_60 : decode cX1_fastestRide 60 = .ok (.iconst (-1), 1) := by decide +kernel
theorem dX1_fastestRide_61 : decode cX1_fastestRide 61 = .ok (.if_icmp .ne 5, 3) := by decide +kernel
theorem dX1_fastestRide_64 : decode cX1_fastestRide 64 = .ok (.iconst (-1), 1) := by decide +kernel
theorem dX1_fastestRide_65 : decode cX1_fastestRide 65 = .ok (.ireturn, 1) := by decide +kernel
theorem dX1_fastestRide_66 : decode cX1_fastestRide 66 = .ok (.iload_n 2, 1) := by decide +kernel
theorem dX1_fastestRide_67 : decode cX1_fastestRide 67 = .ok (.iload 6, 2) := by decide +kernel
theorem dX1_fastestRide_69 : decode cX1_fastestRide 69 = .ok (.iadd, 1) := by decide +kernel
theorem dX1_fastestRide_70 : decode cX1_fastestRide 70 = .ok (.istore_n 2, 1) := by decide +kernel
theorem dX1_fastestRide_71 : decode cX1_fastestRide 71 = .ok (.iload 5, 2) := by decide +kernel
theorem dX1_fastestRide_73 : decode cX1_fastestRide 73 = .ok (.istore_n 3, 1) := by decide +kernel
theorem dX1_fastestRide_74 : decode cX1_fastestRide 74 = .ok (.iinc 4 1, 3) := by decide +kernel
theorem dX1_fastestRide_77 : decode cX1_fastestRide 77 = .ok (.goto (-65), 3) := by decide +kernel
theorem dX1_fastestRide_80 : decode cX1_fastestRide 80 = .ok (.iload_n 2, 1) := by decide +kernel
theorem dX1_fastestRide_81 : decode cX1_fastestRide 81 = .ok (.ireturn, 1) := by decide +kernel
theorem dX1_leastTaken_0 : decode cX1_leastTaken 0 = .ok (.iconst (-1), 1) := by decide +kernel
theorem dX1_leastTaken_1 : decode cX1_leastTaken 1 = .ok (.istore_n 3, 1) := by decide +kernel
theorem dX1_leastTaken_2 : decode cX1_leastTaken 2 = .ok (.iconst 0, 1) := by decide +kernel
theorem dX1_leastTaken_3 : decode cX1_leastTaken 3 = .ok (.istore 4, 2) := by decide +kernel
theorem dX1_leastTaken_5 : decode cX1_leastTaken 5 = .ok (.iload 4, 2) := by decide +kernel
theorem dX1_leastTaken_7 : decode cX1_leastTaken 7 = .ok (.aload_n 0, 1) := by decide +kernel
theorem dX1_leastTaken_8 : decode cX1_leastTaken 8 = .ok (.getfield 30, 3) := by decide +kernel
theorem dX1_leastTaken_11 : decode cX1_leastTaken 11 = .ok (.getfield 41, 3) := by decide +kernel
theorem dX1_leastTaken_14 : decode cX1_leastTaken 14 = .ok (.if_icmp .ge 85, 3) := by decide +kernel
theorem dX1_leastTaken_17 : decode cX1_leastTaken 17 = .ok (.aload_n 0, 1) := by decide +kernel
theorem dX1_leastTaken_18 : decode cX1_leastTaken 18 = .ok (.getfield 30, 3) := by decide +kernel
theorem dX1_leastTaken_21 : decode cX1_leastTaken 21 = .ok (.getfield 77, 3) := by decide +kernel
theorem dX1_leastTaken_24 : decode cX1_leastTaken 24 = .ok (.iload 4, 2) := by decide +kernel
theorem dX1_leastTaken_26 : decode cX1_leastTaken 26 = .ok (.iaload, 1) := by decide +kernel
theorem dX1_leastTaken_27 : decode cX1_leastTaken 27 = .ok (.istore 5, 2) := by decide +kernel
theorem dX1_leastTaken_29 : decode cX1_leastTaken 29 = .ok (.aload_n 0, 1) := by decide +kernel
theorem dX1_leastTaken_30 : decode cX1_leastTaken 30 = .ok (.getfield 11, 3) := by decide +kernel
theorem dX1_leastTaken_33 : decode cX1_leastTaken 33 = .ok (.iload 4, 2) := by decide +kernel
theorem dX1_leastTaken_35 : decode cX1_leastTaken 35 = .ok (.iaload, 1) := by decide +kernel
theorem dX1_leastTaken_36 : decode cX1_leastTaken 36 = .ok (.iload_n 1, 1) := by decide +kernel
theorem dX1_leastTaken_37 : decode cX1_leastTaken 37 = .ok (.if_icmp .ne 56, 3) := by decide +kernel
theorem dX1_leastTaken_40 : decode cX1_leastTaken 40 = .ok (.aload_n 0, 1) := by decide +kernel
theorem dX1_leastTaken_41 : decode cX1_leastTaken 41 = .ok (.iload 4, 2) := by decide +kernel
theorem dX1_leastTaken_43 : decode cX1_leastTaken 43 = .ok (.invokevirtual 120, 3) := by decide +kernel
theorem dX1_leastTaken_46 : decode cX1_leastTaken 46 = .ok (.ifCond .ne 47, 3) := by decide +kernel
theorem dX1_leastTaken_49 : decode cX1_leastTaken 49 = .ok (.aload_n 0, 1) := by decide +kernel
theorem dX1_leastTaken_50 : decode cX1_leastTaken 50 = .ok (.getfield 15, 3) := by decide +kernel
theorem dX1_leastTaken_53 : decode cX1_leastTaken 53 = .ok (.iload 4, 2) := by decide +kernel
theorem dX1_leastTaken_55 : decode cX1_leastTaken 55 = .ok (.iaload, 1) := by decide +kernel
theorem dX1_leastTaken_56 : decode cX1_leastTaken 56 = .ok (.iload 5, 2) := by decide +kernel
theorem dX1_leastTaken_58 : decode cX1_leastTaken 58 = .ok (.iload_n 2, 1) := by decide +kernel
theorem dX1_leastTaken_59 : decode cX1_leastTaken 59 = .ok (.invokestatic 117, 3) := by decide +kernel
theorem dX1_leastTaken_62 : decode cX1_leastTaken 62 = .ok (.iadd, 1) := by decide +kernel
theorem dX1_leastTaken_63 : decode cX1_leastTaken 63 = .ok (.bipush 10, 2) := by decide +kernel
theorem dX1_leastTaken_65 : decode cX1_leastTaken 65 = .ok (.if_icmp .ge 28, 3) := by decide +kernel
theorem dX1_leastTaken_68 : decode cX1_leastTaken 68 = .ok (.iload 5, 2) := by decide +kernel
theorem dX1_leastTaken_70 : decode cX1_leastTaken 70 = .ok (.iload_n 2, 1) := by decide +kernel
theorem dX1_leastTaken_71 : decode cX1_leastTaken 71 = .ok (.invokestatic 114, 3) := by decide +kernel
theorem dX1_leastTaken_74 : decode cX1_leastTaken 74 = .ok (.istore 6, 2) := by decide +kernel
theorem dX1_leastTaken_76 : decode cX1_leastTaken 76 = .ok (.iload_n 3, 1) := by decide +kernel
theorem dX1_leastTaken_77 : decode cX1_leastTaken 77 = .ok (.iconst (-1), 1) := by decide +kernel
theorem dX1_leastTaken_78 : decode cX1_leastTaken 78 = .ok (.if_icmp .ne 8, 3) := by decide +kernel
theorem dX1_leastTaken_81 : decode cX1_leastTaken 81 = .ok (.iload 6, 2) := by decide +kernel
theorem dX1_leastTaken_83 : decode cX1_leastTaken 83 = .ok (.goto 9, 3) := by decide +kernel
theorem dX1_leastTaken_86 : decode cX1_leastTaken 86 = .ok (.iload_n 3, 1) := by decide +kernel
theorem dX1_leastTaken_87 : decode cX1_leastTaken 87 = .ok (.iload 6, 2) := by decide +kernel
theorem dX1_leastTaken_89 : decode cX1_leastTaken 89 = .ok (.invokestatic 133, 3) := by decide +kernel
theorem dX1_leastTaken_92 : decode cX1_leastTaken 92 = .ok (.istore_n 3, 1) := by decide +kernel
theorem dX1_leastTaken_93 : decode cX1_leastTaken 93 = .ok (.iinc 4 1, 3) := by decide +kernel
theorem dX1_leastTaken_96 : decode cX1_leastTaken 96 = .ok (.goto (-91), 3) := by decide +kernel
theorem dX1_leastTaken_99 : decode cX1_leastTaken 99 = .ok (.iload_n 3, 1) := by decide +kernel
theorem dX1_leastTaken_100 : decode cX1_leastTaken 100 = .ok (.ireturn, 1) := by decide +kernel
theorem dX2_takes_0 : decode cX2_takes 0 = .ok (.iload_n 0, 1) := by decide +kernel
theorem dX2_takes_1 : decode cX2_takes 1 = .ok (.tableswitch 37 2 4 #[27, 33, 33], 27) := by decide +kernel
theorem dX2_takes_28 : decode cX2_takes 28 = .ok (.iload_n 1, 1) := by decide +kernel
theorem dX2_takes_29 : decode cX2_takes 29 = .ok (.iconst 2, 1) := by decide +kernel
theorem dX2_takes_30 : decode cX2_takes 30 = .ok (.idiv, 1) := by decide +kernel
theorem dX2_takes_31 : decode cX2_takes 31 = .ok (.iconst 1, 1) := by decide +kernel
theorem dX2_takes_32 : decode cX2_takes 32 = .ok (.iadd, 1) := by decide +kernel
theorem dX2_takes_33 : decode cX2_takes 33 = .ok (.ireturn, 1) := by decide +kernel
theorem dX2_takes_34 : decode cX2_takes 34 = .ok (.iconst 2, 1) := by decide +kernel
theorem dX2_takes_35 : decode cX2_takes 35 = .ok (.iload_n 1, 1) := by decide +kernel
theorem dX2_takes_36 : decode cX2_takes 36 = .ok (.imul, 1) := by decide +kernel
theorem dX2_takes_37 : decode cX2_takes 37 = .ok (.ireturn, 1) := by decide +kernel
theorem dX2_takes_38 : decode cX2_takes 38 = .ok (.iload_n 1, 1) := by decide +kernel
theorem dX2_takes_39 : decode cX2_takes 39 = .ok (.ireturn, 1) := by decide +kernel
theorem dX2_tires_0 : decode cX2_tires 0 = .ok (.iload_n 0, 1) := by decide +kernel
theorem dX2_tires_1 : decode cX2_tires 1 = .ok (.tableswitch 35 2 4 #[27, 31, 33], 27) := by decide +kernel
theorem dX2_tires_28 : decode cX2_tires 28 = .ok (.iconst 2, 1) := by decide +kernel
theorem dX2_tires_29 : decode cX2_tires 29 = .ok (.iload_n 1, 1) := by decide +kernel
theorem dX2_tires_30 : decode cX2_tires 30 = .ok (.imul, 1) := by decide +kernel
theorem dX2_tires_31 : decode cX2_tires 31 = .ok (.ireturn, 1) := by decide +kernel
theorem dX2_tires_32 : decode cX2_tires 32 = .ok (.iconst 0, 1) := by decide +kernel
theorem dX2_tires_33 : decode cX2_tires 33 = .ok (.ireturn, 1) := by decide +kernel
theorem dX2_tires_34 : decode cX2_tires 34 = .ok (.iconst 1, 1) := by decide +kernel
theorem dX2_tires_35 : decode cX2_tires 35 = .ok (.ireturn, 1) := by decide +kernel
theorem dX2_tires_36 : decode cX2_tires 36 = .ok (.iload_n 1, 1) := by decide +kernel
theorem dX2_tires_37 : decode cX2_tires 37 = .ok (.ireturn, 1) := by decide +kernel
theorem dX2_rests_0 : decode cX2_rests 0 = .ok (.iload_n 0, 1) := by decide +kernel
theorem dX2_rests_1 : decode cX2_rests 1 = .ok (.tableswitch 35 1 4 #[31, 35, 33, 33], 31) := by decide +kernel
theorem dX2_rests_32 : decode cX2_rests 32 = .ok (.iconst 3, 1) := by decide +kernel
theorem dX2_rests_33 : decode cX2_rests 33 = .ok (.ireturn, 1) := by decide +kernel
theorem dX2_rests_34 : decode cX2_rests 34 = .ok (.iconst 1, 1) := by decide +kernel
theorem dX2_rests_35 : decode cX2_rests 35 = .ok (.ireturn, 1) := by decide +kernel
theorem dX2_rests_36 : decode cX2_rests 36 = .ok (.iconst 2, 1) := by decide +kernel
theorem dX2_rests_37 : decode cX2_rests 37 = .ok (.ireturn, 1) := by decide +kernel
theorem dX2_isWilling_0 : decode cX2_isWilling 0 = .ok (.iload_n 0, 1) := by decide +kernel
theorem dX2_isWilling_1 : decode cX2_isWilling 1 = .ok (.iconst 4, 1) := by decide +kernel
theorem dX2_isWilling_2 : decode cX2_isWilling 2 = .ok (.if_icmp .eq 7, 3) := by decide +kernel
theorem dX2_isWilling_5 : decode cX2_isWilling 5 = .ok (.iconst 1, 1) := by decide +kernel
theorem dX2_isWilling_6 : decode cX2_isWilling 6 = .ok (.goto 4, 3) := by decide +kernel
theorem dX2_isWilling_9 : decode cX2_isWilling 9 = .ok (.iconst 0, 1) := by decide +kernel
theorem dX2_isWilling_10 : decode cX2_isWilling 10 = .ok (.ireturn, 1) := by decide +kernel
theorem dX2_throwsOff_0 : decode cX2_throwsOff 0 = .ok (.iload_n 0, 1) := by decide +kernel
theorem dX2_throwsOff_1 : decode cX2_throwsOff 1 = .ok (.iconst 1, 1) := by decide +kernel
theorem dX2_throwsOff_2 : decode cX2_throwsOff 2 = .ok (.if_icmp .ne 13, 3) := by decide +kernel
theorem dX2_throwsOff_5 : decode cX2_throwsOff 5 = .ok (.iload_n 1, 1) := by decide +kernel
theorem dX2_throwsOff_6 : decode cX2_throwsOff 6 = .ok (.iconst 3, 1) := by decide +kernel
theorem dX2_throwsOff_7 : decode cX2_throwsOff 7 = .ok (.irem, 1) := by decide +kernel
theorem dX2_throwsOff_8 : decode cX2_throwsOff 8 = .ok (.ifCond .ne 7, 3) := by decide +kernel
theorem dX2_throwsOff_11 : decode cX2_throwsOff 11 = .ok (.iconst 1, 1) := by decide +kernel
theorem dX2_throwsOff_12 : decode cX2_throwsOff 12 = .ok (.goto 4, 3) := by decide +kernel
theorem dX2_throwsOff_15 : decode cX2_throwsOff 15 = .ok (.iconst 0, 1) := by decide +kernel
theorem dX2_throwsOff_16 : decode cX2_throwsOff 16 = .ok (.ireturn, 1) := by decide +kernel
theorem dX2_isUnder_0 : decode cX2_isUnder 0 = .ok (.iload_n 1, 1) := by decide +kernel
theorem dX2_isUnder_1 : decode cX2_isUnder 1 = .ok (.tableswitch 73 0 4 #[35, 37, 73, 73, 57], 35) := by decide +kernel
theorem dX2_isUnder_36 : decode cX2_isUnder 36 = .ok (.iconst 1, 1) := by decide +kernel
theorem dX2_isUnder_37 : decode cX2_isUnder 37 = .ok (.ireturn, 1) := by decide +kernel
theorem dX2_isUnder_38 : decode cX2_isUnder 38 = .ok (.iload_n 0, 1) := by decide +kernel
theorem dX2_isUnder_39 : decode cX2_isUnder 39 = .ok (.ifCond .eq 13, 3) := by decide +kernel
theorem dX2_isUnder_42 : decode cX2_isUnder 42 = .ok (.iload_n 0, 1) := by decide +kernel
theorem dX2_isUnder_43 : decode cX2_isUnder 43 = .ok (.iconst 1, 1) := by decide +kernel
theorem dX2_isUnder_44 : decode cX2_isUnder 44 = .ok (.if_icmp .eq 8, 3) := by decide +kernel
theorem dX2_isUnder_47 : decode cX2_isUnder 47 = .ok (.iload_n 0, 1) := by decide +kernel
theorem dX2_isUnder_48 : decode cX2_isUnder 48 = .ok (.iconst 2, 1) := by decide +kernel
theorem dX2_isUnder_49 : decode cX2_isUnder 49 = .ok (.if_icmp .ne 7, 3) := by decide +kernel
theorem dX2_isUnder_52 : decode cX2_isUnder 52 = .ok (.iconst 1, 1) := by decide +kernel
theorem dX2_isUnder_53 : decode cX2_isUnder 53 = .ok (.goto 4, 3) := by decide +kernel
theorem dX2_isUnder_56 : decode cX2_isUnder 56 = .ok (.iconst 0, 1) := by decide +kernel
theorem dX2_isUnder_57 : decode cX2_isUnder 57 = .ok (.ireturn, 1) := by decide +kernel
theorem dX2_isUnder_58 : decode cX2_isUnder 58 = .ok (.iload_n 0, 1) := by decide +kernel
theorem dX2_isUnder_59 : decode cX2_isUnder 59 = .ok (.iconst 3, 1) := by decide +kernel
theorem dX2_isUnder_60 : decode cX2_isUnder 60 = .ok (.if_icmp .eq 8, 3) := by decide +kernel
theorem dX2_isUnder_63 : decode cX2_isUnder 63 = .ok (.iload_n 0, 1) := by decide +kernel
theorem dX2_isUnder_64 : decode cX2_isUnder 64 = .ok (.iconst 4, 1) := by decide +kernel
theorem dX2_isUnder_65 : decode cX2_isUnder 65 = .ok (.if_icmp .ne 7, 3) := by decide +kernel
theorem dX2_isUnder_68 : decode cX2_isUnder 68 = .ok (.iconst 1, 1) := by decide +kernel
theorem dX2_isUnder_69 : decode cX2_isUnder 69 = .ok (.goto 4, 3) := by decide +kernel
theorem dX2_isUnder_72 : decode cX2_isUnder 72 = .ok (.iconst 0, 1) := by decide +kernel
theorem dX2_isUnder_73 : decode cX2_isUnder 73 = .ok (.ireturn, 1) := by decide +kernel
theorem dX2_isUnder_74 : decode cX2_isUnder 74 = .ok (.iload_n 0, 1) := by decide +kernel
theorem dX2_isUnder_75 : decode cX2_isUnder 75 = .ok (.iconst 1, 1) := by decide +kernel
theorem dX2_isUnder_76 : decode cX2_isUnder 76 = .ok (.iadd, 1) := by decide +kernel
theorem dX2_isUnder_77 : decode cX2_isUnder 77 = .ok (.iload_n 1, 1) := by decide +kernel
theorem dX2_isUnder_78 : decode cX2_isUnder 78 = .ok (.if_icmp .ne 7, 3) := by decide +kernel
theorem dX2_isUnder_81 : decode cX2_isUnder 81 = .ok (.iconst 1, 1) := by decide +kernel
theorem dX2_isUnder_82 : decode cX2_isUnder 82 = .ok (.goto 4, 3) := by decide +kernel
theorem dX2_isUnder_85 : decode cX2_isUnder 85 = .ok (.iconst 0, 1) := by decide +kernel
theorem dX2_isUnder_86 : decode cX2_isUnder 86 = .ok (.ireturn, 1) := by decide +kernel
theorem dX3_ofFalls_0 : decode cX3_ofFalls 0 = .ok (.lconst 0, 1) := by decide +kernel
theorem dX3_ofFalls_1 : decode cX3_ofFalls 1 = .ok (.lstore 4, 2) := by decide +kernel
theorem dX3_ofFalls_3 : decode cX3_ofFalls 3 = .ok (.iload_n 2, 1) := by decide +kernel
theorem dX3_ofFalls_4 : decode cX3_ofFalls 4 = .ok (.istore 6, 2) := by decide +kernel
theorem dX3_ofFalls_6 : decode cX3_ofFalls 6 = .ok (.iload 6, 2) := by decide +kernel
theorem dX3_ofFalls_8 : decode cX3_ofFalls 8 = .ok (.iload_n 0, 1) := by decide +kernel
theorem dX3_ofFalls_9 : decode cX3_ofFalls 9 = .ok (.if_icmp .gt 39, 3) := by decide +kernel
theorem dX3_ofFalls_12 : decode cX3_ofFalls 12 = .ok (.lload 4, 2) := by decide +kernel
theorem dX3_ofFalls_14 : decode cX3_ofFalls 14 = .ok (.iload_n 0, 1) := by decide +kernel
theorem dX3_ofFalls_15 : decode cX3_ofFalls 15 = .ok (.iload 6, 2) := by decide +kernel
theorem dX3_ofFalls_17 : decode cX3_ofFalls 17 = .ok (.invokestatic 7, 3) := by decide +kernel
theorem dX3_ofFalls_20 : decode cX3_ofFalls 20 = .ok (.iload_n 1, 1) := by decide +kernel
theorem dX3_ofFalls_21 : decode cX3_ofFalls 21 = .ok (.iload 6, 2) := by decide +kernel
theorem dX3_ofFalls_23 : decode cX3_ofFalls 23 = .ok (.invokestatic 13, 3) := by decide +kernel
theorem dX3_ofFalls_26 : decode cX3_ofFalls 26 = .ok (.lmul, 1) := by decide +kernel
theorem dX3_ofFalls_27 : decode cX3_ofFalls 27 = .ok (.bipush 10, 2) := by decide +kernel
theorem dX3_ofFalls_29 : decode cX3_ofFalls 29 = .ok (.iload_n 1, 1) := by decide +kernel
theorem dX3_ofFalls_30 : decode cX3_ofFalls 30 = .ok (.isub, 1) := by decide +kernel
theorem dX3_ofFalls_31 : decode cX3_ofFalls 31 = .ok (.iload_n 0, 1) := by decide +kernel
theorem dX3_ofFalls_32 : decode cX3_ofFalls 32 = .ok (.iload 6, 2) := by decide +kernel
theorem dX3_ofFalls_34 : decode cX3_ofFalls 34 = .ok (.isub, 1) := by decide +kernel
theorem dX3_ofFalls_35 : decode cX3_ofFalls 35 = .ok (.invokestatic 13, 3) := by decide +kernel
theorem dX3_ofFalls_38 : decode cX3_ofFalls 38 = .ok (.lmul, 1) := by decide +kernel
theorem dX3_ofFalls_39 : decode cX3_ofFalls 39 = .ok (.ladd, 1) := by decide +kernel
theorem dX3_ofFalls_40 : decode cX3_ofFalls 40 = .ok (.lstore 4, 2) := by decide +kernel
theorem dX3_ofFalls_42 : decode cX3_ofFalls 42 = .ok (.iinc 6 1, 3) := by decide +kernel
theorem dX3_ofFalls_45 : decode cX3_ofFalls 45 = .ok (.goto (-39), 3) := by decide +kernel
theorem dX3_ofFalls_48 : decode cX3_ofFalls 48 = .ok (.bipush 10, 2) := by decide +kernel
theorem dX3_ofFalls_50 : decode cX3_ofFalls 50 = .ok (.iload_n 0, 1) := by decide +kernel
theorem dX3_ofFalls_51 : decode cX3_ofFalls 51 = .ok (.invokestatic 13, 3) := by decide +kernel
theorem dX3_ofFalls_54 : decode cX3_ofFalls 54 = .ok (.lstore 6, 2) := by decide +kernel
theorem dX3_ofFalls_56 : decode cX3_ofFalls 56 = .ok (.iconst 0, 1) := by decide +kernel
theorem dX3_ofFalls_57 : decode cX3_ofFalls 57 = .ok (.istore 8, 2) := by decide +kernel
theorem dX3_ofFalls_59 : decode cX3_ofFalls 59 = .ok (.iload 8, 2) := by decide +kernel
theorem dX3_ofFalls_61 : decode cX3_ofFalls 61 = .ok (.iload_n 0, 1) := by decide +kernel
theorem dX3_ofFalls_62 : decode cX3_ofFalls 62 = .ok (.if_icmp .ge 85, 3) := by decide +kernel
theorem dX3_ofFalls_65 : decode cX3_ofFalls 65 = .ok (.lload 4, 2) := by decide +kernel
theorem dX3_ofFalls_67 : decode cX3_ofFalls 67 = .ok (.ldc2_w 16, 3) := by decide +kernel
theorem dX3_ofFalls_70 : decode cX3_ofFalls 70 = .ok (.lrem, 1) := by decide +kernel
theorem dX3_ofFalls_71 : decode cX3_ofFalls 71 = .ok (.lconst 0, 1) := by decide +kernel
theorem dX3_ofFalls_72 : decode cX3_ofFalls 72 = .ok (.lcmp, 1) := by decide +kernel
theorem dX3_ofFalls_73 : decode cX3_ofFalls 73 = .ok (.ifCond .ne 30, 3) := by decide +kernel
theorem dX3_ofFalls_76 : decode cX3_ofFalls 76 = .ok (.lload 6, 2) := by decide +kernel
theorem dX3_ofFalls_78 : decode cX3_ofFalls 78 = .ok (.ldc2_w 16, 3) := by decide +kernel
theorem dX3_ofFalls_81 : decode cX3_ofFalls 81 = .ok (.lrem, 1) := by decide +kernel
theorem dX3_ofFalls_82 : decode cX3_ofFalls 82 = .ok (.lconst 0, 1) := by decide +kernel
theorem dX3_ofFalls_83 : decode cX3_ofFalls 83 = .ok (.lcmp, 1) := by decide +kernel
theorem dX3_ofFalls_84 : decode cX3_ofFalls 84 = .ok (.ifCond .ne 19, 3) := by decide +kernel
theorem dX3_ofFalls_87 : decode cX3_ofFalls 87 = .ok (.lload 4, 2) := by decide +kernel
theorem dX3_ofFalls_89 : decode cX3_ofFalls 89 = .ok (.ldc2_w 16, 3) := by decide +kernel
theorem dX3_ofFalls_92 : decode cX3_ofFalls 92 = .ok (.ldiv, 1) := by decide +kernel
theorem dX3_ofFalls_93 : decode cX3_ofFalls 93 = .ok (.lstore 4, 2) := by decide +kernel
theorem dX3_ofFalls_95 : decode cX3_ofFalls 95 = .ok (.lload 6, 2) := by decide +kernel
theorem dX3_ofFalls_97 : decode cX3_ofFalls 97 = .ok (.ldc2_w 16, 3) := by decide +kernel
theorem dX3_ofFalls_100 : decode cX3_ofFalls 100 = .ok (.ldiv, 1) := by decide +kernel
theorem dX3_ofFalls_101 : decode cX3_ofFalls 101 = .ok (.lstore 6, 2) := by decide +kernel
theorem dX3_ofFalls_103 : decode cX3_ofFalls 103 = .ok (.lload 4, 2) := by decide +kernel
theorem dX3_ofFalls_105 : decode cX3_ofFalls 105 = .ok (.ldc2_w 18, 3) := by decide +kernel
theorem dX3_ofFalls_108 : decode cX3_ofFalls 108 = .ok (.lrem, 1) := by decide +kernel
theorem dX3_ofFalls_109 : decode cX3_ofFalls 109 = .ok (.lconst 0, 1) := by decide +kernel
theorem dX3_ofFalls_110 : decode cX3_ofFalls 110 = .ok (.lcmp, 1) := by decide +kernel
theorem dX3_ofFalls_111 : decode cX3_ofFalls 111 = .ok (.ifCond .ne 30, 3) := by decide +kernel
theorem dX3_ofFalls_114 : decode cX3_ofFalls 114 = .ok (.lload 6, 2) := by decide +kernel
theorem dX3_ofFalls_116 : decode cX3_ofFalls 116 = .ok (.ldc2_w 18, 3) := by decide +kernel
theorem dX3_ofFalls_119 : decode cX3_ofFalls 119 = .ok (.lrem, 1) := by decide +kernel
theorem dX3_ofFalls_120 : decode cX3_ofFalls 120 = .ok (.lconst 0, 1) := by decide +kernel
theorem dX3_ofFalls_121 : decode cX3_ofFalls 121 = .ok (.lcmp, 1) := by decide +kernel
theorem dX3_ofFalls_122 : decode cX3_ofFalls 122 = .ok (.ifCond .ne 19, 3) := by decide +kernel
theorem dX3_ofFalls_125 : decode cX3_ofFalls 125 = .ok (.lload 4, 2) := by decide +kernel
theorem dX3_ofFalls_127 : decode cX3_ofFalls 127 = .ok (.ldc2_w 18, 3) := by decide +kernel
theorem dX3_ofFalls_130 : decode cX3_ofFalls 130 = .ok (.ldiv, 1) := by decide +kernel
theorem dX3_ofFalls_131 : decode cX3_ofFalls 131 = .ok (.lstore 4, 2) := by decide +kernel
theorem dX3_ofFalls_133 : decode cX3_ofFalls 133 = .ok (.lload 6, 2) := by decide +kernel
theorem dX3_ofFalls_135 : decode cX3_ofFalls 135 = .ok (.ldc2_w 18, 3) := by decide +kernel
theorem dX3_ofFalls_138 : decode cX3_ofFalls 138 = .ok (.ldiv, 1) := by decide +kernel
theorem dX3_ofFalls_139 : decode cX3_ofFalls 139 = .ok (.lstore 6, 2) := by decide +kernel
theorem dX3_ofFalls_141 : decode cX3_ofFalls 141 = .ok (.iinc 8 1, 3) := by decide +kernel
theorem dX3_ofFalls_144 : decode cX3_ofFalls 144 = .ok (.goto (-85), 3) := by decide +kernel
theorem dX3_ofFalls_147 : decode cX3_ofFalls 147 = .ok (.iload_n 3, 1) := by decide +kernel
theorem dX3_ofFalls_148 : decode cX3_ofFalls 148 = .ok (.ifCond .ne 8, 3) := by decide +kernel
theorem dX3_ofFalls_151 : decode cX3_ofFalls 151 = .ok (.lload 4, 2) := by decide +kernel
theorem dX3_ofFalls_153 : decode cX3_ofFalls 153 = .ok (.goto 5, 3) := by decide +kernel
theorem dX3_ofFalls_156 : decode cX3_ofFalls 156 = .ok (.lload 6, 2) := by decide +kernel
theorem dX3_ofFalls_158 : decode cX3_ofFalls 158 = .ok (.l2i, 1) := by decide +kernel
theorem dX3_ofFalls_159 : decode cX3_ofFalls 159 = .ok (.ireturn, 1) := by decide +kernel
theorem dX3_ways_0 : decode cX3_ways 0 = .ok (.lconst 1, 1) := by decide +kernel
theorem dX3_ways_1 : decode cX3_ways 1 = .ok (.lstore_n 2, 1) := by decide +kernel
theorem dX3_ways_2 : decode cX3_ways 2 = .ok (.iconst 0, 1) := by decide +kernel
theorem dX3_ways_3 : decode cX3_ways 3 = .ok (.istore 4, 2) := by decide +kernel
theorem dX3_ways_5 : decode cX3_ways 5 = .ok (.iload 4, 2) := by decide +kernel
theorem dX3_ways_7 : decode cX3_ways 7 = .ok (.iload_n 1, 1) := by decide +kernel
theorem dX3_ways_8 : decode cX3_ways 8 = .ok (.if_icmp .ge 23, 3) := by decide +kernel
theorem dX3_ways_11 : decode cX3_ways 11 = .ok (.lload_n 2, 1) := by decide +kernel
theorem dX3_ways_12 : decode cX3_ways 12 = .ok (.iload_n 0, 1) := by decide +kernel
theorem dX3_ways_13 : decode cX3_ways 13 = .ok (.iload 4, 2) := by decide +kernel
theorem dX3_ways_15 : decode cX3_ways 15 = .ok (.isub, 1) := by decide +kernel
theorem dX3_ways_16 : decode cX3_ways 16 = .ok (.i2l, 1) := by decide +kernel
theorem dX3_ways_17 : decode cX3_ways 17 = .ok (.lmul, 1) := by decide +kernel
theorem dX3_ways_18 : decode cX3_ways 18 = .ok (.iload 4, 2) := by decide +kernel
theorem dX3_ways_20 : decode cX3_ways 20 = .ok (.iconst 1, 1) := by decide +kernel
theorem dX3_ways_21 : decode cX3_ways 21 = .ok (.iadd, 1) := by decide +kernel
theorem dX3_ways_22 : decode cX3_ways 22 = .ok (.i2l, 1) := by decide +kernel
theorem dX3_ways_23 : decode cX3_ways 23 = .ok (.ldiv, 1) := by decide +kernel
theorem dX3_ways_24 : decode cX3_ways 24 = .ok (.lstore_n 2, 1) := by decide +kernel
theorem dX3_ways_25 : decode cX3_ways 25 = .ok (.iinc 4 1, 3) := by decide +kernel
theorem dX3_ways_28 : decode cX3_ways 28 = .ok (.goto (-23), 3) := by decide +kernel
theorem dX3_ways_31 : decode cX3_ways 31 = .ok (.lload_n 2, 1) := by decide +kernel
theorem dX3_ways_32 : decode cX3_ways 32 = .ok (.lreturn, 1) := by decide +kernel
theorem dX3_power_0 : decode cX3_power 0 = .ok (.lconst 1, 1) := by decide +kernel
theorem dX3_power_1 : decode cX3_power 1 = .ok (.lstore_n 2, 1) := by decide +kernel
theorem dX3_power_2 : decode cX3_power 2 = .ok (.iconst 0, 1) := by decide +kernel
theorem dX3_power_3 : decode cX3_power 3 = .ok (.istore 4, 2) := by decide +kernel
theorem dX3_power_5 : decode cX3_power 5 = .ok (.iload 4, 2) := by decide +kernel
theorem dX3_power_7 : decode cX3_power 7 = .ok (.iload_n 1, 1) := by decide +kernel
theorem dX3_power_8 : decode cX3_power 8 = .ok (.if_icmp .ge 14, 3) := by decide +kernel
theorem dX3_power_11 : decode cX3_power 11 = .ok (.lload_n 2, 1) := by decide +kernel
theorem dX3_power_12 : decode cX3_power 12 = .ok (.iload_n 0, 1) := by decide +kernel
theorem dX3_power_13 : decode cX3_power 13 = .ok (.i2l, 1) := by decide +kernel
theorem dX3_power_14 : decode cX3_power 14 = .ok (.lmul, 1) := by decide +kernel
theorem dX3_power_15 : decode cX3_power 15 = .ok (.lstore_n 2, 1) := by decide +kernel
theorem dX3_power_16 : decode cX3_power 16 = .ok (.iinc 4 1, 3) := by decide +kernel
theorem dX3_power_19 : decode cX3_power 19 = .ok (.goto (-14), 3) := by decide +kernel
theorem dX3_power_22 : decode cX3_power 22 = .ok (.lload_n 2, 1) := by decide +kernel
theorem dX3_power_23 : decode cX3_power 23 = .ok (.lreturn, 1) := by decide +kernel
theorem dX4_init_0 : decode cX4_init 0 = .ok (.aload_n 0, 1) := by decide +kernel
theorem dX4_init_1 : decode cX4_init 1 = .ok (.invokespecial 3, 3) := by decide +kernel
theorem dX4_init_4 : decode cX4_init 4 = .ok (.aload_n 0, 1) := by decide +kernel
theorem dX4_init_5 : decode cX4_init 5 = .ok (.iconst 4, 1) := by decide +kernel
theorem dX4_init_6 : decode cX4_init 6 = .ok (.newarray .int, 2) := by decide +kernel
theorem dX4_init_8 : decode cX4_init 8 = .ok (.putfield 9, 3) := by decide +kernel
theorem dX4_init_11 : decode cX4_init 11 = .ok (.aload_n 0, 1) := by decide +kernel
theorem dX4_init_12 : decode cX4_init 12 = .ok (.iconst 4, 1) := by decide +kernel
theorem dX4_init_13 : decode cX4_init 13 = .ok (.newarray .int, 2) := by decide +kernel
theorem dX4_init_15 : decode cX4_init 15 = .ok (.putfield 15, 3) := by decide +kernel
theorem dX4_init_18 : decode cX4_init 18 = .ok (.return_, 1) := by decide +kernel
theorem dX4_pair_0 : decode cX4_pair 0 = .ok (.aload_n 0, 1) := by decide +kernel
theorem dX4_pair_1 : decode cX4_pair 1 = .ok (.iconst 0, 1) := by decide +kernel
theorem dX4_pair_2 : decode cX4_pair 2 = .ok (.putfield 18, 3) := by decide +kernel
theorem dX4_pair_5 : decode cX4_pair 5 = .ok (.aload_n 0, 1) := by decide +kernel
theorem dX4_pair_6 : decode cX4_pair 6 = .ok (.iconst 0, 1) := by decide +kernel
theorem dX4_pair_7 : decode cX4_pair 7 = .ok (.putfield 22, 3) := by decide +kernel
theorem dX4_pair_10 : decode cX4_pair 10 = .ok (.aload_n 0, 1) := by decide +kernel
theorem dX4_pair_11 : decode cX4_pair 11 = .ok (.aload_n 1, 1) := by decide +kernel
theorem dX4_pair_12 : decode cX4_pair 12 = .ok (.iconst 0, 1) := by decide +kernel
theorem dX4_pair_13 : decode cX4_pair 13 = .ok (.iconst 0, 1) := by decide +kernel
theorem dX4_pair_14 : decode cX4_pair 14 = .ok (.iconst 0, 1) := by decide +kernel
theorem dX4_pair_15 : decode cX4_pair 15 = .ok (.invokestatic 26, 3) := by decide +kernel
theorem dX4_pair_18 : decode cX4_pair 18 = .ok (.return_, 1) := by decide +kernel
theorem dX4_pairFrom_0 : decode cX4_pairFrom 0 = .ok (.aload_n 0, 1) := by decide +kernel
theorem dX4_pairFrom_1 : decode cX4_pairFrom 1 = .ok (.getfield 18, 3) := by decide +kernel
theorem dX4_pairFrom_4 : decode cX4_pairFrom 4 = .ok (.ifCond .eq 13, 3) := by decide +kernel
theorem dX4_pairFrom_7 : decode cX4_pairFrom 7 = .ok (.iload 4, 2) := by decide +kernel
theorem dX4_pairFrom_9 : decode cX4_pairFrom 9 = .ok (.aload_n 0, 1) := by decide +kernel
theorem dX4_pairFrom_10 : decode cX4_pairFrom 10 = .ok (.getfield 22, 3) := by decide +kernel
theorem dX4_pairFrom_13 : decode cX4_pairFrom 13 = .ok (.if_icmp .lt 4, 3) := by decide +kernel
theorem dX4_pairFrom_16 : decode cX4_pairFrom 16 = .ok (.return_, 1) := by decide +kernel
theorem dX4_pairFrom_17 : decode cX4_pairFrom 17 = .ok (.iload_n 2, 1) := by decide +kernel
theorem dX4_pairFrom_18 : decode cX4_pairFrom 18 = .ok (.aload_n 1, 1) := by decide +kernel
theorem dX4_pairFrom_19 : decode cX4_pairFrom 19 = .ok (.getfield 30, 3) := by decide +kernel
theorem dX4_pairFrom_22 : decode cX4_pairFrom 22 = .ok (.getfield 36, 3) := by decide +kernel
theorem dX4_pairFrom_25 : decode cX4_pairFrom 25 = .ok (.if_icmp .ge 8, 3) := by decide +kernel
theorem dX4_pairFrom_28 : decode cX4_pairFrom 28 = .ok (.iload_n 2, 1) := by decide +kernel
theorem dX4_pairFrom_29 : decode cX4_pairFrom 29 = .ok (.iconst 4, 1) := by decide +kernel
theorem dX4_pairFrom_30 : decode cX4_pairFrom 30 = .ok (.if_icmp .lt 10, 3) := by decide +kernel
theorem dX4_pairFrom_33 : decode cX4_pairFrom 33 = .ok (.aload_n 0, 1) := by decide +kernel
theorem dX4_pairFrom_34 : decode cX4_pairFrom 34 = .ok (.iload 4, 2) := by decide +kernel
theorem dX4_pairFrom_36 : decode cX4_pairFrom 36 = .ok (.invokevirtual 41, 3) := by decide +kernel
theorem dX4_pairFrom_39 : decode cX4_pairFrom 39 = .ok (.return_, 1) := by decide +kernel
theorem dX4_pairFrom_40 : decode cX4_pairFrom 40 = .ok (.aload_n 1, 1) := by decide +kernel
theorem dX4_pairFrom_41 : decode cX4_pairFrom 41 = .ok (.iload_n 2, 1) := by decide +kernel
theorem dX4_pairFrom_42 : decode cX4_pairFrom 42 = .ok (.invokevirtual 45, 3) := by decide +kernel
theorem dX4_pairFrom_45 : decode cX4_pairFrom 45 = .ok (.ifCond .eq 22, 3) := by decide +kernel
theorem dX4_pairFrom_48 : decode cX4_pairFrom 48 = .ok (.aload_n 0, 1) := by decide +kernel
theorem dX4_pairFrom_49 : decode cX4_pairFrom 49 = .ok (.getfield 9, 3) := by decide +kernel
theorem dX4_pairFrom_52 : decode cX4_pairFrom 52 = .ok (.iload_n 2, 1) := by decide +kernel
theorem dX4_pairFrom_53 : decode cX4_pairFrom 53 = .ok (.iconst (-1), 1) := by decide +kernel
theorem dX4_pairFrom_54 : decode cX4_pairFrom 54 = .ok (.iastore, 1) := by decide +kernel
theorem dX4_pairFrom_55 : decode cX4_pairFrom 55 = .ok (.aload_n 0, 1) := by decide +kernel
theorem dX4_pairFrom_56 : decode cX4_pairFrom 56 = .ok (.aload_n 1, 1) := by decide +kernel
theorem dX4_pairFrom_57 : decode cX4_pairFrom 57 = .ok (.iload_n 2, 1) := by decide +kernel
theorem dX4_pairFrom_58 : decode cX4_pairFrom 58 = .ok (.iconst 1, 1) := by decide +kernel
theorem dX4_pairFrom_59 : decode cX4_pairFrom 59 = .ok (.iadd, 1) := by decide +kernel
theorem dX4_pairFrom_60 : decode cX4_pairFrom 60 = .ok (.iload_n 3, 1) := by decide +kernel
theorem dX4_pairFrom_61 : decode cX4_pairFrom 61 = .ok (.iload 4, 2) := by decide +kernel
theorem dX4_pairFrom_63 : decode cX4_pairFrom 63 = .ok (.invokestatic 26, 3) := by decide +kernel
theorem dX4_pairFrom_66 : decode cX4_pairFrom 66 = .ok (.return_, 1) := by decide +kernel
theorem dX4_pairFrom_67 : decode cX4_pairFrom 67 = .ok (.aload_n 1, 1) := by decide +kernel
theorem dX4_pairFrom_68 : decode cX4_pairFrom 68 = .ok (.getfield 49, 3) := by decide +kernel
theorem dX4_pairFrom_71 : decode cX4_pairFrom 71 = .ok (.iload_n 2, 1) := by decide +kernel
theorem dX4_pairFrom_72 : decode cX4_pairFrom 72 = .ok (.iaload, 1) := by decide +kernel
theorem dX4_pairFrom_73 : decode cX4_pairFrom 73 = .ok (.istore 5, 2) := by decide +kernel
theorem dX4_pairFrom_75 : decode cX4_pairFrom 75 = .ok (.aload_n 1, 1) := by decide +kernel
theorem dX4_pairFrom_76 : decode cX4_pairFrom 76 = .ok (.getfield 30, 3) := by decide +kernel
theorem dX4_pairFrom_79 : decode cX4_pairFrom 79 = .ok (.iload 5, 2) := by decide +kernel
theorem dX4_pairFrom_81 : decode cX4_pairFrom 81 = .ok (.iload 5, 2) := by decide +kernel
theorem dX4_pairFrom_83 : decode cX4_pairFrom 83 = .ok (.aload_n 1, 1) := by decide +kernel
theorem dX4_pairFrom_84 : decode cX4_pairFrom 84 = .ok (.getfield 52, 3) := by decide +kernel
theorem dX4_pairFrom_87 : decode cX4_pairFrom 87 = .ok (.iload_n 2, 1) := by decide +kernel
theorem dX4_pairFrom_88 : decode cX4_pairFrom 88 = .ok (.iaload, 1) := by decide +kernel
theorem dX4_pairFrom_89 : decode cX4_pairFrom 89 = .ok (.invokestatic 55, 3) := by decide +kernel
theorem dX4_pairFrom_92 : decode cX4_pairFrom 92 = .ok (.invokevirtual 59, 3) := by decide +kernel
theorem dX4_pairFrom_95 : decode cX4_pairFrom 95 = .ok (.istore 6, 2) := by decide +kernel
theorem dX4_pairFrom_97 : decode cX4_pairFrom 97 = .ok (.iload_n 3, 1) := by decide +kernel
theorem dX4_pairFrom_98 : decode cX4_pairFrom 98 = .ok (.aload_n 1, 1) := by decide +kernel
theorem dX4_pairFrom_99 : decode cX4_pairFrom 99 = .ok (.getfield 62, 3) := by decide +kernel
theorem dX4_pairFrom_102 : decode cX4_pairFrom 102 = .ok (.ior, 1) := by decide +kernel
theorem dX4_pairFrom_103 : decode cX4_pairFrom 103 = .ok (.istore 7, 2) := by decide +kernel
theorem dX4_pairFrom_105 : decode cX4_pairFrom 105 = .ok (.iconst 0, 1) := by decide +kernel
theorem dX4_pairFrom_106 : decode cX4_pairFrom 106 = .ok (.istore 8, 2) := by decide +kernel
theorem dX4_pairFrom_108 : decode cX4_pairFrom 108 = .ok (.iload 8, 2) := by decide +kernel
theorem dX4_pairFrom_110 : decode cX4_pairFrom 110 = .ok (.aload_n 1, 1) := by decide +kernel
theorem dX4_pairFrom_111 : decode cX4_pairFrom 111 = .ok (.getfield 30, 3) := by decide +kernel
theorem dX4_pairFrom_114 : decode cX4_pairFrom 114 = .ok (.getfield 65, 3) := by decide +kernel
theorem dX4_pairFrom_117 : decode cX4_pairFrom 117 = .ok (.if_icmp .ge 71, 3) := by decide +kernel
theorem dX4_pairFrom_120 : decode cX4_pairFrom 120 = .ok (.aload_n 1, 1) := by decide +kernel
theorem dX4_pairFrom_121 : decode cX4_pairFrom 121 = .ok (.getfield 68, 3) := by decide +kernel
theorem dX4_pairFrom_124 : decode cX4_pairFrom 124 = .ok (.iload 8, 2) := by decide +kernel
theorem dX4_pairFrom_126 : decode cX4_pairFrom 126 = .ok (.iaload, 1) := by decide +kernel
theorem dX4_pairFrom_127 : decode cX4_pairFrom 127 = .ok (.iload 5, 2) := by decide +kernel
theorem dX4_pairFrom_129 : decode cX4_pairFrom 129 = .ok (.if_icmp .ne 53, 3) := by decide +kernel
theorem dX4_pairFrom_132 : decode cX4_pairFrom 132 = .ok (.iload 7, 2) := by decide +kernel
theorem dX4_pairFrom_134 : decode cX4_pairFrom 134 = .ok (.iload 8, 2) := by decide +kernel
theorem dX4_pairFrom_136 : decode cX4_pairFrom 136 = .ok (.ishr, 1) := by decide +kernel
theorem dX4_pairFrom_137 : decode cX4_pairFrom 137 = .ok (.iconst 1, 1) := by decide +kernel
theorem dX4_pairFrom_138 : decode cX4_pairFrom 138 = .ok (.iand, 1) := by decide +kernel
theorem dX4_pairFrom_139 : decode cX4_pairFrom 139 = .ok (.ifCond .ne 43, 3) := by decide +kernel
theorem dX4_pairFrom_142 : decode cX4_pairFrom 142 = .ok (.aload_n 0, 1) := by decide +kernel
theorem dX4_pairFrom_143 : decode cX4_pairFrom 143 = .ok (.getfield 9, 3) := by decide +kernel
theorem dX4_pairFrom_146 : decode cX4_pairFrom 146 = .ok (.iload_n 2, 1) := by decide +kernel
theorem dX4_pairFrom_147 : decode cX4_pairFrom 147 = .ok (.iload 8, 2) := by decide +kernel
theorem dX4_pairFrom_149 : decode cX4_pairFrom 149 = .ok (.iastore, 1) := by decide +kernel
theorem dX4_pairFrom_150 : decode cX4_pairFrom 150 = .ok (.aload_n 0, 1) := by decide +kernel
theorem dX4_pairFrom_151 : decode cX4_pairFrom 151 = .ok (.aload_n 1, 1) := by decide +kernel
theorem dX4_pairFrom_152 : decode cX4_pairFrom 152 = .ok (.iload_n 2, 1) := by decide +kernel
theorem dX4_pairFrom_153 : decode cX4_pairFrom 153 = .ok (.iconst 1, 1) := by decide +kernel
theorem dX4_pairFrom_154 : decode cX4_pairFrom 154 = .ok (.iadd, 1) := by decide +kernel
theorem dX4_pairFrom_155 : decode cX4_pairFrom 155 = .ok (.iload_n 3, 1) := by decide +kernel
theorem dX4_pairFrom_156 : decode cX4_pairFrom 156 = .ok (.iconst 1, 1) := by decide +kernel
theorem dX4_pairFrom_157 : decode cX4_pairFrom 157 = .ok (.iload 8, 2) := by decide +kernel
theorem dX4_pairFrom_159 : decode cX4_pairFrom 159 = .ok (.ishl, 1) := by decide +kernel
theorem dX4_pairFrom_160 : decode cX4_pairFrom 160 = .ok (.ior, 1) := by decide +kernel
theorem dX4_pairFrom_161 : decode cX4_pairFrom 161 = .ok (.iload 4, 2) := by decide +kernel
theorem dX4_pairFrom_163 : decode cX4_pairFrom 163 = .ok (.aload_n 1, 1) := by decide +kernel
theorem dX4_pairFrom_164 : decode cX4_pairFrom 164 = .ok (.getfield 30, 3) := by decide +kernel
theorem dX4_pairFrom_167 : decode cX4_pairFrom 167 = .ok (.getfield 71, 3) := by decide +kernel
theorem dX4_pairFrom_170 : decode cX4_pairFrom 170 = .ok (.iload 8, 2) := by decide +kernel
theorem dX4_pairFrom_172 : decode cX4_pairFrom 172 = .ok (.iaload, 1) := by decide +kernel
theorem dX4_pairFrom_173 : decode cX4_pairFrom 173 = .ok (.iload 6, 2) := by decide +kernel
theorem dX4_pairFrom_175 : decode cX4_pairFrom 175 = .ok (.invokestatic 74, 3) := by decide +kernel
theorem dX4_pairFrom_178 : decode cX4_pairFrom 178 = .ok (.iadd, 1) := by decide +kernel
theorem dX4_pairFrom_179 : decode cX4_pairFrom 179 = .ok (.invokestatic 26, 3) := by decide +kernel
theorem dX4_pairFrom_182 : decode cX4_pairFrom 182 = .ok (.iinc 8 1, 3) := by decide +kernel
theorem dX4_pairFrom_185 : decode cX4_pairFrom 185 = .ok (.goto (-77), 3) := by decide +kernel
theorem dX4_pairFrom_188 : decode cX4_pairFrom 188 = .ok (.return_, 1) := by decide +kernel
theorem dX4_accept_0 : decode cX4_accept 0 = .ok (.aload_n 0, 1) := by decide +kernel
theorem dX4_accept_1 : decode cX4_accept 1 = .ok (.iconst 1, 1) := by decide +kernel
theorem dX4_accept_2 : decode cX4_accept 2 = .ok (.putfield 18, 3) := by decide +kernel
theorem dX4_accept_5 : decode cX4_accept 5 = .ok (.aload_n 0, 1) := by decide +kernel
theorem dX4_accept_6 : decode cX4_accept 6 = .ok (.iload_n 1, 1) := by decide +kernel
theorem dX4_accept_7 : decode cX4_accept 7 = .ok (.putfield 22, 3) := by decide +kernel
theorem dX4_accept_10 : decode cX4_accept 10 = .ok (.aload_n 0, 1) := by decide +kernel
theorem dX4_accept_11 : decode cX4_accept 11 = .ok (.getfield 9, 3) := by decide +kernel
theorem dX4_accept_14 : decode cX4_accept 14 = .ok (.iconst 0, 1) := by decide +kernel
theorem dX4_accept_15 : decode cX4_accept 15 = .ok (.aload_n 0, 1) := by decide +kernel
theorem dX4_accept_16 : decode cX4_accept 16 = .ok (.getfield 15, 3) := by decide +kernel
theorem dX4_accept_19 : decode cX4_accept 19 = .ok (.iconst 0, 1) := by decide +kernel
theorem dX4_accept_20 : decode cX4_accept 20 = .ok (.iconst 4, 1) := by decide +kernel
theorem dX4_accept_21 : decode cX4_accept 21 = .ok (.invokestatic 79, 3) := by decide +kernel
theorem dX4_accept_24 : decode cX4_accept 24 = .ok (.return_, 1) := by decide +kernel
theorem dX5_init_0 : decode cX5_init 0 = .ok (.aload_n 0, 1) := by decide +kernel
theorem dX5_init_1 : decode cX5_init 1 = .ok (.invokespecial 3, 3) := by decide +kernel
theorem dX5_init_4 : decode cX5_init 4 = .ok (.aload_n 0, 1) := by decide +kernel
theorem dX5_init_5 : decode cX5_init 5 = .ok (.new 9, 3) := by decide +kernel
theorem dX5_init_8 : decode cX5_init 8 = .ok (.dup, 1) := by decide +kernel
theorem dX5_init_9 : decode cX5_init 9 = .ok (.invokespecial 11, 3) := by decide +kernel
theorem dX5_init_12 : decode cX5_init 12 = .ok (.putfield 12, 3) := by decide +kernel
theorem dX5_init_15 : decode cX5_init 15 = .ok (.aload_n 0, 1) := by decide +kernel
theorem dX5_init_16 : decode cX5_init 16 = .ok (.aload_n 1, 1) := by decide +kernel
theorem dX5_init_17 : decode cX5_init 17 = .ok (.putfield 18, 3) := by decide +kernel
theorem dX5_init_20 : decode cX5_init 20 = .ok (.return_, 1) := by decide +kernel
theorem dX5_findFault_0 : decode cX5_findFault 0 = .ok (.aload_n 0, 1) := by decide +kernel
theorem dX5_findFault_1 : decode cX5_findFault 1 = .ok (.getfield 12, 3) := by decide +kernel
theorem dX5_findFault_4 : decode cX5_findFault 4 = .ok (.aload_n 1, 1) := by decide +kernel
theorem dX5_findFault_5 : decode cX5_findFault 5 = .ok (.invokevirtual 22, 3) := by decide +kernel
theorem dX5_findFault_8 : decode cX5_findFault 8 = .ok (.aload_n 0, 1) := by decide +kernel
theorem dX5_findFault_9 : decode cX5_findFault 9 = .ok (.getfield 18, 3) := by decide +kernel
theorem dX5_findFault_12 : decode cX5_findFault 12 = .ok (.invokevirtual 26, 3) := by decide +kernel
theorem dX5_findFault_15 : decode cX5_findFault 15 = .ok (.aload_n 0, 1) := by decide +kernel
theorem dX5_findFault_16 : decode cX5_findFault 16 = .ok (.iconst 1, 1) := by decide +kernel
theorem dX5_findFault_17 : decode cX5_findFault 17 = .ok (.putfield 31, 3) := by decide +kernel
theorem dX5_findFault_20 : decode cX5_findFault 20 = .ok (.aload_n 0, 1) := by decide +kernel
theorem dX5_findFault_21 : decode cX5_findFault 21 = .ok (.getfield 31, 3) := by decide +kernel
theorem dX5_findFault_24 : decode cX5_findFault 24 = .ok (.bipush 20, 2) := by decide +kernel
theorem dX5_findFault_26 : decode cX5_findFault 26 = .ok (.if_icmp .gt 77, 3) := by decide +kernel
theorem dX5_findFault_29 : decode cX5_findFault 29 = .ok (.aload_n 0, 1) := by decide +kernel
theorem dX5_findFault_30 : decode cX5_findFault 30 = .ok (.invokevirtual 35, 3) := by decide +kernel
theorem dX5_findFault_33 : decode cX5_findFault 33 = .ok (.ifCond .ne 11, 3) := by decide +kernel
theorem dX5_findFault_36 : decode cX5_findFault 36 = .ok (.aload_n 0, 1) := by decide +kernel
theorem dX5_findFault_37 : decode cX5_findFault 37 = .ok (.getfield 18, 3) := by decide +kernel
theorem dX5_findFault_40 : decode cX5_findFault 40 = .ok (.getfield 39, 3) := by decide +kernel
theorem dX5_findFault_43 : decode cX5_findFault 43 = .ok (.ireturn, 1) := by decide +kernel
theorem dX5_findFault_44 : decode cX5_findFault 44 = .ok (.aload_n 0, 1) := by decide +kernel
theorem dX5_findFault_45 : decode cX5_findFault 45 = .ok (.getfield 18, 3) := by decide +kernel
theorem dX5_findFault_48 : decode cX5_findFault 48 = .ok (.getfield 42, 3) := by decide +kernel
theorem dX5_findFault_51 : decode cX5_findFault 51 = .ok (.ifCond .ne 5, 3) := by decide +kernel
theorem dX5_findFault_54 : decode cX5_findFault 54 = .ok (.iconst (-1), 1) := by decide +kernel
theorem dX5_findFault_55 : decode cX5_findFault 55 = .ok (.ireturn, 1) := by decide +kernel
theorem dX5_findFault_56 : decode cX5_findFault 56 = .ok (.aload_n 0, 1) := by decide +kernel
theorem dX5_findFault_57 : decode cX5_findFault 57 = .ok (.getfield 18, 3) := by decide +kernel
theorem dX5_findFault_60 : decode cX5_findFault 60 = .ok (.invokevirtual 45, 3) := by decide +kernel
theorem dX5_findFault_63 : decode cX5_findFault 63 = .ok (.ifCond .eq 12, 3) := by decide +kernel
theorem dX5_findFault_66 : decode cX5_findFault 66 = .ok (.aload_n 0, 1) := by decide +kernel
theorem dX5_findFault_67 : decode cX5_findFault 67 = .ok (.getfield 31, 3) := by decide +kernel
theorem dX5_findFault_70 : decode cX5_findFault 70 = .ok (.bipush 20, 2) := by decide +kernel
theorem dX5_findFault_72 : decode cX5_findFault 72 = .ok (.if_icmp .ne 11, 3) := by decide +kernel
theorem dX5_findFault_75 : decode cX5_findFault 75 = .ok (.aload_n 0, 1) := by decide +kernel
theorem dX5_findFault_76 : decode cX5_findFault 76 = .ok (.getfield 18, 3) := by decide +kernel
theorem dX5_findFault_79 : decode cX5_findFault 79 = .ok (.getfield 39, 3) := by decide +kernel
theorem dX5_findFault_82 : decode cX5_findFault 82 = .ok (.ireturn, 1) := by decide +kernel
theorem dX5_findFault_83 : decode cX5_findFault 83 = .ok (.aload_n 0, 1) := by decide +kernel
theorem dX5_findFault_84 : decode cX5_findFault 84 = .ok (.getfield 18, 3) := by decide +kernel
theorem dX5_findFault_87 : decode cX5_findFault 87 = .ok (.invokevirtual 48, 3) := by decide +kernel
theorem dX5_findFault_90 : decode cX5_findFault 90 = .ok (.aload_n 0, 1) := by decide +kernel
theorem dX5_findFault_91 : decode cX5_findFault 91 = .ok (.dup, 1) := by decide +kernel
theorem dX5_findFault_92 : decode cX5_findFault 92 = .ok (.getfield 31, 3) := by decide +kernel
theorem dX5_findFault_95 : decode cX5_findFault 95 = .ok (.iconst 1, 1) := by decide +kernel
theorem dX5_findFault_96 : decode cX5_findFault 96 = .ok (.iadd, 1) := by decide +kernel
theorem dX5_findFault_97 : decode cX5_findFault 97 = .ok (.putfield 31, 3) := by decide +kernel
theorem dX5_findFault_100 : decode cX5_findFault 100 = .ok (.goto (-80), 3) := by decide +kernel
theorem dX5_findFault_103 : decode cX5_findFault 103 = .ok (.aload_n 0, 1) := by decide +kernel
theorem dX5_findFault_104 : decode cX5_findFault 104 = .ok (.getfield 18, 3) := by decide +kernel
theorem dX5_findFault_107 : decode cX5_findFault 107 = .ok (.getfield 39, 3) := by decide +kernel
theorem dX5_findFault_110 : decode cX5_findFault 110 = .ok (.ireturn, 1) := by decide +kernel
theorem dX5_takeClause_0 : decode cX5_takeClause 0 = .ok (.aload_n 0, 1) := by decide +kernel
theorem dX5_takeClause_1 : decode cX5_takeClause 1 = .ok (.invokevirtual 51, 3) := by decide +kernel
theorem dX5_takeClause_4 : decode cX5_takeClause 4 = .ok (.istore_n 1, 1) := by decide +kernel
theorem dX5_takeClause_5 : decode cX5_takeClause 5 = .ok (.iload_n 1, 1) := by decide +kernel
theorem dX5_takeClause_6 : decode cX5_takeClause 6 = .ok (.iconst (-1), 1) := by decide +kernel
theorem dX5_takeClause_7 : decode cX5_takeClause 7 = .ok (.if_icmp .eq 11, 3) := by decide +kernel
theorem dX5_takeClause_10 : decode cX5_takeClause 10 = .ok (.aload_n 0, 1) := by decide +kernel
theorem dX5_takeClause_11 : decode cX5_takeClause 11 = .ok (.iload_n 1, 1) := by decide +kernel
theorem dX5_takeClause_12 : decode cX5_takeClause 12 = .ok (.invokevirtual 55, 3) := by decide +kernel
theorem dX5_takeClause_15 : decode cX5_takeClause 15 = .ok (.ifCond .eq 5, 3) := by decide +kernel
theorem dX5_takeClause_18 : decode cX5_takeClause 18 = .ok (.iconst 0, 1) := by decide +kernel
theorem dX5_takeClause_19 : decode cX5_takeClause 19 = .ok (.ireturn, 1) := by decide +kernel
theorem dX5_takeClause_20 : decode cX5_takeClause 20 = .ok (.aload_n 0, 1) := by decide +kernel
theorem dX5_takeClause_21 : decode cX5_takeClause 21 = .ok (.getfield 18, 3) := by decide +kernel
theorem dX5_takeClause_24 : decode cX5_takeClause 24 = .ok (.invokevirtual 48, 3) := by decide +kernel
theorem dX5_takeClause_27 : decode cX5_takeClause 27 = .ok (.iload_n 1, 1) := by decide +kernel
theorem dX5_takeClause_28 : decode cX5_takeClause 28 = .ok (.tableswitch 47 5 7 #[28, 37, 42], 28) := by decide +kernel
theorem dX5_takeClause_56 : decode cX5_takeClause 56 = .ok (.aload_n 0, 1) := by decide +kernel
theorem dX5_takeClause_57 : decode cX5_takeClause 57 = .ok (.getfield 12, 3) := by decide +kernel
theorem dX5_takeClause_60 : decode cX5_takeClause 60 = .ok (.invokevirtual 59, 3) := by decide +kernel
theorem dX5_takeClause_63 : decode cX5_takeClause 63 = .ok (.iconst 1, 1) := by decide +kernel
theorem dX5_takeClause_64 : decode cX5_takeClause 64 = .ok (.ireturn, 1) := by decide +kernel
theorem dX5_takeClause_65 : decode cX5_takeClause 65 = .ok (.aload_n 0, 1) := by decide +kernel
theorem dX5_takeClause_66 : decode cX5_takeClause 66 = .ok (.invokevirtual 62, 3) := by decide +kernel
theorem dX5_takeClause_69 : decode cX5_takeClause 69 = .ok (.ireturn, 1) := by decide +kernel
theorem dX5_takeClause_70 : decode cX5_takeClause 70 = .ok (.aload_n 0, 1) := by decide +kernel
theorem dX5_takeClause_71 : decode cX5_takeClause 71 = .ok (.invokevirtual 65, 3) := by decide +kernel
theorem dX5_takeClause_74 : decode cX5_takeClause 74 = .ok (.ireturn, 1) := by decide +kernel
theorem dX5_takeClause_75 : decode cX5_takeClause 75 = .ok (.aload_n 0, 1) := by decide +kernel
theorem dX5_takeClause_76 : decode cX5_takeClause 76 = .ok (.iload_n 1, 1) := by decide +kernel
theorem dX5_takeClause_77 : decode cX5_takeClause 77 = .ok (.invokevirtual 68, 3) := by decide +kernel
theorem dX5_takeClause_80 : decode cX5_takeClause 80 = .ok (.ireturn, 1) := by decide +kernel
theorem dX5_wordNumber_0 : decode cX5_wordNumber 0 = .ok (.aload_n 0, 1) := by decide +kernel
theorem dX5_wordNumber_1 : decode cX5_wordNumber 1 = .ok (.getfield 18, 3) := by decide +kernel
theorem dX5_wordNumber_4 : decode cX5_wordNumber 4 = .ok (.ldc 71, 2) := by decide +kernel
theorem dX5_wordNumber_6 : decode cX5_wordNumber 6 = .ok (.invokevirtual 73, 3) := by decide +kernel
theorem dX5_wordNumber_9 : decode cX5_wordNumber 9 = .ok (.ifCond .eq 5, 3) := by decide +kernel
theorem dX5_wordNumber_12 : decode cX5_wordNumber 12 = .ok (.iconst 0, 1) := by decide +kernel
theorem dX5_wordNumber_13 : decode cX5_wordNumber 13 = .ok (.ireturn, 1) := by decide +kernel
theorem dX5_wordNumber_14 : decode cX5_wordNumber 14 = .ok (.aload_n 0, 1) := by decide +kernel
theorem dX5_wordNumber_15 : decode cX5_wordNumber 15 = .ok (.getfield 18, 3) := by decide +kernel
theorem dX5_wordNumber_18 : decode cX5_wordNumber 18 = .ok (.ldc 79, 2) := by decide +kernel
theorem dX5_wordNumber_20 : decode cX5_wordNumber 20 = .ok (.invokevirtual 73, 3) := by decide +kernel
theorem dX5_wordNumber_23 : decode cX5_wordNumber 23 = .ok (.ifCond .eq 5, 3) := by decide +kernel
theorem dX5_wordNumber_26 : decode cX5_wordNumber 26 = .ok (.iconst 1, 1) := by decide +kernel
theorem dX5_wordNumber_27 : decode cX5_wordNumber 27 = .ok (.ireturn, 1) := by decide +kernel
theorem dX5_wordNumber_28 : decode cX5_wordNumber 28 = .ok (.aload_n 0, 1) := by decide +kernel
theorem dX5_wordNumber_29 : decode cX5_wordNumber 29 = .ok (.getfield 18, 3) := by decide +kernel
theorem dX5_wordNumber_32 : decode cX5_wordNumber 32 = .ok (.ldc 81, 2) := by decide +kernel
theorem dX5_wordNumber_34 : decode cX5_wordNumber 34 = .ok (.invokevirtual 73, 3) := by decide +kernel
theorem dX5_wordNumber_37 : decode cX5_wordNumber 37 = .ok (.ifCond .eq 5, 3) := by decide +kernel
theorem dX5_wordNumber_40 : decode cX5_wordNumber 40 = .ok (.iconst 2, 1) := by decide +kernel
theorem dX5_wordNumber_41 : decode cX5_wordNumber 41 = .ok (.ireturn, 1) := by decide +kernel
theorem dX5_wordNumber_42 : decode cX5_wordNumber 42 = .ok (.aload_n 0, 1) := by decide +kernel
theorem dX5_wordNumber_43 : decode cX5_wordNumber 43 = .ok (.getfield 18, 3) := by decide +kernel
theorem dX5_wordNumber_46 : decode cX5_wordNumber 46 = .ok (.ldc 83, 2) := by decide +kernel
theorem dX5_wordNumber_48 : decode cX5_wordNumber 48 = .ok (.invokevirtual 73, 3) := by decide +kernel
theorem dX5_wordNumber_51 : decode cX5_wordNumber 51 = .ok (.ifCond .eq 5, 3) := by decide +kernel
theorem dX5_wordNumber_54 : decode cX5_wordNumber 54 = .ok (.iconst 3, 1) := by decide +kernel
theorem dX5_wordNumber_55 : decode cX5_wordNumber 55 = .ok (.ireturn, 1) := by decide +kernel
theorem dX5_wordNumber_56 : decode cX5_wordNumber 56 = .ok (.aload_n 0, 1) := by decide +kernel
theorem dX5_wordNumber_57 : decode cX5_wordNumber 57 = .ok (.getfield 18, 3) := by decide +kernel
theorem dX5_wordNumber_60 : decode cX5_wordNumber 60 = .ok (.ldc 85, 2) := by decide +kernel
theorem dX5_wordNumber_62 : decode cX5_wordNumber 62 = .ok (.invokevirtual 73, 3) := by decide +kernel
theorem dX5_wordNumber_65 : decode cX5_wordNumber 65 = .ok (.ifCond .eq 5, 3) := by decide +kernel
theorem dX5_wordNumber_68 : decode cX5_wordNumber 68 = .ok (.iconst 4, 1) := by decide +kernel
theorem dX5_wordNumber_69 : decode cX5_wordNumber 69 = .ok (.ireturn, 1) := by decide +kernel
theorem dX5_wordNumber_70 : decode cX5_wordNumber 70 = .ok (.aload_n 0, 1) := by decide +kernel
theorem dX5_wordNumber_71 : decode cX5_wordNumber 71 = .ok (.getfield 18, 3) := by decide +kernel
theorem dX5_wordNumber_74 : decode cX5_wordNumber 74 = .ok (.ldc 87, 2) := by decide +kernel
theorem dX5_wordNumber_76 : decode cX5_wordNumber 76 = .ok (.invokevirtual 73, 3) := by decide +kernel
theorem dX5_wordNumber_79 : decode cX5_wordNumber 79 = .ok (.ifCond .eq 5, 3) := by decide +kernel
theorem dX5_wordNumber_82 : decode cX5_wordNumber 82 = .ok (.iconst 5, 1) := by decide +kernel
theorem dX5_wordNumber_83 : decode cX5_wordNumber 83 = .ok (.ireturn, 1) := by decide +kernel
theorem dX5_wordNumber_84 : decode cX5_wordNumber 84 = .ok (.aload_n 0, 1) := by decide +kernel
theorem dX5_wordNumber_85 : decode cX5_wordNumber 85 = .ok (.getfield 18, 3) := by decide +kernel
theorem dX5_wordNumber_88 : decode cX5_wordNumber 88 = .ok (.ldc 89, 2) := by decide +kernel
theorem dX5_wordNumber_90 : decode cX5_wordNumber 90 = .ok (.invokevirtual 73, 3) := by decide +kernel
theorem dX5_wordNumber_93 : decode cX5_wordNumber 93 = .ok (.ifCond .eq 6, 3) := by decide +kernel
theorem dX5_wordNumber_96 : decode cX5_wordNumber 96 = .ok (.bipush 6, 2) := by decide +kernel
theorem dX5_wordNumber_98 : decode cX5_wordNumber 98 = .ok (.ireturn, 1) := by decide +kernel
theorem dX5_wordNumber_99 : decode cX5_wordNumber 99 = .ok (.aload_n 0, 1) := by decide +kernel
theorem dX5_wordNumber_100 : decode cX5_wordNumber 100 = .ok (.getfield 18, 3) := by decide +kernel
theorem dX5_wordNumber_103 : decode cX5_wordNumber 103 = .ok (.ldc 91, 2) := by decide +kernel
theorem dX5_wordNumber_105 : decode cX5_wordNumber 105 = .ok (.invokevirtual 73, 3) := by decide +kernel
theorem dX5_wordNumber_108 : decode cX5_wordNumber 108 = .ok (.ifCond .eq 8, 3) := by decide +kernel
theorem dX5_wordNumber_111 : decode cX5_wordNumber 111 = .ok (.bipush 7, 2) := by decide +kernel
theorem dX5_wordNumber_113 : decode cX5_wordNumber 113 = .ok (.goto 4, 3) := by decide +kernel
theorem dX5_wordNumber_116 : decode cX5_wordNumber 116 = .ok (.iconst (-1), 1) := by decide +kernel
theorem dX5_wordNumber_117 : decode cX5_wordNumber 117 = .ok (.ireturn, 1) := by decide +kernel
theorem dX5_isOneTooMany_0 : decode cX5_isOneTooMany 0 = .ok (.iload_n 1, 1) := by decide +kernel
theorem dX5_isOneTooMany_1 : decode cX5_isOneTooMany 1 = .ok (.tableswitch 64 5 7 #[27, 29, 47], 27) := by decide +kernel
theorem dX5_isOneTooMany_28 : decode cX5_isOneTooMany 28 = .ok (.iconst 0, 1) := by decide +kernel
theorem dX5_isOneTooMany_29 : decode cX5_isOneTooMany 29 = .ok (.ireturn, 1) := by decide +kernel
theorem dX5_isOneTooMany_30 : decode cX5_isOneTooMany 30 = .ok (.aload_n 0, 1) := by decide +kernel
theorem dX5_isOneTooMany_31 : decode cX5_isOneTooMany 31 = .ok (.getfield 12, 3) := by decide +kernel
theorem dX5_isOneTooMany_34 : decode cX5_isOneTooMany 34 = .ok (.getfield 93, 3) := by decide +kernel
theorem dX5_isOneTooMany_37 : decode cX5_isOneTooMany 37 = .ok (.bipush 6, 2) := by decide +kernel
theorem dX5_isOneTooMany_39 : decode cX5_isOneTooMany 39 = .ok (.if_icmp .lt 7, 3) := by decide +kernel
theorem dX5_isOneTooMany_42 : decode cX5_isOneTooMany 42 = .ok (.iconst 1, 1) := by decide +kernel
theorem dX5_isOneTooMany_43 : decode cX5_isOneTooMany 43 = .ok (.goto 4, 3) := by decide +kernel
theorem dX5_isOneTooMany_46 : decode cX5_isOneTooMany 46 = .ok (.iconst 0, 1) := by decide +kernel
theorem dX5_isOneTooMany_47 : decode cX5_isOneTooMany 47 = .ok (.ireturn, 1) := by decide +kernel
theorem dX5_isOneTooMany_48 : decode cX5_isOneTooMany 48 = .ok (.aload_n 0, 1) := by decide +kernel
theorem dX5_isOneTooMany_49 : decode cX5_isOneTooMany 49 = .ok (.getfield 12, 3) := by decide +kernel
theorem dX5_isOneTooMany_52 : decode cX5_isOneTooMany 52 = .ok (.getfield 96, 3) := by decide +kernel
theorem dX5_isOneTooMany_55 : decode cX5_isOneTooMany 55 = .ok (.iconst 4, 1) := by decide +kernel
theorem dX5_isOneTooMany_56 : decode cX5_isOneTooMany 56 = .ok (.if_icmp .lt 7, 3) := by decide +kernel
theorem dX5_isOneTooMany_59 : decode cX5_isOneTooMany 59 = .ok (.iconst 1, 1) := by decide +kernel
theorem dX5_isOneTooMany_60 : decode cX5_isOneTooMany 60 = .ok (.goto 4, 3) := by decide +kernel
theorem dX5_isOneTooMany_63 : decode cX5_isOneTooMany 63 = .ok (.iconst 0, 1) := by decide +kernel
theorem dX5_isOneTooMany_64 : decode cX5_isOneTooMany 64 = .ok (.ireturn, 1) := by decide +kernel
theorem dX5_isOneTooMany_65 : decode cX5_isOneTooMany 65 = .ok (.aload_n 0, 1) := by decide +kernel
theorem dX5_isOneTooMany_66 : decode cX5_isOneTooMany 66 = .ok (.getfield 12, 3) := by decide +kernel
theorem dX5_isOneTooMany_69 : decode cX5_isOneTooMany 69 = .ok (.getfield 99, 3) := by decide +kernel
theorem dX5_isOneTooMany_72 : decode cX5_isOneTooMany 72 = .ok (.bipush 8, 2) := by decide +kernel
theorem dX5_isOneTooMany_74 : decode cX5_isOneTooMany 74 = .ok (.if_icmp .lt 7, 3) := by decide +kernel
theorem dX5_isOneTooMany_77 : decode cX5_isOneTooMany 77 = .ok (.iconst 1, 1) := by decide +kernel
theorem dX5_isOneTooMany_78 : decode cX5_isOneTooMany 78 = .ok (.goto 4, 3) := by decide +kernel
theorem dX5_isOneTooMany_81 : decode cX5_isOneTooMany 81 = .ok (.iconst 0, 1) := by decide +kernel
theorem dX5_isOneTooMany_82 : decode cX5_isOneTooMany 82 = .ok (.ireturn, 1) := by decide +kernel
theorem dX5_takeInn_0 : decode cX5_takeInn 0 = .ok (.aload_n 0, 1) := by decide +kernel
theorem dX5_takeInn_1 : decode cX5_takeInn 1 = .ok (.iconst 1, 1) := by decide +kernel
theorem dX5_takeInn_2 : decode cX5_takeInn 2 = .ok (.bipush 9, 2) := by decide +kernel
theorem dX5_takeInn_4 : decode cX5_takeInn 4 = .ok (.invokevirtual 102, 3) := by decide +kernel
theorem dX5_takeInn_7 : decode cX5_takeInn 7 = .ok (.istore_n 1, 1) := by decide +kernel
theorem dX5_takeInn_8 : decode cX5_takeInn 8 = .ok (.iload_n 1, 1) := by decide +kernel
theorem dX5_takeInn_9 : decode cX5_takeInn 9 = .ok (.iconst (-1), 1) := by decide +kernel
theorem dX5_takeInn_10 : decode cX5_takeInn 10 = .ok (.if_icmp .ne 5, 3) := by decide +kernel
theorem dX5_takeInn_13 : decode cX5_takeInn 13 = .ok (.iconst 0, 1) := by decide +kernel
theorem dX5_takeInn_14 : decode cX5_takeInn 14 = .ok (.ireturn, 1) := by decide +kernel
theorem dX5_takeInn_15 : decode cX5_takeInn 15 = .ok (.aload_n 0, 1) := by decide +kernel
theorem dX5_takeInn_16 : decode cX5_takeInn 16 = .ok (.getfield 12, 3) := by decide +kernel
theorem dX5_takeInn_19 : decode cX5_takeInn 19 = .ok (.iload_n 1, 1) := by decide +kernel
theorem dX5_takeInn_20 : decode cX5_takeInn 20 = .ok (.invokevirtual 106, 3) := by decide +kernel
theorem dX5_takeInn_23 : decode cX5_takeInn 23 = .ok (.iconst 1, 1) := by decide +kernel
theorem dX5_takeInn_24 : decode cX5_takeInn 24 = .ok (.ireturn, 1) := by decide +kernel
theorem dX5_takeHour_0 : decode cX5_takeHour 0 = .ok (.aload_n 0, 1) := by decide +kernel
theorem dX5_takeHour_1 : decode cX5_takeHour 1 = .ok (.iconst 0, 1) := by decide +kernel
theorem dX5_takeHour_2 : decode cX5_takeHour 2 = .ok (.aload_n 0, 1) := by decide +kernel
theorem dX5_takeHour_3 : decode cX5_takeHour 3 = .ok (.getfield 12, 3) := by decide +kernel
theorem dX5_takeHour_6 : decode cX5_takeHour 6 = .ok (.getfield 93, 3) := by decide +kernel
theorem dX5_takeHour_9 : decode cX5_takeHour 9 = .ok (.iconst 1, 1) := by decide +kernel
theorem dX5_takeHour_10 : decode cX5_takeHour 10 = .ok (.isub, 1) := by decide +kernel
theorem dX5_takeHour_11 : decode cX5_takeHour 11 = .ok (.invokevirtual 102, 3) := by decide +kernel
theorem dX5_takeHour_14 : decode cX5_takeHour 14 = .ok (.istore_n 2, 1) := by decide +kernel
theorem dX5_takeHour_15 : decode cX5_takeHour 15 = .ok (.iload_n 2, 1) := by decide +kernel
theorem dX5_takeHour_16 : decode cX5_takeHour 16 = .ok (.iconst (-1), 1) := by decide +kernel
theorem dX5_takeHour_17 : decode cX5_takeHour 17 = .ok (.if_icmp .ne 5, 3) := by decide +kernel
theorem dX5_takeHour_20 : decode cX5_takeHour 20 = .ok (.iconst 0, 1) := by decide +kernel
theorem dX5_takeHour_21 : decode cX5_takeHour 21 = .ok (.ireturn, 1) := by decide +kernel
theorem dX5_takeHour_22 : decode cX5_takeHour 22 = .ok (.aload_n 0, 1) := by decide +kernel
theorem dX5_takeHour_23 : decode cX5_takeHour 23 = .ok (.iconst 0, 1) := by decide +kernel
theorem dX5_takeHour_24 : decode cX5_takeHour 24 = .ok (.bipush 9, 2) := by decide +kernel
theorem dX5_takeHour_26 : decode cX5_takeHour 26 = .ok (.invokevirtual 102, 3) := by decide +kernel
theorem dX5_takeHour_29 : decode cX5_takeHour 29 = .ok (.istore_n 3, 1) := by decide +kernel
theorem dX5_takeHour_30 : decode cX5_takeHour 30 = .ok (.iload_n 3, 1) := by decide +kernel
theorem dX5_takeHour_31 : decode cX5_takeHour 31 = .ok (.iconst (-1), 1) := by decide +kernel
theorem dX5_takeHour_32 : decode cX5_takeHour 32 = .ok (.if_icmp .ne 5, 3) := by decide +kernel
theorem dX5_takeHour_35 : decode cX5_takeHour 35 = .ok (.iconst 0, 1) := by decide +kernel
theorem dX5_takeHour_36 : decode cX5_takeHour 36 = .ok (.ireturn, 1) := by decide +kernel
theorem dX5_takeHour_37 : decode cX5_takeHour 37 = .ok (.aload_n 0, 1) := by decide +kernel
theorem dX5_takeHour_38 : decode cX5_takeHour 38 = .ok (.getfield 12, 3) := by decide +kernel
theorem dX5_takeHour_41 : decode cX5_takeHour 41 = .ok (.iload_n 1, 1) := by decide +kernel
theorem dX5_takeHour_42 : decode cX5_takeHour 42 = .ok (.iload_n 2, 1) := by decide +kernel
theorem dX5_takeHour_43 : decode cX5_takeHour 43 = .ok (.iload_n 3, 1) := by decide +kernel
theorem dX5_takeHour_44 : decode cX5_takeHour 44 = .ok (.invokevirtual 110, 3) := by decide +kernel
theorem dX5_takeHour_47 : decode cX5_takeHour 47 = .ok (.iconst 1, 1) := by decide +kernel
theorem dX5_takeHour_48 : decode cX5_takeHour 48 = .ok (.ireturn, 1) := by decide +kernel
theorem dX5_takeRider_0 : decode cX5_takeRider 0 = .ok (.aload_n 0, 1) := by decide +kernel
theorem dX5_takeRider_1 : decode cX5_takeRider 1 = .ok (.iconst 0, 1) := by decide +kernel
theorem dX5_takeRider_2 : decode cX5_takeRider 2 = .ok (.aload_n 0, 1) := by decide +kernel
theorem dX5_takeRider_3 : decode cX5_takeRider 3 = .ok (.getfield 12, 3) := by decide +kernel
theorem dX5_takeRider_6 : decode cX5_takeRider 6 = .ok (.getfield 93, 3) := by decide +kernel
theorem dX5_takeRider_9 : decode cX5_takeRider 9 = .ok (.iconst 1, 1) := by decide +kernel
theorem dX5_takeRider_10 : decode cX5_takeRider 10 = .ok (.isub, 1) := by decide +kernel
theorem dX5_takeRider_11 : decode cX5_takeRider 11 = .ok (.invokevirtual 102, 3) := by decide +kernel
theorem dX5_takeRider_14 : decode cX5_takeRider 14 = .ok (.istore_n 1, 1) := by decide +kernel
theorem dX5_takeRider_15 : decode cX5_takeRider 15 = .ok (.iload_n 1, 1) := by decide +kernel
theorem dX5_takeRider_16 : decode cX5_takeRider 16 = .ok (.iconst (-1), 1) := by decide +kernel
theorem dX5_takeRider_17 : decode cX5_takeRider 17 = .ok (.if_icmp .ne 5, 3) := by decide +kernel
theorem dX5_takeRider_20 : decode cX5_takeRider 20 = .ok (.iconst 0, 1) := by decide +kernel
theorem dX5_takeRider_21 : decode cX5_takeRider 21 = .ok (.ireturn, 1) := by decide +kernel
theorem dX5_takeRider_22 : decode cX5_takeRider 22 = .ok (.aload_n 0, 1) := by decide +kernel
theorem dX5_takeRider_23 : decode cX5_takeRider 23 = .ok (.iconst 0, 1) := by decide +kernel
theorem dX5_takeRider_24 : decode cX5_takeRider 24 = .ok (.aload_n 0, 1) := by decide +kernel
theorem dX5_takeRider_25 : decode cX5_takeRider 25 = .ok (.getfield 12, 3) := by decide +kernel
theorem dX5_takeRider_28 : decode cX5_takeRider 28 = .ok (.getfield 93, 3) := by decide +kernel
theorem dX5_takeRider_31 : decode cX5_takeRider 31 = .ok (.iconst 1, 1) := by decide +kernel
theorem dX5_takeRider_32 : decode cX5_takeRider 32 = .ok (.isub, 1) := by decide +kernel
theorem dX5_takeRider_33 : decode cX5_takeRider 33 = .ok (.invokevirtual 102, 3) := by decide +kernel
theorem dX5_takeRider_36 : decode cX5_takeRider 36 = .ok (.istore_n 2, 1) := by decide +kernel
theorem dX5_takeRider_37 : decode cX5_takeRider 37 = .ok (.iload_n 2, 1) := by decide +kernel
theorem dX5_takeRider_38 : decode cX5_takeRider 38 = .ok (.iconst (-1), 1) := by decide +kernel
theorem dX5_takeRider_39 : decode cX5_takeRider 39 = .ok (.if_icmp .ne 5, 3) := by decide +kernel
theorem dX5_takeRider_42 : decode cX5_takeRider 42 = .ok (.iconst 0, 1) := by decide +kernel
theorem dX5_takeRider_43 : decode cX5_takeRider 43 = .ok (.ireturn, 1) := by decide +kernel
theorem dX5_takeRider_44 : decode cX5_takeRider 44 = .ok (.aload_n 0, 1) := by decide +kernel
theorem dX5_takeRider_45 : decode cX5_takeRider 45 = .ok (.getfield 12, 3) := by decide +kernel
theorem dX5_takeRider_48 : decode cX5_takeRider 48 = .ok (.iload_n 1, 1) := by decide +kernel
theorem dX5_takeRider_49 : decode cX5_takeRider 49 = .ok (.iload_n 2, 1) := by decide +kernel
theorem dX5_takeRider_50 : decode cX5_takeRider 50 = .ok (.invokevirtual 114, 3) := by decide +kernel
theorem dX5_takeRider_53 : decode cX5_takeRider 53 = .ok (.iconst 1, 1) := by decide +kernel
theorem dX5_takeRider_54 : decode cX5_takeRider 54 = .ok (.ireturn, 1) := by decide +kernel
theorem dX5_takeNumber_0 : decode cX5_takeNumber 0 = .ok (.aload_n 0, 1) := by decide +kernel
theorem dX5_takeNumber_1 : decode cX5_takeNumber 1 = .ok (.getfield 18, 3) := by decide +kernel
theorem dX5_takeNumber_4 : decode cX5_takeNumber 4 = .ok (.invokevirtual 118, 3) := by decide +kernel
theorem dX5_takeNumber_7 : decode cX5_takeNumber 7 = .ok (.istore_n 3, 1) := by decide +kernel
theorem dX5_takeNumber_8 : decode cX5_takeNumber 8 = .ok (.iload_n 3, 1) := by decide +kernel
theorem dX5_takeNumber_9 : decode cX5_takeNumber 9 = .ok (.iconst (-1), 1) := by decide +kernel
theorem dX5_takeNumber_10 : decode cX5_takeNumber 10 = .ok (.if_icmp .eq 13, 3) := by decide +kernel
theorem dX5_takeNumber_13 : decode cX5_takeNumber 13 = .ok (.iload_n 3, 1) := by decide +kernel
theorem dX5_takeNumber_14 : decode cX5_takeNumber 14 = .ok (.iload_n 1, 1) := by decide +kernel
theorem dX5_takeNumber_15 : decode cX5_takeNumber 15 = .ok (.if_icmp .lt 8, 3) := by decide +kernel
theorem dX5_takeNumber_18 : decode cX5_takeNumber 18 = .ok (.iload_n 3, 1) := by decide +kernel
theorem dX5_takeNumber_19 : decode cX5_takeNumber 19 = .ok (.iload_n 2, 1) := by decide +kernel
theorem dX5_takeNumber_20 : decode cX5_takeNumber 20 = .ok (.if_icmp .le 5, 3) := by decide +kernel
theorem dX5_takeNumber_23 : decode cX5_takeNumber 23 = .ok (.iconst (-1), 1) := by decide +kernel
theorem dX5_takeNumber_24 : decode cX5_takeNumber 24 = .ok (.ireturn, 1) := by decide +kernel
theorem dX5_takeNumber_25 : decode cX5_takeNumber 25 = .ok (.aload_n 0, 1) := by decide +kernel
theorem dX5_takeNumber_26 : decode cX5_takeNumber 26 = .ok (.getfield 18, 3) := by decide +kernel
theorem dX5_takeNumber_29 : decode cX5_takeNumber 29 = .ok (.invokevirtual 48, 3) := by decide +kernel
theorem dX5_takeNumber_32 : decode cX5_takeNumber 32 = .ok (.iload_n 3, 1) := by decide +kernel
theorem dX5_takeNumber_33 : decode cX5_takeNumber 33 = .ok (.ireturn, 1) := by decide +kernel
theorem dX6_init_0 : decode cX6_init 0 = .ok (.aload_n 0, 1) := by decide +kernel
theorem dX6_init_1 : decode cX6_init 1 = .ok (.invokespecial 3, 3) := by decide +kernel
theorem dX6_init_4 : decode cX6_init 4 = .ok (.aload_n 0, 1) := by decide +kernel
theorem dX6_init_5 : decode cX6_init 5 = .ok (.bipush 8, 2) := by decide +kernel
theorem dX6_init_7 : decode cX6_init 7 = .ok (.anewarray 9, 3) := by decide +kernel
theorem dX6_init_10 : decode cX6_init 10 = .ok (.putfield 11, 3) := by decide +kernel
theorem dX6_init_13 : decode cX6_init 13 = .ok (.iconst 0, 1) := by decide +kernel
theorem dX6_init_14 : decode cX6_init 14 = .ok (.istore_n 2, 1) := by decide +kernel
theorem dX6_init_15 : decode cX6_init 15 = .ok (.iload_n 2, 1) := by decide +kernel
theorem dX6_init_16 : decode cX6_init 16 = .ok (.aload_n 0, 1) := by decide +kernel
theorem dX6_init_17 : decode cX6_init 17 = .ok (.getfield 11, 3) := by decide +kernel
theorem dX6_init_20 : decode cX6_init 20 = .ok (.arraylength, 1) := by decide +kernel
theorem dX6_init_21 : decode cX6_init 21 = .ok (.if_icmp .ge 23, 3) := by decide +kernel
theorem dX6_init_24 : decode cX6_init 24 = .ok (.aload_n 0, 1) := by decide +kernel
theorem dX6_init_25 : decode cX6_init 25 = .ok (.getfield 11, 3) := by decide +kernel
theorem dX6_init_28 : decode cX6_init 28 = .ok (.iload_n 2, 1) := by decide +kernel
theorem dX6_init_29 : decode cX6_init 29 = .ok (.new 9, 3) := by decide +kernel
theorem dX6_init_32 : decode cX6_init 32 = .ok (.dup, 1) := by decide +kernel
theorem dX6_init_33 : decode cX6_init 33 = .ok (.aload_n 1, 1) := by decide +kernel
theorem dX6_init_34 : decode cX6_init 34 = .ok (.invokespecial 17, 3) := by decide +kernel
theorem dX6_init_37 : decode cX6_init 37 = .ok (.aastore, 1) := by decide +kernel
theorem dX6_init_38 : decode cX6_init 38 = .ok (.iinc 2 1, 3) := by decide +kernel
theorem dX6_init_41 : decode cX6_init 41 = .ok (.goto (-26), 3) := by decide +kernel
theorem dX6_init_44 : decode cX6_init 44 = .ok (.return_, 1) := by decide +kernel
theorem dX6_remember_0 : decode cX6_remember 0 = .ok (.aload_n 0, 1) := by decide +kernel
theorem dX6_remember_1 : decode cX6_remember 1 = .ok (.getfield 11, 3) := by decide +kernel
theorem dX6_remember_4 : decode cX6_remember 4 = .ok (.aload_n 0, 1) := by decide +kernel
theorem dX6_remember_5 : decode cX6_remember 5 = .ok (.getfield 20, 3) := by decide +kernel
theorem dX6_remember_8 : decode cX6_remember 8 = .ok (.aaload, 1) := by decide +kernel
theorem dX6_remember_9 : decode cX6_remember 9 = .ok (.aload_n 1, 1) := by decide +kernel
theorem dX6_remember_10 : decode cX6_remember 10 = .ok (.invokevirtual 24, 3) := by decide +kernel
theorem dX6_remember_13 : decode cX6_remember 13 = .ok (.aload_n 0, 1) := by decide +kernel
theorem dX6_remember_14 : decode cX6_remember 14 = .ok (.aload_n 0, 1) := by decide +kernel
theorem dX6_remember_15 : decode cX6_remember 15 = .ok (.getfield 20, 3) := by decide +kernel
theorem dX6_remember_18 : decode cX6_remember 18 = .ok (.iconst 1, 1) := by decide +kernel
theorem dX6_remember_19 : decode cX6_remember 19 = .ok (.iadd, 1) := by decide +kernel
theorem dX6_remember_20 : decode cX6_remember 20 = .ok (.bipush 8, 2) := by decide +kernel
theorem dX6_remember_22 : decode cX6_remember 22 = .ok (.irem, 1) := by decide +kernel
theorem dX6_remember_23 : decode cX6_remember 23 = .ok (.putfield 20, 3) := by decide +kernel
theorem dX6_remember_26 : decode cX6_remember 26 = .ok (.aload_n 0, 1) := by decide +kernel
theorem dX6_remember_27 : decode cX6_remember 27 = .ok (.aload_n 0, 1) := by decide +kernel
theorem dX6_remember_28 : decode cX6_remember 28 = .ok (.getfield 28, 3) := by decide +kernel
theorem dX6_remember_31 : decode cX6_remember 31 = .ok (.iconst 1, 1) := by decide +kernel
theorem dX6_remember_32 : decode cX6_remember 32 = .ok (.iadd, 1) := by decide +kernel
theorem dX6_remember_33 : decode cX6_remember 33 = .ok (.bipush 8, 2) := by decide +kernel
theorem dX6_remember_35 : decode cX6_remember 35 = .ok (.invokestatic 31, 3) := by decide +kernel
theorem dX6_remember_38 : decode cX6_remember 38 = .ok (.putfield 28, 3) := by decide +kernel
theorem dX6_remember_41 : decode cX6_remember 41 = .ok (.return_, 1) := by decide +kernel
theorem dX6_clear_0 : decode cX6_clear 0 = .ok (.aload_n 0, 1) := by decide +kernel
theorem dX6_clear_1 : decode cX6_clear 1 = .ok (.iconst 0, 1) := by decide +kernel
theorem dX6_clear_2 : decode cX6_clear 2 = .ok (.putfield 28, 3) := by decide +kernel
theorem dX6_clear_5 : decode cX6_clear 5 = .ok (.return_, 1) := by decide +kernel
theorem dX6_restore_0 : decode cX6_restore 0 = .ok (.aload_n 0, 1) := by decide +kernel
theorem dX6_restore_1 : decode cX6_restore 1 = .ok (.getfield 28, 3) := by decide +kernel
theorem dX6_restore_4 : decode cX6_restore 4 = .ok (.ifCond .le 42, 3) := by decide +kernel
theorem dX6_restore_7 : decode cX6_restore 7 = .ok (.aload_n 0, 1) := by decide +kernel
theorem dX6_restore_8 : decode cX6_restore 8 = .ok (.aload_n 0, 1) := by decide +kernel
theorem dX6_restore_9 : decode cX6_restore 9 = .ok (.getfield 20, 3) := by decide +kernel
theorem dX6_restore_12 : decode cX6_restore 12 = .ok (.bipush 8, 2) := by decide +kernel
theorem dX6_restore_14 : decode cX6_restore 14 = .ok (.iadd, 1) := by decide +kernel
theorem dX6_restore_15 : decode cX6_restore 15 = .ok (.iconst 1, 1) := by decide +kernel
theorem dX6_restore_16 : decode cX6_restore 16 = .ok (.isub, 1) := by decide +kernel
theorem dX6_restore_17 : decode cX6_restore 17 = .ok (.bipush 8, 2) := by decide +kernel
theorem dX6_restore_19 : decode cX6_restore 19 = .ok (.irem, 1) := by decide +kernel
theorem dX6_restore_20 : decode cX6_restore 20 = .ok (.putfield 20, 3) := by decide +kernel
theorem dX6_restore_23 : decode cX6_restore 23 = .ok (.aload_n 0, 1) := by decide +kernel
theorem dX6_restore_24 : decode cX6_restore 24 = .ok (.dup, 1) := by decide +kernel
theorem dX6_restore_25 : decode cX6_restore 25 = .ok (.getfield 28, 3) := by decide +kernel
theorem dX6_restore_28 : decode cX6_restore 28 = .ok (.iconst 1, 1) := by decide +kernel
theorem dX6_restore_29 : decode cX6_restore 29 = .ok (.isub, 1) := by decide +kernel
theorem dX6_restore_30 : decode cX6_restore 30 = .ok (.putfield 28, 3) := by decide +kernel
theorem dX6_restore_33 : decode cX6_restore 33 = .ok (.aload_n 1, 1) := by decide +kernel
theorem dX6_restore_34 : decode cX6_restore 34 = .ok (.aload_n 0, 1) := by decide +kernel
theorem dX6_restore_35 : decode cX6_restore 35 = .ok (.getfield 11, 3) := by decide +kernel
theorem dX6_restore_38 : decode cX6_restore 38 = .ok (.aload_n 0, 1) := by decide +kernel
theorem dX6_restore_39 : decode cX6_restore 39 = .ok (.getfield 20, 3) := by decide +kernel
theorem dX6_restore_42 : decode cX6_restore 42 = .ok (.aaload, 1) := by decide +kernel
theorem dX6_restore_43 : decode cX6_restore 43 = .ok (.invokevirtual 24, 3) := by decide +kernel
theorem dX6_restore_46 : decode cX6_restore 46 = .ok (.return_, 1) := by decide +kernel
theorem dX7_init_0 : decode cX7_init 0 = .ok (.aload_n 0, 1) := by decide +kernel
theorem dX7_init_1 : decode cX7_init 1 = .ok (.invokespecial 3, 3) := by decide +kernel
theorem dX7_init_4 : decode cX7_init 4 = .ok (.aload_n 0, 1) := by decide +kernel
theorem dX7_init_5 : decode cX7_init 5 = .ok (.bipush 6, 2) := by decide +kernel
theorem dX7_init_7 : decode cX7_init 7 = .ok (.newarray .int, 2) := by decide +kernel
theorem dX7_init_9 : decode cX7_init 9 = .ok (.putfield 9, 3) := by decide +kernel
theorem dX7_init_12 : decode cX7_init 12 = .ok (.aload_n 0, 1) := by decide +kernel
theorem dX7_init_13 : decode cX7_init 13 = .ok (.bipush 8, 2) := by decide +kernel
theorem dX7_init_15 : decode cX7_init 15 = .ok (.newarray .int, 2) := by decide +kernel
theorem dX7_init_17 : decode cX7_init 17 = .ok (.putfield 15, 3) := by decide +kernel
theorem dX7_init_20 : decode cX7_init 20 = .ok (.aload_n 0, 1) := by decide +kernel
theorem dX7_init_21 : decode cX7_init 21 = .ok (.bipush 8, 2) := by decide +kernel
theorem dX7_init_23 : decode cX7_init 23 = .ok (.newarray .int, 2) := by decide +kernel
theorem dX7_init_25 : decode cX7_init 25 = .ok (.putfield 18, 3) := by decide +kernel
theorem dX7_init_28 : decode cX7_init 28 = .ok (.aload_n 0, 1) := by decide +kernel
theorem dX7_init_29 : decode cX7_init 29 = .ok (.bipush 8, 2) := by decide +kernel
theorem dX7_init_31 : decode cX7_init 31 = .ok (.newarray .int, 2) := by decide +kernel
theorem dX7_init_33 : decode cX7_init 33 = .ok (.putfield 21, 3) := by decide +kernel
theorem dX7_init_36 : decode cX7_init 36 = .ok (.aload_n 0, 1) := by decide +kernel
theorem dX7_init_37 : decode cX7_init 37 = .ok (.iconst 4, 1) := by decide +kernel
theorem dX7_init_38 : decode cX7_init 38 = .ok (.newarray .int, 2) := by decide +kernel
theorem dX7_init_40 : decode cX7_init 40 = .ok (.putfield 24, 3) := by decide +kernel
theorem dX7_init_43 : decode cX7_init 43 = .ok (.aload_n 0, 1) := by decide +kernel
theorem dX7_init_44 : decode cX7_init 44 = .ok (.iconst 4, 1) := by decide +kernel
theorem dX7_init_45 : decode cX7_init 45 = .ok (.newarray .int, 2) := by decide +kernel
theorem dX7_init_47 : decode cX7_init 47 = .ok (.putfield 27, 3) := by decide +kernel
theorem dX7_init_50 : decode cX7_init 50 = .ok (.return_, 1) := by decide +kernel
theorem dX7_clear_0 : decode cX7_clear 0 = .ok (.aload_n 0, 1) := by decide +kernel
theorem dX7_clear_1 : decode cX7_clear 1 = .ok (.iconst 0, 1) := by decide +kernel
theorem dX7_clear_2 : decode cX7_clear 2 = .ok (.putfield 30, 3) := by decide +kernel
theorem dX7_clear_5 : decode cX7_clear 5 = .ok (.aload_n 0, 1) := by decide +kernel
theorem dX7_clear_6 : decode cX7_clear 6 = .ok (.iconst 0, 1) := by decide +kernel
theorem dX7_clear_7 : decode cX7_clear 7 = .ok (.putfield 34, 3) := by decide +kernel
theorem dX7_clear_10 : decode cX7_clear 10 = .ok (.aload_n 0, 1) := by decide +kernel
theorem dX7_clear_11 : decode cX7_clear 11 = .ok (.iconst 0, 1) := by decide +kernel
theorem dX7_clear_12 : decode cX7_clear 12 = .ok (.putfield 37, 3) := by decide +kernel
theorem dX7_clear_15 : decode cX7_clear 15 = .ok (.return_, 1) := by decide +kernel
theorem dX7_become_0 : decode cX7_become 0 = .ok (.aload_n 0, 1) := by decide +kernel
theorem dX7_become_1 : decode cX7_become 1 = .ok (.aload_n 1, 1) := by decide +kernel
theorem dX7_become_2 : decode cX7_become 2 = .ok (.getfield 30, 3) := by decide +kernel
theorem dX7_become_5 : decode cX7_become 5 = .ok (.putfield 30, 3) := by decide +kernel
theorem dX7_become_8 : decode cX7_become 8 = .ok (.aload_n 0, 1) := by decide +kernel
theorem dX7_become_9 : decode cX7_become 9 = .ok (.aload_n 1, 1) := by decide +kernel
theorem dX7_become_10 : decode cX7_become 10 = .ok (.getfield 34, 3) := by decide +kernel
theorem dX7_become_13 : decode cX7_become 13 = .ok (.putfield 34, 3) := by decide +kernel
theorem dX7_become_16 : decode cX7_become 16 = .ok (.aload_n 0, 1) := by decide +kernel
theorem dX7_become_17 : decode cX7_become 17 = .ok (.aload_n 1, 1) := by decide +kernel
theorem dX7_become_18 : decode cX7_become 18 = .ok (.getfield 37, 3) := by decide +kernel
theorem dX7_become_21 : decode cX7_become 21 = .ok (.putfield 37, 3) := by decide +kernel
theorem dX7_become_24 : decode cX7_become 24 = .ok (.aload_n 1, 1) := by decide +kernel
theorem dX7_become_25 : decode cX7_become 25 = .ok (.getfield 9, 3) := by decide +kernel
theorem dX7_become_28 : decode cX7_become 28 = .ok (.iconst 0, 1) := by decide +kernel
theorem dX7_become_29 : decode cX7_become 29 = .ok (.aload_n 0, 1) := by decide +kernel
theorem dX7_become_30 : decode cX7_become 30 = .ok (.getfield 9, 3) := by decide +kernel
theorem dX7_become_33 : decode cX7_become 33 = .ok (.iconst 0, 1) := by decide +kernel
theorem dX7_become_34 : decode cX7_become 34 = .ok (.bipush 6, 2) := by decide +kernel
theorem dX7_become_36 : decode cX7_become 36 = .ok (.invokestatic 40, 3) := by decide +kernel
theorem dX7_become_39 : decode cX7_become 39 = .ok (.aload_n 1, 1) := by decide +kernel
theorem dX7_become_40 : decode cX7_become 40 = .ok (.getfield 15, 3) := by decide +kernel
theorem dX7_become_43 : decode cX7_become 43 = .ok (.iconst 0, 1) := by decide +kernel
theorem dX7_become_44 : decode cX7_become 44 = .ok (.aload_n 0, 1) := by decide +kernel
theorem dX7_become_45 : decode cX7_become 45 = .ok (.getfield 15, 3) := by decide +kernel
theorem dX7_become_48 : decode cX7_become 48 = .ok (.iconst 0, 1) := by decide +kernel
theorem dX7_become_49 : decode cX7_become 49 = .ok (.bipush 8, 2) := by decide +kernel
theorem dX7_become_51 : decode cX7_become 51 = .ok (.invokestatic 40, 3) := by decide +kernel
theorem dX7_become_54 : decode cX7_become 54 = .ok (.aload_n 1, 1) := by decide +kernel
theorem dX7_become_55 : decode cX7_become 55 = .ok (.getfield 18, 3) := by decide +kernel
theorem dX7_become_58 : decode cX7_become 58 = .ok (.iconst 0, 1) := by decide +kernel
theorem dX7_become_59 : decode cX7_become 59 = .ok (.aload_n 0, 1) := by decide +kernel
theorem dX7_become_60 : decode cX7_become 60 = .ok (.getfield 18, 3) := by decide +kernel
theorem dX7_become_63 : decode cX7_become 63 = .ok (.iconst 0, 1) := by decide +kernel
theorem dX7_become_64 : decode cX7_become 64 = .ok (.bipush 8, 2) := by decide +kernel
theorem dX7_become_66 : decode cX7_become 66 = .ok (.invokestatic 40, 3) := by decide +kernel
theorem dX7_become_69 : decode cX7_become 69 = .ok (.aload_n 1, 1) := by decide +kernel
theorem dX7_become_70 : decode cX7_become 70 = .ok (.getfield 21, 3) := by decide +kernel
theorem dX7_become_73 : decode cX7_become 73 = .ok (.iconst 0, 1) := by decide +kernel
theorem dX7_become_74 : decode cX7_become 74 = .ok (.aload_n 0, 1) := by decide +kernel
theorem dX7_become_75 : decode cX7_become 75 = .ok (.getfield 21, 3) := by decide +kernel
theorem dX7_become_78 : decode cX7_become 78 = .ok (.iconst 0, 1) := by decide +kernel
theorem dX7_become_79 : decode cX7_become 79 = .ok (.bipush 8, 2) := by decide +kernel
theorem dX7_become_81 : decode cX7_become 81 = .ok (.invokestatic 40, 3) := by decide +kernel
theorem dX7_become_84 : decode cX7_become 84 = .ok (.aload_n 1, 1) := by decide +kernel
theorem dX7_become_85 : decode cX7_become 85 = .ok (.getfield 24, 3) := by decide +kernel
theorem dX7_become_88 : decode cX7_become 88 = .ok (.iconst 0, 1) := by decide +kernel
theorem dX7_become_89 : decode cX7_become 89 = .ok (.aload_n 0, 1) := by decide +kernel
theorem dX7_become_90 : decode cX7_become 90 = .ok (.getfield 24, 3) := by decide +kernel
theorem dX7_become_93 : decode cX7_become 93 = .ok (.iconst 0, 1) := by decide +kernel
theorem dX7_become_94 : decode cX7_become 94 = .ok (.iconst 4, 1) := by decide +kernel
theorem dX7_become_95 : decode cX7_become 95 = .ok (.invokestatic 40, 3) := by decide +kernel
theorem dX7_become_98 : decode cX7_become 98 = .ok (.aload_n 1, 1) := by decide +kernel
theorem dX7_become_99 : decode cX7_become 99 = .ok (.getfield 27, 3) := by decide +kernel
theorem dX7_become_102 : decode cX7_become 102 = .ok (.iconst 0, 1) := by decide +kernel
theorem dX7_become_103 : decode cX7_become 103 = .ok (.aload_n 0, 1) := by decide +kernel
theorem dX7_become_104 : decode cX7_become 104 = .ok (.getfield 27, 3) := by decide +kernel
theorem dX7_become_107 : decode cX7_become 107 = .ok (.iconst 0, 1) := by decide +kernel
theorem dX7_become_108 : decode cX7_become 108 = .ok (.iconst 4, 1) := by decide +kernel
theorem dX7_become_109 : decode cX7_become 109 = .ok (.invokestatic 40, 3) := by decide +kernel
theorem dX7_become_112 : decode cX7_become 112 = .ok (.return_, 1) := by decide +kernel
theorem dX7_hasInn_0 : decode cX7_hasInn 0 = .ok (.iload_n 1, 1) := by decide +kernel
theorem dX7_hasInn_1 : decode cX7_hasInn 1 = .ok (.ifCond .lt 15, 3) := by decide +kernel
theorem dX7_hasInn_4 : decode cX7_hasInn 4 = .ok (.iload_n 1, 1) := by decide +kernel
theorem dX7_hasInn_5 : decode cX7_hasInn 5 = .ok (.aload_n 0, 1) := by decide +kernel
theorem dX7_hasInn_6 : decode cX7_hasInn 6 = .ok (.getfield 30, 3) := by decide +kernel
theorem dX7_hasInn_9 : decode cX7_hasInn 9 = .ok (.if_icmp .ge 7, 3) := by decide +kernel
theorem dX7_hasInn_12 : decode cX7_hasInn 12 = .ok (.iconst 1, 1) := by decide +kernel
theorem dX7_hasInn_13 : decode cX7_hasInn 13 = .ok (.goto 4, 3) := by decide +kernel
theorem dX7_hasInn_16 : decode cX7_hasInn 16 = .ok (.iconst 0, 1) := by decide +kernel
theorem dX7_hasInn_17 : decode cX7_hasInn 17 = .ok (.ireturn, 1) := by decide +kernel
theorem dX7_hasHour_0 : decode cX7_hasHour 0 = .ok (.iload_n 1, 1) := by decide +kernel
theorem dX7_hasHour_1 : decode cX7_hasHour 1 = .ok (.ifCond .lt 15, 3) := by decide +kernel
theorem dX7_hasHour_4 : decode cX7_hasHour 4 = .ok (.iload_n 1, 1) := by decide +kernel
theorem dX7_hasHour_5 : decode cX7_hasHour 5 = .ok (.aload_n 0, 1) := by decide +kernel
theorem dX7_hasHour_6 : decode cX7_hasHour 6 = .ok (.getfield 34, 3) := by decide +kernel
theorem dX7_hasHour_9 : decode cX7_hasHour 9 = .ok (.if_icmp .ge 7, 3) := by decide +kernel
theorem dX7_hasHour_12 : decode cX7_hasHour 12 = .ok (.iconst 1, 1) := by decide +kernel
theorem dX7_hasHour_13 : decode cX7_hasHour 13 = .ok (.goto 4, 3) := by decide +kernel
theorem dX7_hasHour_16 : decode cX7_hasHour 16 = .ok (.iconst 0, 1) := by decide +kernel
theorem dX7_hasHour_17 : decode cX7_hasHour 17 = .ok (.ireturn, 1) := by decide +kernel
theorem dX7_hasRider_0 : decode cX7_hasRider 0 = .ok (.iload_n 1, 1) := by decide +kernel
theorem dX7_hasRider_1 : decode cX7_hasRider 1 = .ok (.ifCond .lt 15, 3) := by decide +kernel
theorem dX7_hasRider_4 : decode cX7_hasRider 4 = .ok (.iload_n 1, 1) := by decide +kernel
theorem dX7_hasRider_5 : decode cX7_hasRider 5 = .ok (.aload_n 0, 1) := by decide +kernel
theorem dX7_hasRider_6 : decode cX7_hasRider 6 = .ok (.getfield 37, 3) := by decide +kernel
theorem dX7_hasRider_9 : decode cX7_hasRider 9 = .ok (.if_icmp .ge 7, 3) := by decide +kernel
theorem dX7_hasRider_12 : decode cX7_hasRider 12 = .ok (.iconst 1, 1) := by decide +kernel
theorem dX7_hasRider_13 : decode cX7_hasRider 13 = .ok (.goto 4, 3) := by decide +kernel
theorem dX7_hasRider_16 : decode cX7_hasRider 16 = .ok (.iconst 0, 1) := by decide +kernel
theorem dX7_hasRider_17 : decode cX7_hasRider 17 = .ok (.ireturn, 1) := by decide +kernel
theorem dX7_addInn_0 : decode cX7_addInn 0 = .ok (.aload_n 0, 1) := by decide +kernel
theorem dX7_addInn_1 : decode cX7_addInn 1 = .ok (.getfield 30, 3) := by decide +kernel
theorem dX7_addInn_4 : decode cX7_addInn 4 = .ok (.bipush 6, 2) := by decide +kernel
theorem dX7_addInn_6 : decode cX7_addInn 6 = .ok (.if_icmp .ge 23, 3) := by decide +kernel
theorem dX7_addInn_9 : decode cX7_addInn 9 = .ok (.aload_n 0, 1) := by decide +kernel
theorem dX7_addInn_10 : decode cX7_addInn 10 = .ok (.getfield 9, 3) := by decide +kernel
theorem dX7_addInn_13 : decode cX7_addInn 13 = .ok (.aload_n 0, 1) := by decide +kernel
theorem dX7_addInn_14 : decode cX7_addInn 14 = .ok (.getfield 30, 3) := by decide +kernel
theorem dX7_addInn_17 : decode cX7_addInn 17 = .ok (.iload_n 1, 1) := by decide +kernel
theorem dX7_addInn_18 : decode cX7_addInn 18 = .ok (.iastore, 1) := by decide +kernel
theorem dX7_addInn_19 : decode cX7_addInn 19 = .ok (.aload_n 0, 1) := by decide +kernel
theorem dX7_addInn_20 : decode cX7_addInn 20 = .ok (.dup, 1) := by decide +kernel
theorem dX7_addInn_21 : decode cX7_addInn 21 = .ok (.getfield 30, 3) := by decide +kernel
theorem dX7_addInn_24 : decode cX7_addInn 24 = .ok (.iconst 1, 1) := by decide +kernel
theorem dX7_addInn_25 : decode cX7_addInn 25 = .ok (.iadd, 1) := by decide +kernel
theorem dX7_addInn_26 : decode cX7_addInn 26 = .ok (.putfield 30, 3) := by decide +kernel
theorem dX7_addInn_29 : decode cX7_addInn 29 = .ok (.return_, 1) := by decide +kernel
theorem dX7_addHour_0 : decode cX7_addHour 0 = .ok (.aload_n 0, 1) := by decide +kernel
theorem dX7_addHour_1 : decode cX7_addHour 1 = .ok (.getfield 34, 3) := by decide +kernel
theorem dX7_addHour_4 : decode cX7_addHour 4 = .ok (.bipush 8, 2) := by decide +kernel
theorem dX7_addHour_6 : decode cX7_addHour 6 = .ok (.if_icmp .ge 43, 3) := by decide +kernel
theorem dX7_addHour_9 : decode cX7_addHour 9 = .ok (.aload_n 0, 1) := by decide +kernel
theorem dX7_addHour_10 : decode cX7_addHour 10 = .ok (.getfield 15, 3) := by decide +kernel
theorem dX7_addHour_13 : decode cX7_addHour 13 = .ok (.aload_n 0, 1) := by decide +kernel
theorem dX7_addHour_14 : decode cX7_addHour 14 = .ok (.getfield 34, 3) := by decide +kernel
theorem dX7_addHour_17 : decode cX7_addHour 17 = .ok (.iload_n 1, 1) := by decide +kernel
theorem dX7_addHour_18 : decode cX7_addHour 18 = .ok (.iastore, 1) := by decide +kernel
theorem dX7_addHour_19 : decode cX7_addHour 19 = .ok (.aload_n 0, 1) := by decide +kernel
theorem dX7_addHour_20 : decode cX7_addHour 20 = .ok (.getfield 18, 3) := by decide +kernel
theorem dX7_addHour_23 : decode cX7_addHour 23 = .ok (.aload_n 0, 1) := by decide +kernel
theorem dX7_addHour_24 : decode cX7_addHour 24 = .ok (.getfield 34, 3) := by decide +kernel
theorem dX7_addHour_27 : decode cX7_addHour 27 = .ok (.iload_n 2, 1) := by decide +kernel
theorem dX7_addHour_28 : decode cX7_addHour 28 = .ok (.iastore, 1) := by decide +kernel
theorem dX7_addHour_29 : decode cX7_addHour 29 = .ok (.aload_n 0, 1) := by decide +kernel
theorem dX7_addHour_30 : decode cX7_addHour 30 = .ok (.getfield 21, 3) := by decide +kernel
theorem dX7_addHour_33 : decode cX7_addHour 33 = .ok (.aload_n 0, 1) := by decide +kernel
theorem dX7_addHour_34 : decode cX7_addHour 34 = .ok (.getfield 34, 3) := by decide +kernel
theorem dX7_addHour_37 : decode cX7_addHour 37 = .ok (.iload_n 3, 1) := by decide +kernel
theorem dX7_addHour_38 : decode cX7_addHour 38 = .ok (.iastore, 1) := by decide +kernel
theorem dX7_addHour_39 : decode cX7_addHour 39 = .ok (.aload_n 0, 1) := by decide +kernel
theorem dX7_addHour_40 : decode cX7_addHour 40 = .ok (.dup, 1) := by decide +kernel
theorem dX7_addHour_41 : decode cX7_addHour 41 = .ok (.getfield 34, 3) := by decide +kernel
theorem dX7_addHour_44 : decode cX7_addHour 44 = .ok (.iconst 1, 1) := by decide +kernel
theorem dX7_addHour_45 : decode cX7_addHour 45 = .ok (.iadd, 1) := by decide +kernel
theorem dX7_addHour_46 : decode cX7_addHour 46 = .ok (.putfield 34, 3) := by decide +kernel
theorem dX7_addHour_49 : decode cX7_addHour 49 = .ok (.return_, 1) := by decide +kernel
theorem dX7_addRider_0 : decode cX7_addRider 0 = .ok (.aload_n 0, 1) := by decide +kernel
theorem dX7_addRider_1 : decode cX7_addRider 1 = .ok (.getfield 37, 3) := by decide +kernel
theorem dX7_addRider_4 : decode cX7_addRider 4 = .ok (.iconst 4, 1) := by decide +kernel
theorem dX7_addRider_5 : decode cX7_addRider 5 = .ok (.if_icmp .ge 33, 3) := by decide +kernel
theorem dX7_addRider_8 : decode cX7_addRider 8 = .ok (.aload_n 0, 1) := by decide +kernel
theorem dX7_addRider_9 : decode cX7_addRider 9 = .ok (.getfield 24, 3) := by decide +kernel
theorem dX7_addRider_12 : decode cX7_addRider 12 = .ok (.aload_n 0, 1) := by decide +kernel
theorem dX7_addRider_13 : decode cX7_addRider 13 = .ok (.getfield 37, 3) := by decide +kernel
theorem dX7_addRider_16 : decode cX7_addRider 16 = .ok (.iload_n 1, 1) := by decide +kernel
theorem dX7_addRider_17 : decode cX7_addRider 17 = .ok (.iastore, 1) := by decide +kernel
theorem dX7_addRider_18 : decode cX7_addRider 18 = .ok (.aload_n 0, 1) := by decide +kernel
theorem dX7_addRider_19 : decode cX7_addRider 19 = .ok (.getfield 27, 3) := by decide +kernel
theorem dX7_addRider_22 : decode cX7_addRider 22 = .ok (.aload_n 0, 1) := by decide +kernel
theorem dX7_addRider_23 : decode cX7_addRider 23 = .ok (.getfield 37, 3) := by decide +kernel
theorem dX7_addRider_26 : decode cX7_addRider 26 = .ok (.iload_n 2, 1) := by decide +kernel
theorem dX7_addRider_27 : decode cX7_addRider 27 = .ok (.iastore, 1) := by decide +kernel
theorem dX7_addRider_28 : decode cX7_addRider 28 = .ok (.aload_n 0, 1) := by decide +kernel
theorem dX7_addRider_29 : decode cX7_addRider 29 = .ok (.dup, 1) := by decide +kernel
theorem dX7_addRider_30 : decode cX7_addRider 30 = .ok (.getfield 37, 3) := by decide +kernel
theorem dX7_addRider_33 : decode cX7_addRider 33 = .ok (.iconst 1, 1) := by decide +kernel
theorem dX7_addRider_34 : decode cX7_addRider 34 = .ok (.iadd, 1) := by decide +kernel
theorem dX7_addRider_35 : decode cX7_addRider 35 = .ok (.putfield 37, 3) := by decide +kernel
theorem dX7_addRider_38 : decode cX7_addRider 38 = .ok (.return_, 1) := by decide +kernel
theorem dX7_nextInn_0 : decode cX7_nextInn 0 = .ok (.iload_n 0, 1) := by decide +kernel
theorem dX7_nextInn_1 : decode cX7_nextInn 1 = .ok (.iload_n 1, 1) := by decide +kernel
theorem dX7_nextInn_2 : decode cX7_nextInn 2 = .ok (.iload_n 0, 1) := by decide +kernel
theorem dX7_nextInn_3 : decode cX7_nextInn 3 = .ok (.invokestatic 46, 3) := by decide +kernel
theorem dX7_nextInn_6 : decode cX7_nextInn 6 = .ok (.iadd, 1) := by decide +kernel
theorem dX7_nextInn_7 : decode cX7_nextInn 7 = .ok (.ireturn, 1) := by decide +kernel
theorem dX7_milesBetween_0 : decode cX7_milesBetween 0 = .ok (.iload_n 1, 1) := by decide +kernel
theorem dX7_milesBetween_1 : decode cX7_milesBetween 1 = .ok (.iload_n 2, 1) := by decide +kernel
theorem dX7_milesBetween_2 : decode cX7_milesBetween 2 = .ok (.invokestatic 52, 3) := by decide +kernel
theorem dX7_milesBetween_5 : decode cX7_milesBetween 5 = .ok (.istore_n 3, 1) := by decide +kernel
theorem dX7_milesBetween_6 : decode cX7_milesBetween 6 = .ok (.aload_n 0, 1) := by decide +kernel
theorem dX7_milesBetween_7 : decode cX7_milesBetween 7 = .ok (.iload_n 3, 1) := by decide +kernel
theorem dX7_milesBetween_8 : decode cX7_milesBetween 8 = .ok (.invokevirtual 57, 3) := by decide +kernel
theorem dX7_milesBetween_11 : decode cX7_milesBetween 11 = .ok (.ifCond .eq 12, 3) := by decide +kernel
theorem dX7_milesBetween_14 : decode cX7_milesBetween 14 = .ok (.aload_n 0, 1) := by decide +kernel
theorem dX7_milesBetween_15 : decode cX7_milesBetween 15 = .ok (.getfield 9, 3) := by decide +kernel
theorem dX7_milesBetween_18 : decode cX7_milesBetween 18 = .ok (.iload_n 3, 1) := by decide +kernel
theorem dX7_milesBetween_19 : decode cX7_milesBetween 19 = .ok (.iaload, 1) := by decide +kernel
theorem dX7_milesBetween_20 : decode cX7_milesBetween 20 = .ok (.goto 4, 3) := by decide +kernel
theorem dX7_milesBetween_23 : decode cX7_milesBetween 23 = .ok (.iconst 0, 1) := by decide +kernel
theorem dX7_milesBetween_24 : decode cX7_milesBetween 24 = .ok (.ireturn, 1) := by decide +kernel
theorem dX8_init_0 : decode cX8_init 0 = .ok (.aload_n 0, 1) := by decide +kernel
theorem dX8_init_1 : decode cX8_init 1 = .ok (.invokespecial 3, 3) := by decide +kernel
theorem dX8_init_4 : decode cX8_init 4 = .ok (.aload_n 0, 1) := by decide +kernel
theorem dX8_init_5 : decode cX8_init 5 = .ok (.iconst 4, 1) := by decide +kernel
theorem dX8_init_6 : decode cX8_init 6 = .ok (.anewarray 9, 3) := by decide +kernel
theorem dX8_init_9 : decode cX8_init 9 = .ok (.putfield 11, 3) := by decide +kernel
theorem dX8_init_12 : decode cX8_init 12 = .ok (.iconst 0, 1) := by decide +kernel
theorem dX8_init_13 : decode cX8_init 13 = .ok (.istore_n 1, 1) := by decide +kernel
theorem dX8_init_14 : decode cX8_init 14 = .ok (.iload_n 1, 1) := by decide +kernel
theorem dX8_init_15 : decode cX8_init 15 = .ok (.aload_n 0, 1) := by decide +kernel
theorem dX8_init_16 : decode cX8_init 16 = .ok (.getfield 11, 3) := by decide +kernel
theorem dX8_init_19 : decode cX8_init 19 = .ok (.arraylength, 1) := by decide +kernel
theorem dX8_init_20 : decode cX8_init 20 = .ok (.if_icmp .ge 22, 3) := by decide +kernel
theorem dX8_init_23 : decode cX8_init 23 = .ok (.aload_n 0, 1) := by decide +kernel
theorem dX8_init_24 : decode cX8_init 24 = .ok (.getfield 11, 3) := by decide +kernel
theorem dX8_init_27 : decode cX8_init 27 = .ok (.iload_n 1, 1) := by decide +kernel
theorem dX8_init_28 : decode cX8_init 28 = .ok (.new 9, 3) := by decide +kernel
theorem dX8_init_31 : decode cX8_init 31 = .ok (.dup, 1) := by decide +kernel
theorem dX8_init_32 : decode cX8_init 32 = .ok (.invokespecial 17, 3) := by decide +kernel
theorem dX8_init_35 : decode cX8_init 35 = .ok (.aastore, 1) := by decide +kernel
theorem dX8_init_36 : decode cX8_init 36 = .ok (.iinc 1 1, 3) := by decide +kernel
theorem dX8_init_39 : decode cX8_init 39 = .ok (.goto (-25), 3) := by decide +kernel
theorem dX8_init_42 : decode cX8_init 42 = .ok (.return_, 1) := by decide +kernel
theorem dX8_hasPlace_0 : decode cX8_hasPlace 0 = .ok (.iload_n 1, 1) := by decide +kernel
theorem dX8_hasPlace_1 : decode cX8_hasPlace 1 = .ok (.ifCond .lt 12, 3) := by decide +kernel
theorem dX8_hasPlace_4 : decode cX8_hasPlace 4 = .ok (.iload_n 1, 1) := by decide +kernel
theorem dX8_hasPlace_5 : decode cX8_hasPlace 5 = .ok (.iconst 4, 1) := by decide +kernel
theorem dX8_hasPlace_6 : decode cX8_hasPlace 6 = .ok (.if_icmp .ge 7, 3) := by decide +kernel
theorem dX8_hasPlace_9 : decode cX8_hasPlace 9 = .ok (.iconst 1, 1) := by decide +kernel
theorem dX8_hasPlace_10 : decode cX8_hasPlace 10 = .ok (.goto 4, 3) := by decide +kernel
theorem dX8_hasPlace_13 : decode cX8_hasPlace 13 = .ok (.iconst 0, 1) := by decide +kernel
theorem dX8_hasPlace_14 : decode cX8_hasPlace 14 = .ok (.ireturn, 1) := by decide +kernel
theorem dX8_closeAll_0 : decode cX8_closeAll 0 = .ok (.iconst 0, 1) := by decide +kernel
theorem dX8_closeAll_1 : decode cX8_closeAll 1 = .ok (.istore_n 1, 1) := by decide +kernel
theorem dX8_closeAll_2 : decode cX8_closeAll 2 = .ok (.iload_n 1, 1) := by decide +kernel
theorem dX8_closeAll_3 : decode cX8_closeAll 3 = .ok (.iconst 4, 1) := by decide +kernel
theorem dX8_closeAll_4 : decode cX8_closeAll 4 = .ok (.if_icmp .ge 18, 3) := by decide +kernel
theorem dX8_closeAll_7 : decode cX8_closeAll 7 = .ok (.aload_n 0, 1) := by decide +kernel
theorem dX8_closeAll_8 : decode cX8_closeAll 8 = .ok (.getfield 11, 3) := by decide +kernel
theorem dX8_closeAll_11 : decode cX8_closeAll 11 = .ok (.iload_n 1, 1) := by decide +kernel
theorem dX8_closeAll_12 : decode cX8_closeAll 12 = .ok (.aaload, 1) := by decide +kernel
theorem dX8_closeAll_13 : decode cX8_closeAll 13 = .ok (.invokevirtual 18, 3) := by decide +kernel
theorem dX8_closeAll_16 : decode cX8_closeAll 16 = .ok (.iinc 1 1, 3) := by decide +kernel
theorem dX8_closeAll_19 : decode cX8_closeAll 19 = .ok (.goto (-17), 3) := by decide +kernel
theorem dX8_closeAll_22 : decode cX8_closeAll 22 = .ok (.return_, 1) := by decide +kernel
theorem dX8_openBooks_0 : decode cX8_openBooks 0 = .ok (.iconst 0, 1) := by decide +kernel
theorem dX8_openBooks_1 : decode cX8_openBooks 1 = .ok (.istore_n 1, 1) := by decide +kernel
theorem dX8_openBooks_2 : decode cX8_openBooks 2 = .ok (.iconst 0, 1) := by decide +kernel
theorem dX8_openBooks_3 : decode cX8_openBooks 3 = .ok (.istore_n 2, 1) := by decide +kernel
theorem dX8_openBooks_4 : decode cX8_openBooks 4 = .ok (.iload_n 2, 1) := by decide +kernel
theorem dX8_openBooks_5 : decode cX8_openBooks 5 = .ok (.iconst 4, 1) := by decide +kernel
theorem dX8_openBooks_6 : decode cX8_openBooks 6 = .ok (.if_icmp .ge 24, 3) := by decide +kernel
theorem dX8_openBooks_9 : decode cX8_openBooks 9 = .ok (.aload_n 0, 1) := by decide +kernel
theorem dX8_openBooks_10 : decode cX8_openBooks 10 = .ok (.getfield 11, 3) := by decide +kernel
theorem dX8_openBooks_13 : decode cX8_openBooks 13 = .ok (.iload_n 2, 1) := by decide +kernel
theorem dX8_openBooks_14 : decode cX8_openBooks 14 = .ok (.aaload, 1) := by decide +kernel
theorem dX8_openBooks_15 : decode cX8_openBooks 15 = .ok (.invokevirtual 21, 3) := by decide +kernel
theorem dX8_openBooks_18 : decode cX8_openBooks 18 = .ok (.ifCond .ne 6, 3) := by decide +kernel
theorem dX8_openBooks_21 : decode cX8_openBooks 21 = .ok (.iinc 1 1, 3) := by decide +kernel
theorem dX8_openBooks_24 : decode cX8_openBooks 24 = .ok (.iinc 2 1, 3) := by decide +kernel
theorem dX8_openBooks_27 : decode cX8_openBooks 27 = .ok (.goto (-23), 3) := by decide +kernel
theorem dX8_openBooks_30 : decode cX8_openBooks 30 = .ok (.iload_n 1, 1) := by decide +kernel
theorem dX8_openBooks_31 : decode cX8_openBooks 31 = .ok (.ireturn, 1) := by decide +kernel
theorem dX8_reachFrom_0 : decode cX8_reachFrom 0 = .ok (.iconst 1, 1) := by decide +kernel
theorem dX8_reachFrom_1 : decode cX8_reachFrom 1 = .ok (.iload_n 1, 1) := by decide +kernel
theorem dX8_reachFrom_2 : decode cX8_reachFrom 2 = .ok (.ishl, 1) := by decide +kernel
theorem dX8_reachFrom_3 : decode cX8_reachFrom 3 = .ok (.istore_n 2, 1) := by decide +kernel
theorem dX8_reachFrom_4 : decode cX8_reachFrom 4 = .ok (.iconst 1, 1) := by decide +kernel
theorem dX8_reachFrom_5 : decode cX8_reachFrom 5 = .ok (.istore_n 3, 1) := by decide +kernel
theorem dX8_reachFrom_6 : decode cX8_reachFrom 6 = .ok (.iload_n 3, 1) := by decide +kernel
theorem dX8_reachFrom_7 : decode cX8_reachFrom 7 = .ok (.iconst 4, 1) := by decide +kernel
theorem dX8_reachFrom_8 : decode cX8_reachFrom 8 = .ok (.if_icmp .ge 17, 3) := by decide +kernel
theorem dX8_reachFrom_11 : decode cX8_reachFrom 11 = .ok (.iload_n 2, 1) := by decide +kernel
theorem dX8_reachFrom_12 : decode cX8_reachFrom 12 = .ok (.aload_n 0, 1) := by decide +kernel
theorem dX8_reachFrom_13 : decode cX8_reachFrom 13 = .ok (.iload_n 2, 1) := by decide +kernel
theorem dX8_reachFrom_14 : decode cX8_reachFrom 14 = .ok (.invokevirtual 25, 3) := by decide +kernel
theorem dX8_reachFrom_17 : decode cX8_reachFrom 17 = .ok (.ior, 1) := by decide +kernel
theorem dX8_reachFrom_18 : decode cX8_reachFrom 18 = .ok (.istore_n 2, 1) := by decide +kernel
theorem dX8_reachFrom_19 : decode cX8_reachFrom 19 = .ok (.iinc 3 1, 3) := by decide +kernel
theorem dX8_reachFrom_22 : decode cX8_reachFrom 22 = .ok (.goto (-16), 3) := by decide +kernel
theorem dX8_reachFrom_25 : decode cX8_reachFrom 25 = .ok (.iload_n 2, 1) := by decide +kernel
theorem dX8_reachFrom_26 : decode cX8_reachFrom 26 = .ok (.ireturn, 1) := by decide +kernel
theorem dX8_toldByAll_0 : decode cX8_toldByAll 0 = .ok (.iconst 0, 1) := by decide +kernel
theorem dX8_toldByAll_1 : decode cX8_toldByAll 1 = .ok (.istore_n 2, 1) := by decide +kernel
theorem dX8_toldByAll_2 : decode cX8_toldByAll 2 = .ok (.iconst 0, 1) := by decide +kernel
theorem dX8_toldByAll_3 : decode cX8_toldByAll 3 = .ok (.istore_n 3, 1) := by decide +kernel
theorem dX8_toldByAll_4 : decode cX8_toldByAll 4 = .ok (.iload_n 3, 1) := by decide +kernel
theorem dX8_toldByAll_5 : decode cX8_toldByAll 5 = .ok (.iconst 4, 1) := by decide +kernel
theorem dX8_toldByAll_6 : decode cX8_toldByAll 6 = .ok (.if_icmp .ge 29, 3) := by decide +kernel
theorem dX8_toldByAll_9 : decode cX8_toldByAll 9 = .ok (.iload_n 1, 1) := by decide +kernel
theorem dX8_toldByAll_10 : decode cX8_toldByAll 10 = .ok (.iload_n 3, 1) := by decide +kernel
theorem dX8_toldByAll_11 : decode cX8_toldByAll 11 = .ok (.ishr, 1) := by decide +kernel
theorem dX8_toldByAll_12 : decode cX8_toldByAll 12 = .ok (.iconst 1, 1) := by decide +kernel
theorem dX8_toldByAll_13 : decode cX8_toldByAll 13 = .ok (.iand, 1) := by decide +kernel
theorem dX8_toldByAll_14 : decode cX8_toldByAll 14 = .ok (.ifCond .eq 15, 3) := by decide +kernel
theorem dX8_toldByAll_17 : decode cX8_toldByAll 17 = .ok (.iload_n 2, 1) := by decide +kernel
theorem dX8_toldByAll_18 : decode cX8_toldByAll 18 = .ok (.aload_n 0, 1) := by decide +kernel
theorem dX8_toldByAll_19 : decode cX8_toldByAll 19 = .ok (.getfield 11, 3) := by decide +kernel
theorem dX8_toldByAll_22 : decode cX8_toldByAll 22 = .ok (.iload_n 3, 1) := by decide +kernel
theorem dX8_toldByAll_23 : decode cX8_toldByAll 23 = .ok (.aaload, 1) := by decide +kernel
theorem dX8_toldByAll_24 : decode cX8_toldByAll 24 = .ok (.invokevirtual 29, 3) := by decide +kernel
theorem dX8_toldByAll_27 : decode cX8_toldByAll 27 = .ok (.ior, 1) := by decide +kernel
theorem dX8_toldByAll_28 : decode cX8_toldByAll 28 = .ok (.istore_n 2, 1) := by decide +kernel
theorem dX8_toldByAll_29 : decode cX8_toldByAll 29 = .ok (.iinc 3 1, 3) := by decide +kernel
theorem dX8_toldByAll_32 : decode cX8_toldByAll 32 = .ok (.goto (-28), 3) := by decide +kernel
theorem dX8_toldByAll_35 : decode cX8_toldByAll 35 = .ok (.aload_n 0, 1) := by decide +kernel
theorem dX8_toldByAll_36 : decode cX8_toldByAll 36 = .ok (.iload_n 2, 1) := by decide +kernel
theorem dX8_toldByAll_37 : decode cX8_toldByAll 37 = .ok (.invokevirtual 33, 3) := by decide +kernel
theorem dX8_toldByAll_40 : decode cX8_toldByAll 40 = .ok (.ireturn, 1) := by decide +kernel
theorem dX8_withoutMissing_0 : decode cX8_withoutMissing 0 = .ok (.iload_n 1, 1) := by decide +kernel
theorem dX8_withoutMissing_1 : decode cX8_withoutMissing 1 = .ok (.istore_n 2, 1) := by decide +kernel
theorem dX8_withoutMissing_2 : decode cX8_withoutMissing 2 = .ok (.iconst 0, 1) := by decide +kernel
theorem dX8_withoutMissing_3 : decode cX8_withoutMissing 3 = .ok (.istore_n 3, 1) := by decide +kernel
theorem dX8_withoutMissing_4 : decode cX8_withoutMissing 4 = .ok (.iload_n 3, 1) := by decide +kernel
theorem dX8_withoutMissing_5 : decode cX8_withoutMissing 5 = .ok (.iconst 4, 1) := by decide +kernel
theorem dX8_withoutMissing_6 : decode cX8_withoutMissing 6 = .ok (.if_icmp .ge 29, 3) := by decide +kernel
theorem dX8_withoutMissing_9 : decode cX8_withoutMissing 9 = .ok (.aload_n 0, 1) := by decide +kernel
theorem dX8_withoutMissing_10 : decode cX8_withoutMissing 10 = .ok (.getfield 11, 3) := by decide +kernel
theorem dX8_withoutMissing_13 : decode cX8_withoutMissing 13 = .ok (.iload_n 3, 1) := by decide +kernel
theorem dX8_withoutMissing_14 : decode cX8_withoutMissing 14 = .ok (.aaload, 1) := by decide +kernel
theorem dX8_withoutMissing_15 : decode cX8_withoutMissing 15 = .ok (.invokevirtual 21, 3) := by decide +kernel
theorem dX8_withoutMissing_18 : decode cX8_withoutMissing 18 = .ok (.ifCond .eq 11, 3) := by decide +kernel
theorem dX8_withoutMissing_21 : decode cX8_withoutMissing 21 = .ok (.iload_n 2, 1) := by decide +kernel
theorem dX8_withoutMissing_22 : decode cX8_withoutMissing 22 = .ok (.iconst 1, 1) := by decide +kernel
theorem dX8_withoutMissing_23 : decode cX8_withoutMissing 23 = .ok (.iload_n 3, 1) := by decide +kernel
theorem dX8_withoutMissing_24 : decode cX8_withoutMissing 24 = .ok (.ishl, 1) := by decide +kernel
theorem dX8_withoutMissing_25 : decode cX8_withoutMissing 25 = .ok (.iconst (-1), 1) := by decide +kernel
theorem dX8_withoutMissing_26 : decode cX8_withoutMissing 26 = .ok (.ixor, 1) := by decide +kernel
theorem dX8_withoutMissing_27 : decode cX8_withoutMissing 27 = .ok (.iand, 1) := by decide +kernel
theorem dX8_withoutMissing_28 : decode cX8_withoutMissing 28 = .ok (.istore_n 2, 1) := by decide +kernel
theorem dX8_withoutMissing_29 : decode cX8_withoutMissing 29 = .ok (.iinc 3 1, 3) := by decide +kernel
theorem dX8_withoutMissing_32 : decode cX8_withoutMissing 32 = .ok (.goto (-28), 3) := by decide +kernel
theorem dX8_withoutMissing_35 : decode cX8_withoutMissing 35 = .ok (.iload_n 2, 1) := by decide +kernel
theorem dX8_withoutMissing_36 : decode cX8_withoutMissing 36 = .ok (.ireturn, 1) := by decide +kernel
theorem dX8_weightOf_0 : decode cX8_weightOf 0 = .ok (.ldc 36, 2) := by decide +kernel
theorem dX8_weightOf_2 : decode cX8_weightOf 2 = .ok (.istore_n 2, 1) := by decide +kernel
theorem dX8_weightOf_3 : decode cX8_weightOf 3 = .ok (.iconst 0, 1) := by decide +kernel
theorem dX8_weightOf_4 : decode cX8_weightOf 4 = .ok (.istore_n 3, 1) := by decide +kernel
theorem dX8_weightOf_5 : decode cX8_weightOf 5 = .ok (.iload_n 3, 1) := by decide +kernel
theorem dX8_weightOf_6 : decode cX8_weightOf 6 = .ok (.iconst 4, 1) := by decide +kernel
theorem dX8_weightOf_7 : decode cX8_weightOf 7 = .ok (.if_icmp .ge 29, 3) := by decide +kernel
theorem dX8_weightOf_10 : decode cX8_weightOf 10 = .ok (.iload_n 1, 1) := by decide +kernel
theorem dX8_weightOf_11 : decode cX8_weightOf 11 = .ok (.iload_n 3, 1) := by decide +kernel
theorem dX8_weightOf_12 : decode cX8_weightOf 12 = .ok (.ishr, 1) := by decide +kernel
theorem dX8_weightOf_13 : decode cX8_weightOf 13 = .ok (.iconst 1, 1) := by decide +kernel
theorem dX8_weightOf_14 : decode cX8_weightOf 14 = .ok (.iand, 1) := by decide +kernel
theorem dX8_weightOf_15 : decode cX8_weightOf 15 = .ok (.ifCond .eq 15, 3) := by decide +kernel
theorem dX8_weightOf_18 : decode cX8_weightOf 18 = .ok (.iload_n 2, 1) := by decide +kernel
theorem dX8_weightOf_19 : decode cX8_weightOf 19 = .ok (.aload_n 0, 1) := by decide +kernel
theorem dX8_weightOf_20 : decode cX8_weightOf 20 = .ok (.getfield 11, 3) := by decide +kernel
theorem dX8_weightOf_23 : decode cX8_weightOf 23 = .ok (.iload_n 3, 1) := by decide +kernel
theorem dX8_weightOf_24 : decode cX8_weightOf 24 = .ok (.aaload, 1) := by decide +kernel
theorem dX8_weightOf_25 : decode cX8_weightOf 25 = .ok (.invokevirtual 37, 3) := by decide +kernel
theorem dX8_weightOf_28 : decode cX8_weightOf 28 = .ok (.iadd, 1) := by decide +kernel
theorem dX8_weightOf_29 : decode cX8_weightOf 29 = .ok (.istore_n 2, 1) := by decide +kernel
theorem dX8_weightOf_30 : decode cX8_weightOf 30 = .ok (.iinc 3 1, 3) := by decide +kernel
theorem dX8_weightOf_33 : decode cX8_weightOf 33 = .ok (.goto (-28), 3) := by decide +kernel
theorem dX8_weightOf_36 : decode cX8_weightOf 36 = .ok (.iload_n 2, 1) := by decide +kernel
theorem dX8_weightOf_37 : decode cX8_weightOf 37 = .ok (.ireturn, 1) := by decide +kernel
theorem dX9_init_0 : decode cX9_init 0 = .ok (.aload_n 0, 1) := by decide +kernel
theorem dX9_init_1 : decode cX9_init 1 = .ok (.invokespecial 3, 3) := by decide +kernel
theorem dX9_init_4 : decode cX9_init 4 = .ok (.aload_n 0, 1) := by decide +kernel
theorem dX9_init_5 : decode cX9_init 5 = .ok (.bipush 6, 2) := by decide +kernel
theorem dX9_init_7 : decode cX9_init 7 = .ok (.newarray .int, 2) := by decide +kernel
theorem dX9_init_9 : decode cX9_init 9 = .ok (.putfield 11, 3) := by decide +kernel
theorem dX9_init_12 : decode cX9_init 12 = .ok (.aload_n 0, 1) := by decide +kernel
theorem dX9_init_13 : decode cX9_init 13 = .ok (.bipush 6, 2) := by decide +kernel
theorem dX9_init_15 : decode cX9_init 15 = .ok (.newarray .int, 2) := by decide +kernel
theorem dX9_init_17 : decode cX9_init 17 = .ok (.putfield 15, 3) := by decide +kernel
theorem dX9_init_20 : decode cX9_init 20 = .ok (.aload_n 0, 1) := by decide +kernel
theorem dX9_init_21 : decode cX9_init 21 = .ok (.bipush 6, 2) := by decide +kernel
theorem dX9_init_23 : decode cX9_init 23 = .ok (.newarray .int, 2) := by decide +kernel
theorem dX9_init_25 : decode cX9_init 25 = .ok (.putfield 18, 3) := by decide +kernel
theorem dX9_init_28 : decode cX9_init 28 = .ok (.return_, 1) := by decide +kernel
theorem dX9_append_0 : decode cX9_append 0 = .ok (.aload_n 0, 1) := by decide +kernel
theorem dX9_append_1 : decode cX9_append 1 = .ok (.getfield 21, 3) := by decide +kernel
theorem dX9_append_4 : decode cX9_append 4 = .ok (.bipush 6, 2) := by decide +kernel
theorem dX9_append_6 : decode cX9_append 6 = .ok (.if_icmp .ge 43, 3) := by decide +kernel
theorem dX9_append_9 : decode cX9_append 9 = .ok (.aload_n 0, 1) := by decide +kernel
theorem dX9_append_10 : decode cX9_append 10 = .ok (.getfield 11, 3) := by decide +kernel
theorem dX9_append_13 : decode cX9_append 13 = .ok (.aload_n 0, 1) := by decide +kernel
theorem dX9_append_14 : decode cX9_append 14 = .ok (.getfield 21, 3) := by decide +kernel
theorem dX9_append_17 : decode cX9_append 17 = .ok (.iload_n 1, 1) := by decide +kernel
theorem dX9_append_18 : decode cX9_append 18 = .ok (.iastore, 1) := by decide +kernel
theorem dX9_append_19 : decode cX9_append 19 = .ok (.aload_n 0, 1) := by decide +kernel
theorem dX9_append_20 : decode cX9_append 20 = .ok (.getfield 15, 3) := by decide +kernel
theorem dX9_append_23 : decode cX9_append 23 = .ok (.aload_n 0, 1) := by decide +kernel
theorem dX9_append_24 : decode cX9_append 24 = .ok (.getfield 21, 3) := by decide +kernel
theorem dX9_append_27 : decode cX9_append 27 = .ok (.iload_n 2, 1) := by decide +kernel
theorem dX9_append_28 : decode cX9_append 28 = .ok (.iastore, 1) := by decide +kernel
theorem dX9_append_29 : decode cX9_append 29 = .ok (.aload_n 0, 1) := by decide +kernel
theorem dX9_append_30 : decode cX9_append 30 = .ok (.getfield 18, 3) := by decide +kernel
theorem dX9_append_33 : decode cX9_append 33 = .ok (.aload_n 0, 1) := by decide +kernel
theorem dX9_append_34 : decode cX9_append 34 = .ok (.getfield 21, 3) := by decide +kernel
theorem dX9_append_37 : decode cX9_append 37 = .ok (.iload_n 3, 1) := by decide +kernel
theorem dX9_append_38 : decode cX9_append 38 = .ok (.iastore, 1) := by decide +kernel
theorem dX9_append_39 : decode cX9_append 39 = .ok (.aload_n 0, 1) := by decide +kernel
theorem dX9_append_40 : decode cX9_append 40 = .ok (.dup, 1) := by decide +kernel
theorem dX9_append_41 : decode cX9_append 41 = .ok (.getfield 21, 3) := by decide +kernel
theorem dX9_append_44 : decode cX9_append 44 = .ok (.iconst 1, 1) := by decide +kernel
theorem dX9_append_45 : decode cX9_append 45 = .ok (.iadd, 1) := by decide +kernel
theorem dX9_append_46 : decode cX9_append 46 = .ok (.putfield 21, 3) := by decide +kernel
theorem dX9_append_49 : decode cX9_append 49 = .ok (.return_, 1) := by decide +kernel
theorem dX9_clear_0 : decode cX9_clear 0 = .ok (.aload_n 0, 1) := by decide +kernel
theorem dX9_clear_1 : decode cX9_clear 1 = .ok (.iconst 0, 1) := by decide +kernel
theorem dX9_clear_2 : decode cX9_clear 2 = .ok (.putfield 21, 3) := by decide +kernel
theorem dX9_clear_5 : decode cX9_clear 5 = .ok (.return_, 1) := by decide +kernel
theorem dX9_fittingKinds_0 : decode cX9_fittingKinds 0 = .ok (.iconst 0, 1) := by decide +kernel
theorem dX9_fittingKinds_1 : decode cX9_fittingKinds 1 = .ok (.istore_n 1, 1) := by decide +kernel
theorem dX9_fittingKinds_2 : decode cX9_fittingKinds 2 = .ok (.iconst 0, 1) := by decide +kernel
theorem dX9_fittingKinds_3 : decode cX9_fittingKinds 3 = .ok (.istore_n 2, 1) := by decide +kernel
theorem dX9_fittingKinds_4 : decode cX9_fittingKinds 4 = .ok (.iload_n 2, 1) := by decide +kernel
theorem dX9_fittingKinds_5 : decode cX9_fittingKinds 5 = .ok (.iconst 5, 1) := by decide +kernel
theorem dX9_fittingKinds_6 : decode cX9_fittingKinds 6 = .ok (.if_icmp .ge 23, 3) := by decide +kernel
theorem dX9_fittingKinds_9 : decode cX9_fittingKinds 9 = .ok (.aload_n 0, 1) := by decide +kernel
theorem dX9_fittingKinds_10 : decode cX9_fittingKinds 10 = .ok (.iload_n 2, 1) := by decide +kernel
theorem dX9_fittingKinds_11 : decode cX9_fittingKinds 11 = .ok (.invokevirtual 27, 3) := by decide +kernel
theorem dX9_fittingKinds_14 : decode cX9_fittingKinds 14 = .ok (.ifCond .eq 9, 3) := by decide +kernel
theorem dX9_fittingKinds_17 : decode cX9_fittingKinds 17 = .ok (.iload_n 1, 1) := by decide +kernel
theorem dX9_fittingKinds_18 : decode cX9_fittingKinds 18 = .ok (.iconst 1, 1) := by decide +kernel
theorem dX9_fittingKinds_19 : decode cX9_fittingKinds 19 = .ok (.iload_n 2, 1) := by decide +kernel
theorem dX9_fittingKinds_20 : decode cX9_fittingKinds 20 = .ok (.ishl, 1) := by decide +kernel
theorem dX9_fittingKinds_21 : decode cX9_fittingKinds 21 = .ok (.ior, 1) := by decide +kernel
theorem dX9_fittingKinds_22 : decode cX9_fittingKinds 22 = .ok (.istore_n 1, 1) := by decide +kernel
theorem dX9_fittingKinds_23 : decode cX9_fittingKinds 23 = .ok (.iinc 2 1, 3) := by decide +kernel
theorem dX9_fittingKinds_26 : decode cX9_fittingKinds 26 = .ok (.goto (-22), 3) := by decide +kernel
theorem dX9_fittingKinds_29 : decode cX9_fittingKinds 29 = .ok (.iload_n 1, 1) := by decide +kernel
theorem dX9_fittingKinds_30 : decode cX9_fittingKinds 30 = .ok (.ireturn, 1) := by decide +kernel
theorem dX9_fits_0 : decode cX9_fits 0 = .ok (.iconst 0, 1) := by decide +kernel
theorem dX9_fits_1 : decode cX9_fits 1 = .ok (.istore_n 2, 1) := by decide +kernel
theorem dX9_fits_2 : decode cX9_fits 2 = .ok (.iload_n 2, 1) := by decide +kernel
theorem dX9_fits_3 : decode cX9_fits 3 = .ok (.aload_n 0, 1) := by decide +kernel
theorem dX9_fits_4 : decode cX9_fits 4 = .ok (.getfield 21, 3) := by decide +kernel
theorem dX9_fits_7 : decode cX9_fits 7 = .ok (.if_icmp .ge 49, 3) := by decide +kernel
theorem dX9_fits_10 : decode cX9_fits 10 = .ok (.iload_n 1, 1) := by decide +kernel
theorem dX9_fits_11 : decode cX9_fits 11 = .ok (.aload_n 0, 1) := by decide +kernel
theorem dX9_fits_12 : decode cX9_fits 12 = .ok (.getfield 11, 3) := by decide +kernel
theorem dX9_fits_15 : decode cX9_fits 15 = .ok (.iload_n 2, 1) := by decide +kernel
theorem dX9_fits_16 : decode cX9_fits 16 = .ok (.iaload, 1) := by decide +kernel
theorem dX9_fits_17 : decode cX9_fits 17 = .ok (.invokestatic 31, 3) := by decide +kernel
theorem dX9_fits_20 : decode cX9_fits 20 = .ok (.aload_n 0, 1) := by decide +kernel
theorem dX9_fits_21 : decode cX9_fits 21 = .ok (.getfield 15, 3) := by decide +kernel
theorem dX9_fits_24 : decode cX9_fits 24 = .ok (.iload_n 2, 1) := by decide +kernel
theorem dX9_fits_25 : decode cX9_fits 25 = .ok (.iaload, 1) := by decide +kernel
theorem dX9_fits_26 : decode cX9_fits 26 = .ok (.if_icmp .ne 22, 3) := by decide +kernel
theorem dX9_fits_29 : decode cX9_fits 29 = .ok (.iload_n 1, 1) := by decide +kernel
theorem dX9_fits_30 : decode cX9_fits 30 = .ok (.aload_n 0, 1) := by decide +kernel
theorem dX9_fits_31 : decode cX9_fits 31 = .ok (.getfield 11, 3) := by decide +kernel
theorem dX9_fits_34 : decode cX9_fits 34 = .ok (.iload_n 2, 1) := by decide +kernel
theorem dX9_fits_35 : decode cX9_fits 35 = .ok (.iaload, 1) := by decide +kernel
theorem dX9_fits_36 : decode cX9_fits 36 = .ok (.invokestatic 35, 3) := by decide +kernel
theorem dX9_fits_39 : decode cX9_fits 39 = .ok (.aload_n 0, 1) := by decide +kernel
theorem dX9_fits_40 : decode cX9_fits 40 = .ok (.getfield 18, 3) := by decide +kernel
theorem dX9_fits_43 : decode cX9_fits 43 = .ok (.iload_n 2, 1) := by decide +kernel
theorem dX9_fits_44 : decode cX9_fits 44 = .ok (.iaload, 1) := by decide +kernel
theorem dX9_fits_45 : decode cX9_fits 45 = .ok (.if_icmp .eq 5, 3) := by decide +kernel
theorem dX9_fits_48 : decode cX9_fits 48 = .ok (.iconst 0, 1) := by decide +kernel
theorem dX9_fits_49 : decode cX9_fits 49 = .ok (.ireturn, 1) := by decide +kernel
theorem dX9_fits_50 : decode cX9_fits 50 = .ok (.iinc 2 1, 3) := by decide +kernel
theorem dX9_fits_53 : decode cX9_fits 53 = .ok (.goto (-51), 3) := by decide +kernel
theorem dX9_fits_56 : decode cX9_fits 56 = .ok (.iconst 1, 1) := by decide +kernel
theorem dX9_fits_57 : decode cX9_fits 57 = .ok (.ireturn, 1) := by decide +kernel
theorem dX9_bestMiles_0 : decode cX9_bestMiles 0 = .ok (.aload_n 0, 1) := by decide +kernel
theorem dX9_bestMiles_1 : decode cX9_bestMiles 1 = .ok (.invokevirtual 38, 3) := by decide +kernel
theorem dX9_bestMiles_4 : decode cX9_bestMiles 4 = .ok (.istore_n 1, 1) := by decide +kernel
theorem dX9_bestMiles_5 : decode cX9_bestMiles 5 = .ok (.iconst (-1), 1) := by decide +kernel
theorem dX9_bestMiles_6 : decode cX9_bestMiles 6 = .ok (.istore_n 2, 1) := by decide +kernel
theorem dX9_bestMiles_7 : decode cX9_bestMiles 7 = .ok (.iload_n 1, 1) := by decide +kernel
theorem dX9_bestMiles_8 : decode cX9_bestMiles 8 = .ok (.invokestatic 42, 3) := by decide +kernel
theorem dX9_bestMiles_11 : decode cX9_bestMiles 11 = .ok (.istore_n 3, 1) := by decide +kernel
theorem dX9_bestMiles_12 : decode cX9_bestMiles 12 = .ok (.iconst 1, 1) := by decide +kernel
theorem dX9_bestMiles_13 : decode cX9_bestMiles 13 = .ok (.istore 4, 2) := by decide +kernel
theorem dX9_bestMiles_15 : decode cX9_bestMiles 15 = .ok (.iload 4, 2) := by decide +kernel
theorem dX9_bestMiles_17 : decode cX9_bestMiles 17 = .ok (.bipush 9, 2) := by decide +kernel
theorem dX9_bestMiles_19 : decode cX9_bestMiles 19 = .ok (.if_icmp .gt 29, 3) := by decide +kernel
theorem dX9_bestMiles_22 : decode cX9_bestMiles 22 = .ok (.iload_n 1, 1) := by decide +kernel
theorem dX9_bestMiles_23 : decode cX9_bestMiles 23 = .ok (.iload 4, 2) := by decide +kernel
theorem dX9_bestMiles_25 : decode cX9_bestMiles 25 = .ok (.invokestatic 48, 3) := by decide +kernel
theorem dX9_bestMiles_28 : decode cX9_bestMiles 28 = .ok (.istore 5, 2) := by decide +kernel
theorem dX9_bestMiles_30 : decode cX9_bestMiles 30 = .ok (.iload 5, 2) := by decide +kernel
theorem dX9_bestMiles_32 : decode cX9_bestMiles 32 = .ok (.iload_n 3, 1) := by decide +kernel
theorem dX9_bestMiles_33 : decode cX9_bestMiles 33 = .ok (.if_icmp .ge 9, 3) := by decide +kernel
theorem dX9_bestMiles_36 : decode cX9_bestMiles 36 = .ok (.iload 5, 2) := by decide +kernel
theorem dX9_bestMiles_38 : decode cX9_bestMiles 38 = .ok (.istore_n 3, 1) := by decide +kernel
theorem dX9_bestMiles_39 : decode cX9_bestMiles 39 = .ok (.iload 4, 2) := by decide +kernel
theorem dX9_bestMiles_41 : decode cX9_bestMiles 41 = .ok (.istore_n 2, 1) := by decide +kernel
theorem dX9_bestMiles_42 : decode cX9_bestMiles 42 = .ok (.iinc 4 1, 3) := by decide +kernel
theorem dX9_bestMiles_45 : decode cX9_bestMiles 45 = .ok (.goto (-30), 3) := by decide +kernel
theorem dX9_bestMiles_48 : decode cX9_bestMiles 48 = .ok (.iload_n 2, 1) := by decide +kernel
theorem dX9_bestMiles_49 : decode cX9_bestMiles 49 = .ok (.ireturn, 1) := by decide +kernel
theorem dX9_greatestPart_0 : decode cX9_greatestPart 0 = .ok (.iconst 0, 1) := by decide +kernel
theorem dX9_greatestPart_1 : decode cX9_greatestPart 1 = .ok (.istore_n 2, 1) := by decide +kernel
theorem dX9_greatestPart_2 : decode cX9_greatestPart 2 = .ok (.iconst 0, 1) := by decide +kernel
theorem dX9_greatestPart_3 : decode cX9_greatestPart 3 = .ok (.istore_n 3, 1) := by decide +kernel
theorem dX9_greatestPart_4 : decode cX9_greatestPart 4 = .ok (.iload_n 3, 1) := by decide +kernel
theorem dX9_greatestPart_5 : decode cX9_greatestPart 5 = .ok (.iconst 5, 1) := by decide +kernel
theorem dX9_greatestPart_6 : decode cX9_greatestPart 6 = .ok (.if_icmp .ge 28, 3) := by decide +kernel
theorem dX9_greatestPart_9 : decode cX9_greatestPart 9 = .ok (.iload_n 0, 1) := by decide +kernel
theorem dX9_greatestPart_10 : decode cX9_greatestPart 10 = .ok (.iload_n 3, 1) := by decide +kernel
theorem dX9_greatestPart_11 : decode cX9_greatestPart 11 = .ok (.ishr, 1) := by decide +kernel
theorem dX9_greatestPart_12 : decode cX9_greatestPart 12 = .ok (.iconst 1, 1) := by decide +kernel
theorem dX9_greatestPart_13 : decode cX9_greatestPart 13 = .ok (.iand, 1) := by decide +kernel
theorem dX9_greatestPart_14 : decode cX9_greatestPart 14 = .ok (.ifCond .eq 14, 3) := by decide +kernel
theorem dX9_greatestPart_17 : decode cX9_greatestPart 17 = .ok (.iload_n 2, 1) := by decide +kernel
theorem dX9_greatestPart_18 : decode cX9_greatestPart 18 = .ok (.iload_n 0, 1) := by decide +kernel
theorem dX9_greatestPart_19 : decode cX9_greatestPart 19 = .ok (.iload_n 1, 1) := by decide +kernel
theorem dX9_greatestPart_20 : decode cX9_greatestPart 20 = .ok (.iload_n 3, 1) := by decide +kernel
theorem dX9_greatestPart_21 : decode cX9_greatestPart 21 = .ok (.invokestatic 51, 3) := by decide +kernel
theorem dX9_greatestPart_24 : decode cX9_greatestPart 24 = .ok (.invokestatic 55, 3) := by decide +kernel
theorem dX9_greatestPart_27 : decode cX9_greatestPart 27 = .ok (.istore_n 2, 1) := by decide +kernel
theorem dX9_greatestPart_28 : decode cX9_greatestPart 28 = .ok (.iinc 3 1, 3) := by decide +kernel
theorem dX9_greatestPart_31 : decode cX9_greatestPart 31 = .ok (.goto (-27), 3) := by decide +kernel
theorem dX9_greatestPart_34 : decode cX9_greatestPart 34 = .ok (.iload_n 2, 1) := by decide +kernel
theorem dX9_greatestPart_35 : decode cX9_greatestPart 35 = .ok (.ireturn, 1) := by decide +kernel
theorem dX9_likeKinds_0 : decode cX9_likeKinds 0 = .ok (.iconst 0, 1) := by decide +kernel
theorem dX9_likeKinds_1 : decode cX9_likeKinds 1 = .ok (.istore_n 3, 1) := by decide +kernel
theorem dX9_likeKinds_2 : decode cX9_likeKinds 2 = .ok (.iconst 0, 1) := by decide +kernel
theorem dX9_likeKinds_3 : decode cX9_likeKinds 3 = .ok (.istore 4, 2) := by decide +kernel
theorem dX9_likeKinds_5 : decode cX9_likeKinds 5 = .ok (.iload 4, 2) := by decide +kernel
theorem dX9_likeKinds_7 : decode cX9_likeKinds 7 = .ok (.iconst 5, 1) := by decide +kernel
theorem dX9_likeKinds_8 : decode cX9_likeKinds 8 = .ok (.if_icmp .ge 49, 3) := by decide +kernel
theorem dX9_likeKinds_11 : decode cX9_likeKinds 11 = .ok (.iload_n 0, 1) := by decide +kernel
theorem dX9_likeKinds_12 : decode cX9_likeKinds 12 = .ok (.iload 4, 2) := by decide +kernel
theorem dX9_likeKinds_14 : decode cX9_likeKinds 14 = .ok (.ishr, 1) := by decide +kernel
theorem dX9_likeKinds_15 : decode cX9_likeKinds 15 = .ok (.iconst 1, 1) := by decide +kernel
theorem dX9_likeKinds_16 : decode cX9_likeKinds 16 = .ok (.iand, 1) := by decide +kernel
theorem dX9_likeKinds_17 : decode cX9_likeKinds 17 = .ok (.ifCond .eq 34, 3) := by decide +kernel
theorem dX9_likeKinds_20 : decode cX9_likeKinds 20 = .ok (.iload 4, 2) := by decide +kernel
theorem dX9_likeKinds_22 : decode cX9_likeKinds 22 = .ok (.iload_n 1, 1) := by decide +kernel
theorem dX9_likeKinds_23 : decode cX9_likeKinds 23 = .ok (.invokestatic 31, 3) := by decide +kernel
theorem dX9_likeKinds_26 : decode cX9_likeKinds 26 = .ok (.iload_n 2, 1) := by decide +kernel
theorem dX9_likeKinds_27 : decode cX9_likeKinds 27 = .ok (.iload_n 1, 1) := by decide +kernel
theorem dX9_likeKinds_28 : decode cX9_likeKinds 28 = .ok (.invokestatic 31, 3) := by decide +kernel
theorem dX9_likeKinds_31 : decode cX9_likeKinds 31 = .ok (.if_icmp .ne 20, 3) := by decide +kernel
theorem dX9_likeKinds_34 : decode cX9_likeKinds 34 = .ok (.iload 4, 2) := by decide +kernel
theorem dX9_likeKinds_36 : decode cX9_likeKinds 36 = .ok (.iload_n 1, 1) := by decide +kernel
theorem dX9_likeKinds_37 : decode cX9_likeKinds 37 = .ok (.invokestatic 35, 3) := by decide +kernel
theorem dX9_likeKinds_40 : decode cX9_likeKinds 40 = .ok (.iload_n 2, 1) := by decide +kernel
theorem dX9_likeKinds_41 : decode cX9_likeKinds 41 = .ok (.iload_n 1, 1) := by decide +kernel
theorem dX9_likeKinds_42 : decode cX9_likeKinds 42 = .ok (.invokestatic 35, 3) := by decide +kernel
theorem dX9_likeKinds_45 : decode cX9_likeKinds 45 = .ok (.if_icmp .ne 6, 3) := by decide +kernel
theorem dX9_likeKinds_48 : decode cX9_likeKinds 48 = .ok (.iinc 3 1, 3) := by decide +kernel
theorem dX9_likeKinds_51 : decode cX9_likeKinds 51 = .ok (.iinc 4 1, 3) := by decide +kernel
theorem dX9_likeKinds_54 : decode cX9_likeKinds 54 = .ok (.goto (-49), 3) := by decide +kernel
theorem dX9_likeKinds_57 : decode cX9_likeKinds 57 = .ok (.iload_n 3, 1) := by decide +kernel
theorem dX9_likeKinds_58 : decode cX9_likeKinds 58 = .ok (.ireturn, 1) := by decide +kernel
theorem dX10_init_0 : decode cX10_init 0 = .ok (.aload_n 0, 1) := by decide +kernel
theorem dX10_init_1 : decode cX10_init 1 = .ok (.invokespecial 3, 3) := by decide +kernel
theorem dX10_init_4 : decode cX10_init 4 = .ok (.aload_n 0, 1) := by decide +kernel
theorem dX10_init_5 : decode cX10_init 5 = .ok (.sipush 200, 3) := by decide +kernel
theorem dX10_init_8 : decode cX10_init 8 = .ok (.newarray .int, 2) := by decide +kernel
theorem dX10_init_10 : decode cX10_init 10 = .ok (.putfield 9, 3) := by decide +kernel
theorem dX10_init_13 : decode cX10_init 13 = .ok (.return_, 1) := by decide +kernel
theorem dX10_append_0 : decode cX10_append 0 = .ok (.aload_n 0, 1) := by decide +kernel
theorem dX10_append_1 : decode cX10_append 1 = .ok (.getfield 15, 3) := by decide +kernel
theorem dX10_append_4 : decode cX10_append 4 = .ok (.sipush 200, 3) := by decide +kernel
theorem dX10_append_7 : decode cX10_append 7 = .ok (.if_icmp .ge 23, 3) := by decide +kernel
theorem dX10_append_10 : decode cX10_append 10 = .ok (.aload_n 0, 1) := by decide +kernel
theorem dX10_append_11 : decode cX10_append 11 = .ok (.getfield 9, 3) := by decide +kernel
theorem dX10_append_14 : decode cX10_append 14 = .ok (.aload_n 0, 1) := by decide +kernel
theorem dX10_append_15 : decode cX10_append 15 = .ok (.getfield 15, 3) := by decide +kernel
theorem dX10_append_18 : decode cX10_append 18 = .ok (.iload_n 1, 1) := by decide +kernel
theorem dX10_append_19 : decode cX10_append 19 = .ok (.iastore, 1) := by decide +kernel
theorem dX10_append_20 : decode cX10_append 20 = .ok (.aload_n 0, 1) := by decide +kernel
theorem dX10_append_21 : decode cX10_append 21 = .ok (.dup, 1) := by decide +kernel
theorem dX10_append_22 : decode cX10_append 22 = .ok (.getfield 15, 3) := by decide +kernel
theorem dX10_append_25 : decode cX10_append 25 = .ok (.iconst 1, 1) := by decide +kernel
theorem dX10_append_26 : decode cX10_append 26 = .ok (.iadd, 1) := by decide +kernel
theorem dX10_append_27 : decode cX10_append 27 = .ok (.putfield 15, 3) := by decide +kernel
theorem dX10_append_30 : decode cX10_append 30 = .ok (.return_, 1) := by decide +kernel
theorem dX10_clear_0 : decode cX10_clear 0 = .ok (.aload_n 0, 1) := by decide +kernel
theorem dX10_clear_1 : decode cX10_clear 1 = .ok (.iconst 0, 1) := by decide +kernel
theorem dX10_clear_2 : decode cX10_clear 2 = .ok (.putfield 15, 3) := by decide +kernel
theorem dX10_clear_5 : decode cX10_clear 5 = .ok (.return_, 1) := by decide +kernel
theorem dX10_firstToken_0 : decode cX10_firstToken 0 = .ok (.aload_n 0, 1) := by decide +kernel
theorem dX10_firstToken_1 : decode cX10_firstToken 1 = .ok (.iconst 0, 1) := by decide +kernel
theorem dX10_firstToken_2 : decode cX10_firstToken 2 = .ok (.putfield 19, 3) := by decide +kernel
theorem dX10_firstToken_5 : decode cX10_firstToken 5 = .ok (.aload_n 0, 1) := by decide +kernel
theorem dX10_firstToken_6 : decode cX10_firstToken 6 = .ok (.invokevirtual 22, 3) := by decide +kernel
theorem dX10_firstToken_9 : decode cX10_firstToken 9 = .ok (.return_, 1) := by decide +kernel
theorem dX10_nextToken_0 : decode cX10_nextToken 0 = .ok (.aload_n 0, 1) := by decide +kernel
theorem dX10_nextToken_1 : decode cX10_nextToken 1 = .ok (.aload_n 0, 1) := by decide +kernel
theorem dX10_nextToken_2 : decode cX10_nextToken 2 = .ok (.getfield 19, 3) := by decide +kernel
theorem dX10_nextToken_5 : decode cX10_nextToken 5 = .ok (.putfield 25, 3) := by decide +kernel
theorem dX10_nextToken_8 : decode cX10_nextToken 8 = .ok (.aload_n 0, 1) := by decide +kernel
theorem dX10_nextToken_9 : decode cX10_nextToken 9 = .ok (.getfield 25, 3) := by decide +kernel
theorem dX10_nextToken_12 : decode cX10_nextToken 12 = .ok (.aload_n 0, 1) := by decide +kernel
theorem dX10_nextToken_13 : decode cX10_nextToken 13 = .ok (.getfield 15, 3) := by decide +kernel
theorem dX10_nextToken_16 : decode cX10_nextToken 16 = .ok (.if_icmp .ge 30, 3) := by decide +kernel
theorem dX10_nextToken_19 : decode cX10_nextToken 19 = .ok (.aload_n 0, 1) := by decide +kernel
theorem dX10_nextToken_20 : decode cX10_nextToken 20 = .ok (.getfield 9, 3) := by decide +kernel
theorem dX10_nextToken_23 : decode cX10_nextToken 23 = .ok (.aload_n 0, 1) := by decide +kernel
theorem dX10_nextToken_24 : decode cX10_nextToken 24 = .ok (.getfield 25, 3) := by decide +kernel
theorem dX10_nextToken_27 : decode cX10_nextToken 27 = .ok (.iaload, 1) := by decide +kernel
theorem dX10_nextToken_28 : decode cX10_nextToken 28 = .ok (.bipush 32, 2) := by decide +kernel
theorem dX10_nextToken_30 : decode cX10_nextToken 30 = .ok (.if_icmp .ne 16, 3) := by decide +kernel
theorem dX10_nextToken_33 : decode cX10_nextToken 33 = .ok (.aload_n 0, 1) := by decide +kernel
theorem dX10_nextToken_34 : decode cX10_nextToken 34 = .ok (.dup, 1) := by decide +kernel
theorem dX10_nextToken_35 : decode cX10_nextToken 35 = .ok (.getfield 25, 3) := by decide +kernel
theorem dX10_nextToken_38 : decode cX10_nextToken 38 = .ok (.iconst 1, 1) := by decide +kernel
theorem dX10_nextToken_39 : decode cX10_nextToken 39 = .ok (.iadd, 1) := by decide +kernel
theorem dX10_nextToken_40 : decode cX10_nextToken 40 = .ok (.putfield 25, 3) := by decide +kernel
theorem dX10_nextToken_43 : decode cX10_nextToken 43 = .ok (.goto (-35), 3) := by decide +kernel
theorem dX10_nextToken_46 : decode cX10_nextToken 46 = .ok (.aload_n 0, 1) := by decide +kernel
theorem dX10_nextToken_47 : decode cX10_nextToken 47 = .ok (.aload_n 0, 1) := by decide +kernel
theorem dX10_nextToken_48 : decode cX10_nextToken 48 = .ok (.getfield 25, 3) := by decide +kernel
theorem dX10_nextToken_51 : decode cX10_nextToken 51 = .ok (.putfield 19, 3) := by decide +kernel
theorem dX10_nextToken_54 : decode cX10_nextToken 54 = .ok (.aload_n 0, 1) := by decide +kernel
theorem dX10_nextToken_55 : decode cX10_nextToken 55 = .ok (.getfield 25, 3) := by decide +kernel
theorem dX10_nextToken_58 : decode cX10_nextToken 58 = .ok (.aload_n 0, 1) := by decide +kernel
theorem dX10_nextToken_59 : decode cX10_nextToken 59 = .ok (.getfield 15, 3) := by decide +kernel
theorem dX10_nextToken_62 : decode cX10_nextToken 62 = .ok (.if_icmp .lt 9, 3) := by decide +kernel
theorem dX10_nextToken_65 : decode cX10_nextToken 65 = .ok (.aload_n 0, 1) := by decide +kernel
theorem dX10_nextToken_66 : decode cX10_nextToken 66 = .ok (.iconst 0, 1) := by decide +kernel
theorem dX10_nextToken_67 : decode cX10_nextToken 67 = .ok (.putfield 28, 3) := by decide +kernel
theorem dX10_nextToken_70 : decode cX10_nextToken 70 = .ok (.return_, 1) := by decide +kernel
theorem dX10_nextToken_71 : decode cX10_nextToken 71 = .ok (.aload_n 0, 1) := by decide +kernel
theorem dX10_nextToken_72 : decode cX10_nextToken 72 = .ok (.aload_n 0, 1) := by decide +kernel
theorem dX10_nextToken_73 : decode cX10_nextToken 73 = .ok (.getfield 9, 3) := by decide +kernel
theorem dX10_nextToken_76 : decode cX10_nextToken 76 = .ok (.aload_n 0, 1) := by decide +kernel
theorem dX10_nextToken_77 : decode cX10_nextToken 77 = .ok (.getfield 25, 3) := by decide +kernel
theorem dX10_nextToken_80 : decode cX10_nextToken 80 = .ok (.iaload, 1) := by decide +kernel
theorem dX10_nextToken_81 : decode cX10_nextToken 81 = .ok (.invokestatic 31, 3) := by decide +kernel
theorem dX10_nextToken_84 : decode cX10_nextToken 84 = .ok (.putfield 28, 3) := by decide +kernel
theorem dX10_nextToken_87 : decode cX10_nextToken 87 = .ok (.aload_n 0, 1) := by decide +kernel
theorem dX10_nextToken_88 : decode cX10_nextToken 88 = .ok (.dup, 1) := by decide +kernel
theorem dX10_nextToken_89 : decode cX10_nextToken 89 = .ok (.getfield 19, 3) := by decide +kernel
theorem dX10_nextToken_92 : decode cX10_nextToken 92 = .ok (.iconst 1, 1) := by decide +kernel
theorem dX10_nextToken_93 : decode cX10_nextToken 93 = .ok (.iadd, 1) := by decide +kernel
theorem dX10_nextToken_94 : decode cX10_nextToken 94 = .ok (.putfield 19, 3) := by decide +kernel
theorem dX10_nextToken_97 : decode cX10_nextToken 97 = .ok (.aload_n 0, 1) := by decide +kernel
theorem dX10_nextToken_98 : decode cX10_nextToken 98 = .ok (.getfield 28, 3) := by decide +kernel
theorem dX10_nextToken_101 : decode cX10_nextToken 101 = .ok (.iconst 3, 1) := by decide +kernel
theorem dX10_nextToken_102 : decode cX10_nextToken 102 = .ok (.if_icmp .eq 46, 3) := by decide +kernel
theorem dX10_nextToken_105 : decode cX10_nextToken 105 = .ok (.aload_n 0, 1) := by decide +kernel
theorem dX10_nextToken_106 : decode cX10_nextToken 106 = .ok (.getfield 19, 3) := by decide +kernel
theorem dX10_nextToken_109 : decode cX10_nextToken 109 = .ok (.aload_n 0, 1) := by decide +kernel
theorem dX10_nextToken_110 : decode cX10_nextToken 110 = .ok (.getfield 15, 3) := by decide +kernel
theorem dX10_nextToken_113 : decode cX10_nextToken 113 = .ok (.if_icmp .ge 35, 3) := by decide +kernel
theorem dX10_nextToken_116 : decode cX10_nextToken 116 = .ok (.aload_n 0, 1) := by decide +kernel
theorem dX10_nextToken_117 : decode cX10_nextToken 117 = .ok (.getfield 9, 3) := by decide +kernel
theorem dX10_nextToken_120 : decode cX10_nextToken 120 = .ok (.aload_n 0, 1) := by decide +kernel
theorem dX10_nextToken_121 : decode cX10_nextToken 121 = .ok (.getfield 19, 3) := by decide +kernel
theorem dX10_nextToken_124 : decode cX10_nextToken 124 = .ok (.iaload, 1) := by decide +kernel
theorem dX10_nextToken_125 : decode cX10_nextToken 125 = .ok (.invokestatic 31, 3) := by decide +kernel
theorem dX10_nextToken_128 : decode cX10_nextToken 128 = .ok (.aload_n 0, 1) := by decide +kernel
theorem dX10_nextToken_129 : decode cX10_nextToken 129 = .ok (.getfield 28, 3) := by decide +kernel
theorem dX10_nextToken_132 : decode cX10_nextToken 132 = .ok (.if_icmp .ne 16, 3) := by decide +kernel
theorem dX10_nextToken_135 : decode cX10_nextToken 135 = .ok (.aload_n 0, 1) := by decide +kernel
theorem dX10_nextToken_136 : decode cX10_nextToken 136 = .ok (.dup, 1) := by decide +kernel
theorem dX10_nextToken_137 : decode cX10_nextToken 137 = .ok (.getfield 19, 3) := by decide +kernel
theorem dX10_nextToken_140 : decode cX10_nextToken 140 = .ok (.iconst 1, 1) := by decide +kernel
theorem dX10_nextToken_141 : decode cX10_nextToken 141 = .ok (.iadd, 1) := by decide +kernel
theorem dX10_nextToken_142 : decode cX10_nextToken 142 = .ok (.putfield 19, 3) := by decide +kernel
theorem dX10_nextToken_145 : decode cX10_nextToken 145 = .ok (.goto (-48), 3) := by decide +kernel
theorem dX10_nextToken_148 : decode cX10_nextToken 148 = .ok (.return_, 1) := by decide +kernel
theorem dX10_sortOf_0 : decode cX10_sortOf 0 = .ok (.iload_n 0, 1) := by decide +kernel
theorem dX10_sortOf_1 : decode cX10_sortOf 1 = .ok (.bipush 97, 2) := by decide +kernel
theorem dX10_sortOf_3 : decode cX10_sortOf 3 = .ok (.if_icmp .lt 11, 3) := by decide +kernel
theorem dX10_sortOf_6 : decode cX10_sortOf 6 = .ok (.iload_n 0, 1) := by decide +kernel
theorem dX10_sortOf_7 : decode cX10_sortOf 7 = .ok (.bipush 122, 2) := by decide +kernel
theorem dX10_sortOf_9 : decode cX10_sortOf 9 = .ok (.if_icmp .gt 5, 3) := by decide +kernel
theorem dX10_sortOf_12 : decode cX10_sortOf 12 = .ok (.iconst 1, 1) := by decide +kernel
theorem dX10_sortOf_13 : decode cX10_sortOf 13 = .ok (.ireturn, 1) := by decide +kernel
theorem dX10_sortOf_14 : decode cX10_sortOf 14 = .ok (.iload_n 0, 1) := by decide +kernel
theorem dX10_sortOf_15 : decode cX10_sortOf 15 = .ok (.bipush 48, 2) := by decide +kernel
theorem dX10_sortOf_17 : decode cX10_sortOf 17 = .ok (.if_icmp .lt 13, 3) := by decide +kernel
theorem dX10_sortOf_20 : decode cX10_sortOf 20 = .ok (.iload_n 0, 1) := by decide +kernel
theorem dX10_sortOf_21 : decode cX10_sortOf 21 = .ok (.bipush 57, 2) := by decide +kernel
theorem dX10_sortOf_23 : decode cX10_sortOf 23 = .ok (.if_icmp .gt 7, 3) := by decide +kernel
theorem dX10_sortOf_26 : decode cX10_sortOf 26 = .ok (.iconst 2, 1) := by decide +kernel
theorem dX10_sortOf_27 : decode cX10_sortOf 27 = .ok (.goto 4, 3) := by decide +kernel
theorem dX10_sortOf_30 : decode cX10_sortOf 30 = .ok (.iconst 3, 1) := by decide +kernel
theorem dX10_sortOf_31 : decode cX10_sortOf 31 = .ok (.ireturn, 1) := by decide +kernel
theorem dX10_isSemicolon_0 : decode cX10_isSemicolon 0 = .ok (.aload_n 0, 1) := by decide +kernel
theorem dX10_isSemicolon_1 : decode cX10_isSemicolon 1 = .ok (.getfield 28, 3) := by decide +kernel
theorem dX10_isSemicolon_4 : decode cX10_isSemicolon 4 = .ok (.iconst 3, 1) := by decide +kernel
theorem dX10_isSemicolon_5 : decode cX10_isSemicolon 5 = .ok (.if_icmp .ne 32, 3) := by decide +kernel
theorem dX10_isSemicolon_8 : decode cX10_isSemicolon 8 = .ok (.aload_n 0, 1) := by decide +kernel
theorem dX10_isSemicolon_9 : decode cX10_isSemicolon 9 = .ok (.getfield 25, 3) := by decide +kernel
theorem dX10_isSemicolon_12 : decode cX10_isSemicolon 12 = .ok (.aload_n 0, 1) := by decide +kernel
theorem dX10_isSemicolon_13 : decode cX10_isSemicolon 13 = .ok (.getfield 15, 3) := by decide +kernel
theorem dX10_isSemicolon_16 : decode cX10_isSemicolon 16 = .ok (.if_icmp .ge 21, 3) := by decide +kernel
theorem dX10_isSemicolon_19 : decode cX10_isSemicolon 19 = .ok (.aload_n 0, 1) := by decide +kernel
theorem dX10_isSemicolon_20 : decode cX10_isSemicolon 20 = .ok (.getfield 9, 3) := by decide +kernel
theorem dX10_isSemicolon_23 : decode cX10_isSemicolon 23 = .ok (.aload_n 0, 1) := by decide +kernel
theorem dX10_isSemicolon_24 : decode cX10_isSemicolon 24 = .ok (.getfield 25, 3) := by decide +kernel
theorem dX10_isSemicolon_27 : decode cX10_isSemicolon 27 = .ok (.iaload, 1) := by decide +kernel
theorem dX10_isSemicolon_28 : decode cX10_isSemicolon 28 = .ok (.bipush 59, 2) := by decide +kernel
theorem dX10_isSemicolon_30 : decode cX10_isSemicolon 30 = .ok (.if_icmp .ne 7, 3) := by decide +kernel
theorem dX10_isSemicolon_33 : decode cX10_isSemicolon 33 = .ok (.iconst 1, 1) := by decide +kernel
theorem dX10_isSemicolon_34 : decode cX10_isSemicolon 34 = .ok (.goto 4, 3) := by decide +kernel
theorem dX10_isSemicolon_37 : decode cX10_isSemicolon 37 = .ok (.iconst 0, 1) := by decide +kernel
theorem dX10_isSemicolon_38 : decode cX10_isSemicolon 38 = .ok (.ireturn, 1) := by decide +kernel
theorem dX10_isWord_0 : decode cX10_isWord 0 = .ok (.aload_n 0, 1) := by decide +kernel
theorem dX10_isWord_1 : decode cX10_isWord 1 = .ok (.getfield 28, 3) := by decide +kernel
theorem dX10_isWord_4 : decode cX10_isWord 4 = .ok (.iconst 1, 1) := by decide +kernel
theorem dX10_isWord_5 : decode cX10_isWord 5 = .ok (.if_icmp .ne 19, 3) := by decide +kernel
theorem dX10_isWord_8 : decode cX10_isWord 8 = .ok (.aload_n 0, 1) := by decide +kernel
theorem dX10_isWord_9 : decode cX10_isWord 9 = .ok (.getfield 19, 3) := by decide +kernel
theorem dX10_isWord_12 : decode cX10_isWord 12 = .ok (.aload_n 0, 1) := by decide +kernel
theorem dX10_isWord_13 : decode cX10_isWord 13 = .ok (.getfield 25, 3) := by decide +kernel
theorem dX10_isWord_16 : decode cX10_isWord 16 = .ok (.isub, 1) := by decide +kernel
theorem dX10_isWord_17 : decode cX10_isWord 17 = .ok (.aload_n 1, 1) := by decide +kernel
theorem dX10_isWord_18 : decode cX10_isWord 18 = .ok (.invokevirtual 35, 3) := by decide +kernel
theorem dX10_isWord_21 : decode cX10_isWord 21 = .ok (.if_icmp .eq 5, 3) := by decide +kernel
theorem dX10_isWord_24 : decode cX10_isWord 24 = .ok (.iconst 0, 1) := by decide +kernel
theorem dX10_isWord_25 : decode cX10_isWord 25 = .ok (.ireturn, 1) := by decide +kernel
theorem dX10_isWord_26 : decode cX10_isWord 26 = .ok (.iconst 0, 1) := by decide +kernel
theorem dX10_isWord_27 : decode cX10_isWord 27 = .ok (.istore_n 2, 1) := by decide +kernel
theorem dX10_isWord_28 : decode cX10_isWord 28 = .ok (.iload_n 2, 1) := by decide +kernel
theorem dX10_isWord_29 : decode cX10_isWord 29 = .ok (.aload_n 1, 1) := by decide +kernel
theorem dX10_isWord_30 : decode cX10_isWord 30 = .ok (.invokevirtual 35, 3) := by decide +kernel
theorem dX10_isWord_33 : decode cX10_isWord 33 = .ok (.if_icmp .ge 43, 3) := by decide +kernel
theorem dX10_isWord_36 : decode cX10_isWord 36 = .ok (.aload_n 0, 1) := by decide +kernel
theorem dX10_isWord_37 : decode cX10_isWord 37 = .ok (.getfield 25, 3) := by decide +kernel
theorem dX10_isWord_40 : decode cX10_isWord 40 = .ok (.iload_n 2, 1) := by decide +kernel
theorem dX10_isWord_41 : decode cX10_isWord 41 = .ok (.iadd, 1) := by decide +kernel
theorem dX10_isWord_42 : decode cX10_isWord 42 = .ok (.aload_n 0, 1) := by decide +kernel
theorem dX10_isWord_43 : decode cX10_isWord 43 = .ok (.getfield 15, 3) := by decide +kernel
theorem dX10_isWord_46 : decode cX10_isWord 46 = .ok (.if_icmp .ge 30, 3) := by decide +kernel
theorem dX10_isWord_49 : decode cX10_isWord 49 = .ok (.aload_n 0, 1) := by decide +kernel
theorem dX10_isWord_50 : decode cX10_isWord 50 = .ok (.getfield 9, 3) := by decide +kernel
theorem dX10_isWord_53 : decode cX10_isWord 53 = .ok (.aload_n 0, 1) := by decide +kernel
theorem dX10_isWord_54 : decode cX10_isWord 54 = .ok (.getfield 25, 3) := by decide +kernel
theorem dX10_isWord_57 : decode cX10_isWord 57 = .ok (.iload_n 2, 1) := by decide +kernel
theorem dX10_isWord_58 : decode cX10_isWord 58 = .ok (.iadd, 1) := by decide +kernel
theorem dX10_isWord_59 : decode cX10_isWord 59 = .ok (.iaload, 1) := by decide +kernel
theorem dX10_isWord_60 : decode cX10_isWord 60 = .ok (.aload_n 1, 1) := by decide +kernel
theorem dX10_isWord_61 : decode cX10_isWord 61 = .ok (.iload_n 2, 1) := by decide +kernel
theorem dX10_isWord_62 : decode cX10_isWord 62 = .ok (.invokevirtual 40, 3) := by decide +kernel
theorem dX10_isWord_65 : decode cX10_isWord 65 = .ok (.if_icmp .eq 5, 3) := by decide +kernel
theorem dX10_isWord_68 : decode cX10_isWord 68 = .ok (.iconst 0, 1) := by decide +kernel
theorem dX10_isWord_69 : decode cX10_isWord 69 = .ok (.ireturn, 1) := by decide +kernel
theorem dX10_isWord_70 : decode cX10_isWord 70 = .ok (.iinc 2 1, 3) := by decide +kernel
theorem dX10_isWord_73 : decode cX10_isWord 73 = .ok (.goto (-45), 3) := by decide +kernel
theorem dX10_isWord_76 : decode cX10_isWord 76 = .ok (.iconst 1, 1) := by decide +kernel
theorem dX10_isWord_77 : decode cX10_isWord 77 = .ok (.ireturn, 1) := by decide +kernel
theorem dX10_digit_0 : decode cX10_digit 0 = .ok (.aload_n 0, 1) := by decide +kernel
theorem dX10_digit_1 : decode cX10_digit 1 = .ok (.getfield 28, 3) := by decide +kernel
theorem dX10_digit_4 : decode cX10_digit 4 = .ok (.iconst 2, 1) := by decide +kernel
theorem dX10_digit_5 : decode cX10_digit 5 = .ok (.if_icmp .ne 42, 3) := by decide +kernel
theorem dX10_digit_8 : decode cX10_digit 8 = .ok (.aload_n 0, 1) := by decide +kernel
theorem dX10_digit_9 : decode cX10_digit 9 = .ok (.getfield 19, 3) := by decide +kernel
theorem dX10_digit_12 : decode cX10_digit 12 = .ok (.aload_n 0, 1) := by decide +kernel
theorem dX10_digit_13 : decode cX10_digit 13 = .ok (.getfield 25, 3) := by decide +kernel
theorem dX10_digit_16 : decode cX10_digit 16 = .ok (.isub, 1) := by decide +kernel
theorem dX10_digit_17 : decode cX10_digit 17 = .ok (.iconst 1, 1) := by decide +kernel
theorem dX10_digit_18 : decode cX10_digit 18 = .ok (.if_icmp .ne 29, 3) := by decide +kernel
theorem dX10_digit_21 : decode cX10_digit 21 = .ok (.aload_n 0, 1) := by decide +kernel
theorem dX10_digit_22 : decode cX10_digit 22 = .ok (.getfield 25, 3) := by decide +kernel
theorem dX10_digit_25 : decode cX10_digit 25 = .ok (.aload_n 0, 1) := by decide +kernel
theorem dX10_digit_26 : decode cX10_digit 26 = .ok (.getfield 15, 3) := by decide +kernel
theorem dX10_digit_29 : decode cX10_digit 29 = .ok (.if_icmp .ge 18, 3) := by decide +kernel
theorem dX10_digit_32 : decode cX10_digit 32 = .ok (.aload_n 0, 1) := by decide +kernel
theorem dX10_digit_33 : decode cX10_digit 33 = .ok (.getfield 9, 3) := by decide +kernel
theorem dX10_digit_36 : decode cX10_digit 36 = .ok (.aload_n 0, 1) := by decide +kernel
theorem dX10_digit_37 : decode cX10_digit 37 = .ok (.getfield 25, 3) := by decide +kernel
theorem dX10_digit_40 : decode cX10_digit 40 = .ok (.iaload, 1) := by decide +kernel
theorem dX10_digit_41 : decode cX10_digit 41 = .ok (.bipush 48, 2) := by decide +kernel
theorem dX10_digit_43 : decode cX10_digit 43 = .ok (.isub, 1) := by decide +kernel
theorem dX10_digit_44 : decode cX10_digit 44 = .ok (.goto 4, 3) := by decide +kernel
theorem dX10_digit_47 : decode cX10_digit 47 = .ok (.iconst (-1), 1) := by decide +kernel
theorem dX10_digit_48 : decode cX10_digit 48 = .ok (.ireturn, 1) := by decide +kernel
theorem dX11_init_0 : decode cX11_init 0 = .ok (.aload_n 0, 1) := by decide +kernel
theorem dX11_init_1 : decode cX11_init 1 = .ok (.invokespecial 1, 3) := by decide +kernel
theorem dX11_init_4 : decode cX11_init 4 = .ok (.aload_n 0, 1) := by decide +kernel
theorem dX11_init_5 : decode cX11_init 5 = .ok (.new 7, 3) := by decide +kernel
theorem dX11_init_8 : decode cX11_init 8 = .ok (.dup, 1) := by decide +kernel
theorem dX11_init_9 : decode cX11_init 9 = .ok (.invokespecial 9, 3) := by decide +kernel
theorem dX11_init_12 : decode cX11_init 12 = .ok (.putfield 10, 3) := by decide +kernel
theorem dX11_init_15 : decode cX11_init 15 = .ok (.aload_n 0, 1) := by decide +kernel
theorem dX11_init_16 : decode cX11_init 16 = .ok (.new 16, 3) := by decide +kernel
theorem dX11_init_19 : decode cX11_init 19 = .ok (.dup, 1) := by decide +kernel
theorem dX11_init_20 : decode cX11_init 20 = .ok (.invokespecial 18, 3) := by decide +kernel
theorem dX11_init_23 : decode cX11_init 23 = .ok (.putfield 19, 3) := by decide +kernel
theorem dX11_init_26 : decode cX11_init 26 = .ok (.aload_n 0, 1) := by decide +kernel
theorem dX11_init_27 : decode cX11_init 27 = .ok (.new 23, 3) := by decide +kernel
theorem dX11_init_30 : decode cX11_init 30 = .ok (.dup, 1) := by decide +kernel
theorem dX11_init_31 : decode cX11_init 31 = .ok (.aload_n 0, 1) := by decide +kernel
theorem dX11_init_32 : decode cX11_init 32 = .ok (.getfield 19, 3) := by decide +kernel
theorem dX11_init_35 : decode cX11_init 35 = .ok (.invokespecial 25, 3) := by decide +kernel
theorem dX11_init_38 : decode cX11_init 38 = .ok (.putfield 28, 3) := by decide +kernel
theorem dX11_init_41 : decode cX11_init 41 = .ok (.aload_n 0, 1) := by decide +kernel
theorem dX11_init_42 : decode cX11_init 42 = .ok (.new 32, 3) := by decide +kernel
theorem dX11_init_45 : decode cX11_init 45 = .ok (.dup, 1) := by decide +kernel
theorem dX11_init_46 : decode cX11_init 46 = .ok (.aload_n 0, 1) := by decide +kernel
theorem dX11_init_47 : decode cX11_init 47 = .ok (.getfield 10, 3) := by decide +kernel
theorem dX11_init_50 : decode cX11_init 50 = .ok (.invokespecial 34, 3) := by decide +kernel
theorem dX11_init_53 : decode cX11_init 53 = .ok (.putfield 37, 3) := by decide +kernel
theorem dX11_init_56 : decode cX11_init 56 = .ok (.aload_n 0, 1) := by decide +kernel
theorem dX11_init_57 : decode cX11_init 57 = .ok (.new 32, 3) := by decide +kernel
theorem dX11_init_60 : decode cX11_init 60 = .ok (.dup, 1) := by decide +kernel
theorem dX11_init_61 : decode cX11_init 61 = .ok (.aload_n 0, 1) := by decide +kernel
theorem dX11_init_62 : decode cX11_init 62 = .ok (.getfield 10, 3) := by decide +kernel
theorem dX11_init_65 : decode cX11_init 65 = .ok (.invokespecial 34, 3) := by decide +kernel
theorem dX11_init_68 : decode cX11_init 68 = .ok (.putfield 41, 3) := by decide +kernel
theorem dX11_init_71 : decode cX11_init 71 = .ok (.aload_n 0, 1) := by decide +kernel
theorem dX11_init_72 : decode cX11_init 72 = .ok (.new 44, 3) := by decide +kernel
theorem dX11_init_75 : decode cX11_init 75 = .ok (.dup, 1) := by decide +kernel
theorem dX11_init_76 : decode cX11_init 76 = .ok (.aload_n 0, 1) := by decide +kernel
theorem dX11_init_77 : decode cX11_init 77 = .ok (.getfield 10, 3) := by decide +kernel
theorem dX11_init_80 : decode cX11_init 80 = .ok (.invokespecial 46, 3) := by decide +kernel
theorem dX11_init_83 : decode cX11_init 83 = .ok (.putfield 47, 3) := by decide +kernel
theorem dX11_init_86 : decode cX11_init 86 = .ok (.aload_n 0, 1) := by decide +kernel
theorem dX11_init_87 : decode cX11_init 87 = .ok (.iconst 2, 1) := by decide +kernel
theorem dX11_init_88 : decode cX11_init 88 = .ok (.anewarray 32, 3) := by decide +kernel
theorem dX11_init_91 : decode cX11_init 91 = .ok (.putfield 51, 3) := by decide +kernel
theorem dX11_init_94 : decode cX11_init 94 = .ok (.iconst 0, 1) := by decide +kernel
theorem dX11_init_95 : decode cX11_init 95 = .ok (.istore_n 1, 1) := by decide +kernel
theorem dX11_init_96 : decode cX11_init 96 = .ok (.iload_n 1, 1) := by decide +kernel
theorem dX11_init_97 : decode cX11_init 97 = .ok (.aload_n 0, 1) := by decide +kernel
theorem dX11_init_98 : decode cX11_init 98 = .ok (.getfield 51, 3) := by decide +kernel
theorem dX11_init_101 : decode cX11_init 101 = .ok (.arraylength, 1) := by decide +kernel
theorem dX11_init_102 : decode cX11_init 102 = .ok (.if_icmp .ge 26, 3) := by decide +kernel
theorem dX11_init_105 : decode cX11_init 105 = .ok (.aload_n 0, 1) := by decide +kernel
theorem dX11_init_106 : decode cX11_init 106 = .ok (.getfield 51, 3) := by decide +kernel
theorem dX11_init_109 : decode cX11_init 109 = .ok (.iload_n 1, 1) := by decide +kernel
theorem dX11_init_110 : decode cX11_init 110 = .ok (.new 32, 3) := by decide +kernel
theorem dX11_init_113 : decode cX11_init 113 = .ok (.dup, 1) := by decide +kernel
theorem dX11_init_114 : decode cX11_init 114 = .ok (.aload_n 0, 1) := by decide +kernel
theorem dX11_init_115 : decode cX11_init 115 = .ok (.getfield 10, 3) := by decide +kernel
theorem dX11_init_118 : decode cX11_init 118 = .ok (.invokespecial 34, 3) := by decide +kernel
theorem dX11_init_121 : decode cX11_init 121 = .ok (.aastore, 1) := by decide +kernel
theorem dX11_init_122 : decode cX11_init 122 = .ok (.iinc 1 1, 3) := by decide +kernel
theorem dX11_init_125 : decode cX11_init 125 = .ok (.goto (-29), 3) := by decide +kernel
theorem dX11_init_128 : decode cX11_init 128 = .ok (.aload_n 0, 1) := by decide +kernel
theorem dX11_init_129 : decode cX11_init 129 = .ok (.iconst 2, 1) := by decide +kernel
theorem dX11_init_130 : decode cX11_init 130 = .ok (.newarray .boolean, 2) := by decide +kernel
theorem dX11_init_132 : decode cX11_init 132 = .ok (.putfield 55, 3) := by decide +kernel
theorem dX11_init_135 : decode cX11_init 135 = .ok (.aload_n 0, 1) := by decide +kernel
theorem dX11_init_136 : decode cX11_init 136 = .ok (.new 59, 3) := by decide +kernel
theorem dX11_init_139 : decode cX11_init 139 = .ok (.dup, 1) := by decide +kernel
theorem dX11_init_140 : decode cX11_init 140 = .ok (.invokespecial 61, 3) := by decide +kernel
theorem dX11_init_143 : decode cX11_init 143 = .ok (.putfield 62, 3) := by decide +kernel
theorem dX11_init_146 : decode cX11_init 146 = .ok (.aload_n 0, 1) := by decide +kernel
theorem dX11_init_147 : decode cX11_init 147 = .ok (.new 66, 3) := by decide +kernel
theorem dX11_init_150 : decode cX11_init 150 = .ok (.dup, 1) := by decide +kernel
theorem dX11_init_151 : decode cX11_init 151 = .ok (.invokespecial 68, 3) := by decide +kernel
theorem dX11_init_154 : decode cX11_init 154 = .ok (.putfield 69, 3) := by decide +kernel
theorem dX11_init_157 : decode cX11_init 157 = .ok (.aload_n 0, 1) := by decide +kernel
theorem dX11_init_158 : decode cX11_init 158 = .ok (.new 73, 3) := by decide +kernel
theorem dX11_init_161 : decode cX11_init 161 = .ok (.dup, 1) := by decide +kernel
theorem dX11_init_162 : decode cX11_init 162 = .ok (.invokespecial 75, 3) := by decide +kernel
theorem dX11_init_165 : decode cX11_init 165 = .ok (.putfield 76, 3) := by decide +kernel
theorem dX11_init_168 : decode cX11_init 168 = .ok (.return_, 1) := by decide +kernel
theorem dX11_write_0 : decode cX11_write 0 = .ok (.iload_n 1, 1) := by decide +kernel
theorem dX11_write_1 : decode cX11_write 1 = .ok (.ifCond .lt 10, 3) := by decide +kernel
theorem dX11_write_4 : decode cX11_write 4 = .ok (.iload_n 1, 1) := by decide +kernel
theorem dX11_write_5 : decode cX11_write 5 = .ok (.sipush 255, 3) := by decide +kernel
theorem dX11_write_8 : decode cX11_write 8 = .ok (.if_icmp .le 6, 3) := by decide +kernel
theorem dX11_write_11 : decode cX11_write 11 = .ok (.bipush (-3), 2) := by decide +kernel
theorem dX11_write_13 : decode cX11_write 13 = .ok (.ireturn, 1) := by decide +kernel
theorem dX11_write_14 : decode cX11_write 14 = .ok (.aload_n 0, 1) := by decide +kernel
theorem dX11_write_15 : decode cX11_write 15 = .ok (.getfield 19, 3) := by decide +kernel
theorem dX11_write_18 : decode cX11_write 18 = .ok (.getfield 80, 3) := by decide +kernel
theorem dX11_write_21 : decode cX11_write 21 = .ok (.sipush 200, 3) := by decide +kernel
theorem dX11_write_24 : decode cX11_write 24 = .ok (.if_icmp .lt 6, 3) := by decide +kernel
theorem dX11_write_27 : decode cX11_write 27 = .ok (.bipush (-5), 2) := by decide +kernel
theorem dX11_write_29 : decode cX11_write 29 = .ok (.ireturn, 1) := by decide +kernel
theorem dX11_write_30 : decode cX11_write 30 = .ok (.aload_n 0, 1) := by decide +kernel
theorem dX11_write_31 : decode cX11_write 31 = .ok (.getfield 19, 3) := by decide +kernel
theorem dX11_write_34 : decode cX11_write 34 = .ok (.iload_n 1, 1) := by decide +kernel
theorem dX11_write_35 : decode cX11_write 35 = .ok (.invokevirtual 84, 3) := by decide +kernel
theorem dX11_write_38 : decode cX11_write 38 = .ok (.aload_n 0, 1) := by decide +kernel
theorem dX11_write_39 : decode cX11_write 39 = .ok (.getfield 19, 3) := by decide +kernel
theorem dX11_write_42 : decode cX11_write 42 = .ok (.getfield 80, 3) := by decide +kernel
theorem dX11_write_45 : decode cX11_write 45 = .ok (.ireturn, 1) := by decide +kernel
theorem dX11_erase_0 : decode cX11_erase 0 = .ok (.aload_n 0, 1) := by decide +kernel
theorem dX11_erase_1 : decode cX11_erase 1 = .ok (.getfield 19, 3) := by decide +kernel
theorem dX11_erase_4 : decode cX11_erase 4 = .ok (.getfield 80, 3) := by decide +kernel
theorem dX11_erase_7 : decode cX11_erase 7 = .ok (.istore_n 1, 1) := by decide +kernel
theorem dX11_erase_8 : decode cX11_erase 8 = .ok (.aload_n 0, 1) := by decide +kernel
theorem dX11_erase_9 : decode cX11_erase 9 = .ok (.getfield 19, 3) := by decide +kernel
theorem dX11_erase_12 : decode cX11_erase 12 = .ok (.invokevirtual 88, 3) := by decide +kernel
theorem dX11_erase_15 : decode cX11_erase 15 = .ok (.iload_n 1, 1) := by decide +kernel
theorem dX11_erase_16 : decode cX11_erase 16 = .ok (.ireturn, 1) := by decide +kernel
theorem dX11_fault_0 : decode cX11_fault 0 = .ok (.aload_n 0, 1) := by decide +kernel
theorem dX11_fault_1 : decode cX11_fault 1 = .ok (.getfield 28, 3) := by decide +kernel
theorem dX11_fault_4 : decode cX11_fault 4 = .ok (.aload_n 0, 1) := by decide +kernel
theorem dX11_fault_5 : decode cX11_fault 5 = .ok (.getfield 10, 3) := by decide +kernel
theorem dX11_fault_8 : decode cX11_fault 8 = .ok (.invokevirtual 91, 3) := by decide +kernel
theorem dX11_fault_11 : decode cX11_fault 11 = .ok (.ireturn, 1) := by decide +kernel
theorem dX11_road_0 : decode cX11_road 0 = .ok (.aload_n 0, 1) := by decide +kernel
theorem dX11_road_1 : decode cX11_road 1 = .ok (.getfield 28, 3) := by decide +kernel
theorem dX11_road_4 : decode cX11_road 4 = .ok (.aload_n 0, 1) := by decide +kernel
theorem dX11_road_5 : decode cX11_road 5 = .ok (.getfield 10, 3) := by decide +kernel
theorem dX11_road_8 : decode cX11_road 8 = .ok (.invokevirtual 91, 3) := by decide +kernel
theorem dX11_road_11 : decode cX11_road 11 = .ok (.iconst (-1), 1) := by decide +kernel
theorem dX11_road_12 : decode cX11_road 12 = .ok (.if_icmp .eq 6, 3) := by decide +kernel
theorem dX11_road_15 : decode cX11_road 15 = .ok (.bipush (-4), 2) := by decide +kernel
theorem dX11_road_17 : decode cX11_road 17 = .ok (.ireturn, 1) := by decide +kernel
theorem dX11_road_18 : decode cX11_road 18 = .ok (.aload_n 0, 1) := by decide +kernel
theorem dX11_road_19 : decode cX11_road 19 = .ok (.getfield 10, 3) := by decide +kernel
theorem dX11_road_22 : decode cX11_road 22 = .ok (.aload_n 0, 1) := by decide +kernel
theorem dX11_road_23 : decode cX11_road 23 = .ok (.getfield 28, 3) := by decide +kernel
theorem dX11_road_26 : decode cX11_road 26 = .ok (.getfield 95, 3) := by decide +kernel
theorem dX11_road_29 : decode cX11_road 29 = .ok (.invokevirtual 98, 3) := by decide +kernel
theorem dX11_road_32 : decode cX11_road 32 = .ok (.aload_n 0, 1) := by decide +kernel
theorem dX11_road_33 : decode cX11_road 33 = .ok (.getfield 19, 3) := by decide +kernel
theorem dX11_road_36 : decode cX11_road 36 = .ok (.invokevirtual 88, 3) := by decide +kernel
theorem dX11_road_39 : decode cX11_road 39 = .ok (.aload_n 0, 1) := by decide +kernel
theorem dX11_road_40 : decode cX11_road 40 = .ok (.invokevirtual 101, 3) := by decide +kernel
theorem dX11_road_43 : decode cX11_road 43 = .ok (.aload_n 0, 1) := by decide +kernel
theorem dX11_road_44 : decode cX11_road 44 = .ok (.getfield 28, 3) := by decide +kernel
theorem dX11_road_47 : decode cX11_road 47 = .ok (.getfield 104, 3) := by decide +kernel
theorem dX11_road_50 : decode cX11_road 50 = .ok (.ireturn, 1) := by decide +kernel
theorem dX11_hour_0 : decode cX11_hour 0 = .ok (.aload_n 0, 1) := by decide +kernel
theorem dX11_hour_1 : decode cX11_hour 1 = .ok (.getfield 10, 3) := by decide +kernel
theorem dX11_hour_4 : decode cX11_hour 4 = .ok (.iload_n 1, 1) := by decide +kernel
theorem dX11_hour_5 : decode cX11_hour 5 = .ok (.invokevirtual 107, 3) := by decide +kernel
theorem dX11_hour_8 : decode cX11_hour 8 = .ok (.ifCond .ne 6, 3) := by decide +kernel
theorem dX11_hour_11 : decode cX11_hour 11 = .ok (.bipush (-2), 2) := by decide +kernel
theorem dX11_hour_13 : decode cX11_hour 13 = .ok (.ireturn, 1) := by decide +kernel
theorem dX11_hour_14 : decode cX11_hour 14 = .ok (.iload_n 2, 1) := by decide +kernel
theorem dX11_hour_15 : decode cX11_hour 15 = .ok (.tableswitch 104 0 5 #[37, 47, 57, 67, 77, 94], 37) := by decide +kernel
theorem dX11_hour_52 : decode cX11_hour 52 = .ok (.aload_n 0, 1) := by decide +kernel
theorem dX11_hour_53 : decode cX11_hour 53 = .ok (.getfield 10, 3) := by decide +kernel
theorem dX11_hour_56 : decode cX11_hour 56 = .ok (.getfield 111, 3) := by decide +kernel
theorem dX11_hour_59 : decode cX11_hour 59 = .ok (.iload_n 1, 1) := by decide +kernel
theorem dX11_hour_60 : decode cX11_hour 60 = .ok (.iaload, 1) := by decide +kernel
theorem dX11_hour_61 : decode cX11_hour 61 = .ok (.ireturn, 1) := by decide +kernel
theorem dX11_hour_62 : decode cX11_hour 62 = .ok (.aload_n 0, 1) := by decide +kernel
theorem dX11_hour_63 : decode cX11_hour 63 = .ok (.getfield 10, 3) := by decide +kernel
theorem dX11_hour_66 : decode cX11_hour 66 = .ok (.getfield 115, 3) := by decide +kernel
theorem dX11_hour_69 : decode cX11_hour 69 = .ok (.iload_n 1, 1) := by decide +kernel
theorem dX11_hour_70 : decode cX11_hour 70 = .ok (.iaload, 1) := by decide +kernel
theorem dX11_hour_71 : decode cX11_hour 71 = .ok (.ireturn, 1) := by decide +kernel
theorem dX11_hour_72 : decode cX11_hour 72 = .ok (.aload_n 0, 1) := by decide +kernel
theorem dX11_hour_73 : decode cX11_hour 73 = .ok (.getfield 37, 3) := by decide +kernel
theorem dX11_hour_76 : decode cX11_hour 76 = .ok (.getfield 118, 3) := by decide +kernel
theorem dX11_hour_79 : decode cX11_hour 79 = .ok (.iload_n 1, 1) := by decide +kernel
theorem dX11_hour_80 : decode cX11_hour 80 = .ok (.iaload, 1) := by decide +kernel
theorem dX11_hour_81 : decode cX11_hour 81 = .ok (.ireturn, 1) := by decide +kernel
theorem dX11_hour_82 : decode cX11_hour 82 = .ok (.aload_n 0, 1) := by decide +kernel
theorem dX11_hour_83 : decode cX11_hour 83 = .ok (.getfield 37, 3) := by decide +kernel
theorem dX11_hour_86 : decode cX11_hour 86 = .ok (.getfield 121, 3) := by decide +kernel
theorem dX11_hour_89 : decode cX11_hour 89 = .ok (.iload_n 1, 1) := by decide +kernel
theorem dX11_hour_90 : decode cX11_hour 90 = .ok (.iaload, 1) := by decide +kernel
theorem dX11_hour_91 : decode cX11_hour 91 = .ok (.ireturn, 1) := by decide +kernel
theorem dX11_hour_92 : decode cX11_hour 92 = .ok (.aload_n 0, 1) := by decide +kernel
theorem dX11_hour_93 : decode cX11_hour 93 = .ok (.getfield 37, 3) := by decide +kernel
theorem dX11_hour_96 : decode cX11_hour 96 = .ok (.iload_n 1, 1) := by decide +kernel
theorem dX11_hour_97 : decode cX11_hour 97 = .ok (.invokevirtual 124, 3) := by decide +kernel
theorem dX11_hour_100 : decode cX11_hour 100 = .ok (.ifCond .eq 7, 3) := by decide +kernel
theorem dX11_hour_103 : decode cX11_hour 103 = .ok (.iconst 1, 1) := by decide +kernel
theorem dX11_hour_104 : decode cX11_hour 104 = .ok (.goto 4, 3) := by decide +kernel
theorem dX11_hour_107 : decode cX11_hour 107 = .ok (.iconst 0, 1) := by decide +kernel
theorem dX11_hour_108 : decode cX11_hour 108 = .ok (.ireturn, 1) := by decide +kernel
theorem dX11_hour_109 : decode cX11_hour 109 = .ok (.aload_n 0, 1) := by decide +kernel
theorem dX11_hour_110 : decode cX11_hour 110 = .ok (.getfield 37, 3) := by decide +kernel
theorem dX11_hour_113 : decode cX11_hour 113 = .ok (.getfield 127, 3) := by decide +kernel
theorem dX11_hour_116 : decode cX11_hour 116 = .ok (.iload_n 1, 1) := by decide +kernel
theorem dX11_hour_117 : decode cX11_hour 117 = .ok (.iaload, 1) := by decide +kernel
theorem dX11_hour_118 : decode cX11_hour 118 = .ok (.ireturn, 1) := by decide +kernel
theorem dX11_hour_119 : decode cX11_hour 119 = .ok (.bipush (-3), 2) := by decide +kernel
theorem dX11_hour_121 : decode cX11_hour 121 = .ok (.ireturn, 1) := by decide +kernel
theorem dX11_rider_0 : decode cX11_rider 0 = .ok (.aload_n 0, 1) := by decide +kernel
theorem dX11_rider_1 : decode cX11_rider 1 = .ok (.getfield 10, 3) := by decide +kernel
theorem dX11_rider_4 : decode cX11_rider 4 = .ok (.iload_n 1, 1) := by decide +kernel
theorem dX11_rider_5 : decode cX11_rider 5 = .ok (.invokevirtual 130, 3) := by decide +kernel
theorem dX11_rider_8 : decode cX11_rider 8 = .ok (.ifCond .ne 6, 3) := by decide +kernel
theorem dX11_rider_11 : decode cX11_rider 11 = .ok (.bipush (-2), 2) := by decide +kernel
theorem dX11_rider_13 : decode cX11_rider 13 = .ok (.ireturn, 1) := by decide +kernel
theorem dX11_rider_14 : decode cX11_rider 14 = .ok (.iload_n 2, 1) := by decide +kernel
theorem dX11_rider_15 : decode cX11_rider 15 = .ok (.tableswitch 55 0 2 #[25, 35, 45], 25) := by decide +kernel
theorem dX11_rider_40 : decode cX11_rider 40 = .ok (.aload_n 0, 1) := by decide +kernel
theorem dX11_rider_41 : decode cX11_rider 41 = .ok (.getfield 37, 3) := by decide +kernel
theorem dX11_rider_44 : decode cX11_rider 44 = .ok (.getfield 133, 3) := by decide +kernel
theorem dX11_rider_47 : decode cX11_rider 47 = .ok (.iload_n 1, 1) := by decide +kernel
theorem dX11_rider_48 : decode cX11_rider 48 = .ok (.iaload, 1) := by decide +kernel
theorem dX11_rider_49 : decode cX11_rider 49 = .ok (.ireturn, 1) := by decide +kernel
theorem dX11_rider_50 : decode cX11_rider 50 = .ok (.aload_n 0, 1) := by decide +kernel
theorem dX11_rider_51 : decode cX11_rider 51 = .ok (.getfield 37, 3) := by decide +kernel
theorem dX11_rider_54 : decode cX11_rider 54 = .ok (.getfield 136, 3) := by decide +kernel
theorem dX11_rider_57 : decode cX11_rider 57 = .ok (.iload_n 1, 1) := by decide +kernel
theorem dX11_rider_58 : decode cX11_rider 58 = .ok (.iaload, 1) := by decide +kernel
theorem dX11_rider_59 : decode cX11_rider 59 = .ok (.ireturn, 1) := by decide +kernel
theorem dX11_rider_60 : decode cX11_rider 60 = .ok (.aload_n 0, 1) := by decide +kernel
theorem dX11_rider_61 : decode cX11_rider 61 = .ok (.getfield 37, 3) := by decide +kernel
theorem dX11_rider_64 : decode cX11_rider 64 = .ok (.getfield 139, 3) := by decide +kernel
theorem dX11_rider_67 : decode cX11_rider 67 = .ok (.iload_n 1, 1) := by decide +kernel
theorem dX11_rider_68 : decode cX11_rider 68 = .ok (.iaload, 1) := by decide +kernel
theorem dX11_rider_69 : decode cX11_rider 69 = .ok (.ireturn, 1) := by decide +kernel
theorem dX11_rider_70 : decode cX11_rider 70 = .ok (.bipush (-3), 2) := by decide +kernel
theorem dX11_rider_72 : decode cX11_rider 72 = .ok (.ireturn, 1) := by decide +kernel
theorem dX11_inn_0 : decode cX11_inn 0 = .ok (.aload_n 0, 1) := by decide +kernel
theorem dX11_inn_1 : decode cX11_inn 1 = .ok (.getfield 10, 3) := by decide +kernel
theorem dX11_inn_4 : decode cX11_inn 4 = .ok (.iload_n 1, 1) := by decide +kernel
theorem dX11_inn_5 : decode cX11_inn 5 = .ok (.invokevirtual 142, 3) := by decide +kernel
theorem dX11_inn_8 : decode cX11_inn 8 = .ok (.ifCond .eq 15, 3) := by decide +kernel
theorem dX11_inn_11 : decode cX11_inn 11 = .ok (.aload_n 0, 1) := by decide +kernel
theorem dX11_inn_12 : decode cX11_inn 12 = .ok (.getfield 10, 3) := by decide +kernel
theorem dX11_inn_15 : decode cX11_inn 15 = .ok (.getfield 145, 3) := by decide +kernel
theorem dX11_inn_18 : decode cX11_inn 18 = .ok (.iload_n 1, 1) := by decide +kernel
theorem dX11_inn_19 : decode cX11_inn 19 = .ok (.iaload, 1) := by decide +kernel
theorem dX11_inn_20 : decode cX11_inn 20 = .ok (.goto 5, 3) := by decide +kernel
theorem dX11_inn_23 : decode cX11_inn 23 = .ok (.bipush (-2), 2) := by decide +kernel
theorem dX11_inn_25 : decode cX11_inn 25 = .ok (.ireturn, 1) := by decide +kernel
theorem dX11_as_0 : decode cX11_as 0 = .ok (.aload_n 0, 1) := by decide +kernel
theorem dX11_as_1 : decode cX11_as 1 = .ok (.getfield 10, 3) := by decide +kernel
theorem dX11_as_4 : decode cX11_as 4 = .ok (.iload_n 1, 1) := by decide +kernel
theorem dX11_as_5 : decode cX11_as 5 = .ok (.invokevirtual 107, 3) := by decide +kernel
theorem dX11_as_8 : decode cX11_as 8 = .ok (.ifCond .ne 6, 3) := by decide +kernel
theorem dX11_as_11 : decode cX11_as 11 = .ok (.bipush (-2), 2) := by decide +kernel
theorem dX11_as_13 : decode cX11_as 13 = .ok (.ireturn, 1) := by decide +kernel
theorem dX11_as_14 : decode cX11_as 14 = .ok (.iload_n 2, 1) := by decide +kernel
theorem dX11_as_15 : decode cX11_as 15 = .ok (.ifCond .lt 8, 3) := by decide +kernel
theorem dX11_as_18 : decode cX11_as 18 = .ok (.iload_n 2, 1) := by decide +kernel
theorem dX11_as_19 : decode cX11_as 19 = .ok (.iconst 5, 1) := by decide +kernel
theorem dX11_as_20 : decode cX11_as 20 = .ok (.if_icmp .le 6, 3) := by decide +kernel
theorem dX11_as_23 : decode cX11_as 23 = .ok (.bipush (-3), 2) := by decide +kernel
theorem dX11_as_25 : decode cX11_as 25 = .ok (.ireturn, 1) := by decide +kernel
theorem dX11_as_26 : decode cX11_as 26 = .ok (.aload_n 0, 1) := by decide +kernel
theorem dX11_as_27 : decode cX11_as 27 = .ok (.getfield 10, 3) := by decide +kernel
theorem dX11_as_30 : decode cX11_as 30 = .ok (.getfield 111, 3) := by decide +kernel
theorem dX11_as_33 : decode cX11_as 33 = .ok (.iload_n 1, 1) := by decide +kernel
theorem dX11_as_34 : decode cX11_as 34 = .ok (.iaload, 1) := by decide +kernel
theorem dX11_as_35 : decode cX11_as 35 = .ok (.istore_n 3, 1) := by decide +kernel
theorem dX11_as_36 : decode cX11_as 36 = .ok (.iload_n 3, 1) := by decide +kernel
theorem dX11_as_37 : decode cX11_as 37 = .ok (.iload_n 2, 1) := by decide +kernel
theorem dX11_as_38 : decode cX11_as 38 = .ok (.invokestatic 150, 3) := by decide +kernel
theorem dX11_as_41 : decode cX11_as 41 = .ok (.ifCond .eq 11, 3) := by decide +kernel
theorem dX11_as_44 : decode cX11_as 44 = .ok (.iload_n 3, 1) := by decide +kernel
theorem dX11_as_45 : decode cX11_as 45 = .ok (.iconst 5, 1) := by decide +kernel
theorem dX11_as_46 : decode cX11_as 46 = .ok (.invokestatic 154, 3) := by decide +kernel
theorem dX11_as_49 : decode cX11_as 49 = .ok (.goto 5, 3) := by decide +kernel
theorem dX11_as_52 : decode cX11_as 52 = .ok (.bipush (-4), 2) := by decide +kernel
theorem dX11_as_54 : decode cX11_as 54 = .ok (.ireturn, 1) := by decide +kernel
theorem dX11_stage_0 : decode cX11_stage 0 = .ok (.iload_n 1, 1) := by decide +kernel
theorem dX11_stage_1 : decode cX11_stage 1 = .ok (.iconst 1, 1) := by decide +kernel
theorem dX11_stage_2 : decode cX11_stage 2 = .ok (.if_icmp .lt 9, 3) := by decide +kernel
theorem dX11_stage_5 : decode cX11_stage 5 = .ok (.iload_n 1, 1) := by decide +kernel
theorem dX11_stage_6 : decode cX11_stage 6 = .ok (.bipush 12, 2) := by decide +kernel
theorem dX11_stage_8 : decode cX11_stage 8 = .ok (.if_icmp .le 6, 3) := by decide +kernel
theorem dX11_stage_11 : decode cX11_stage 11 = .ok (.bipush (-3), 2) := by decide +kernel
theorem dX11_stage_13 : decode cX11_stage 13 = .ok (.ireturn, 1) := by decide +kernel
theorem dX11_stage_14 : decode cX11_stage 14 = .ok (.aload_n 0, 1) := by decide +kernel
theorem dX11_stage_15 : decode cX11_stage 15 = .ok (.getfield 37, 3) := by decide +kernel
theorem dX11_stage_18 : decode cX11_stage 18 = .ok (.getfield 158, 3) := by decide +kernel
theorem dX11_stage_21 : decode cX11_stage 21 = .ok (.iload_n 1, 1) := by decide +kernel
theorem dX11_stage_22 : decode cX11_stage 22 = .ok (.iadd, 1) := by decide +kernel
theorem dX11_stage_23 : decode cX11_stage 23 = .ok (.sipush 999, 3) := by decide +kernel
theorem dX11_stage_26 : decode cX11_stage 26 = .ok (.if_icmp .le 6, 3) := by decide +kernel
theorem dX11_stage_29 : decode cX11_stage 29 = .ok (.bipush (-5), 2) := by decide +kernel
theorem dX11_stage_31 : decode cX11_stage 31 = .ok (.ireturn, 1) := by decide +kernel
theorem dX11_stage_32 : decode cX11_stage 32 = .ok (.aload_n 0, 1) := by decide +kernel
theorem dX11_stage_33 : decode cX11_stage 33 = .ok (.getfield 47, 3) := by decide +kernel
theorem dX11_stage_36 : decode cX11_stage 36 = .ok (.aload_n 0, 1) := by decide +kernel
theorem dX11_stage_37 : decode cX11_stage 37 = .ok (.getfield 37, 3) := by decide +kernel
theorem dX11_stage_40 : decode cX11_stage 40 = .ok (.invokevirtual 161, 3) := by decide +kernel
theorem dX11_stage_43 : decode cX11_stage 43 = .ok (.iconst 0, 1) := by decide +kernel
theorem dX11_stage_44 : decode cX11_stage 44 = .ok (.istore_n 2, 1) := by decide +kernel
theorem dX11_stage_45 : decode cX11_stage 45 = .ok (.iload_n 2, 1) := by decide +kernel
theorem dX11_stage_46 : decode cX11_stage 46 = .ok (.iload_n 1, 1) := by decide +kernel
theorem dX11_stage_47 : decode cX11_stage 47 = .ok (.if_icmp .ge 16, 3) := by decide +kernel
theorem dX11_stage_50 : decode cX11_stage 50 = .ok (.aload_n 0, 1) := by decide +kernel
theorem dX11_stage_51 : decode cX11_stage 51 = .ok (.getfield 37, 3) := by decide +kernel
theorem dX11_stage_54 : decode cX11_stage 54 = .ok (.invokevirtual 165, 3) := by decide +kernel
theorem dX11_stage_57 : decode cX11_stage 57 = .ok (.iinc 2 1, 3) := by decide +kernel
theorem dX11_stage_60 : decode cX11_stage 60 = .ok (.goto (-15), 3) := by decide +kernel
theorem dX11_stage_63 : decode cX11_stage 63 = .ok (.aload_n 0, 1) := by decide +kernel
theorem dX11_stage_64 : decode cX11_stage 64 = .ok (.getfield 37, 3) := by decide +kernel
theorem dX11_stage_67 : decode cX11_stage 67 = .ok (.getfield 158, 3) := by decide +kernel
theorem dX11_stage_70 : decode cX11_stage 70 = .ok (.ireturn, 1) := by decide +kernel
theorem dX11_oats_0 : decode cX11_oats 0 = .ok (.aload_n 0, 1) := by decide +kernel
theorem dX11_oats_1 : decode cX11_oats 1 = .ok (.getfield 10, 3) := by decide +kernel
theorem dX11_oats_4 : decode cX11_oats 4 = .ok (.iload_n 1, 1) := by decide +kernel
theorem dX11_oats_5 : decode cX11_oats 5 = .ok (.invokevirtual 107, 3) := by decide +kernel
theorem dX11_oats_8 : decode cX11_oats 8 = .ok (.ifCond .ne 6, 3) := by decide +kernel
theorem dX11_oats_11 : decode cX11_oats 11 = .ok (.bipush (-2), 2) := by decide +kernel
theorem dX11_oats_13 : decode cX11_oats 13 = .ok (.ireturn, 1) := by decide +kernel
theorem dX11_oats_14 : decode cX11_oats 14 = .ok (.aload_n 0, 1) := by decide +kernel
theorem dX11_oats_15 : decode cX11_oats 15 = .ok (.getfield 37, 3) := by decide +kernel
theorem dX11_oats_18 : decode cX11_oats 18 = .ok (.getfield 121, 3) := by decide +kernel
theorem dX11_oats_21 : decode cX11_oats 21 = .ok (.iload_n 1, 1) := by decide +kernel
theorem dX11_oats_22 : decode cX11_oats 22 = .ok (.iaload, 1) := by decide +kernel
theorem dX11_oats_23 : decode cX11_oats 23 = .ok (.ifCond .ne 6, 3) := by decide +kernel
theorem dX11_oats_26 : decode cX11_oats 26 = .ok (.bipush (-4), 2) := by decide +kernel
theorem dX11_oats_28 : decode cX11_oats 28 = .ok (.ireturn, 1) := by decide +kernel
theorem dX11_oats_29 : decode cX11_oats 29 = .ok (.aload_n 0, 1) := by decide +kernel
theorem dX11_oats_30 : decode cX11_oats 30 = .ok (.getfield 47, 3) := by decide +kernel
theorem dX11_oats_33 : decode cX11_oats 33 = .ok (.aload_n 0, 1) := by decide +kernel
theorem dX11_oats_34 : decode cX11_oats 34 = .ok (.getfield 37, 3) := by decide +kernel
theorem dX11_oats_37 : decode cX11_oats 37 = .ok (.invokevirtual 161, 3) := by decide +kernel
theorem dX11_oats_40 : decode cX11_oats 40 = .ok (.aload_n 0, 1) := by decide +kernel
theorem dX11_oats_41 : decode cX11_oats 41 = .ok (.getfield 37, 3) := by decide +kernel
theorem dX11_oats_44 : decode cX11_oats 44 = .ok (.iload_n 1, 1) := by decide +kernel
theorem dX11_oats_45 : decode cX11_oats 45 = .ok (.invokevirtual 168, 3) := by decide +kernel
theorem dX11_oats_48 : decode cX11_oats 48 = .ok (.aload_n 0, 1) := by decide +kernel
theorem dX11_oats_49 : decode cX11_oats 49 = .ok (.getfield 37, 3) := by decide +kernel
theorem dX11_oats_52 : decode cX11_oats 52 = .ok (.getfield 121, 3) := by decide +kernel
theorem dX11_oats_55 : decode cX11_oats 55 = .ok (.iload_n 1, 1) := by decide +kernel
theorem dX11_oats_56 : decode cX11_oats 56 = .ok (.iaload, 1) := by decide +kernel
theorem dX11_oats_57 : decode cX11_oats 57 = .ok (.ireturn, 1) := by decide +kernel
theorem dX11_shoe_0 : decode cX11_shoe 0 = .ok (.aload_n 0, 1) := by decide +kernel
theorem dX11_shoe_1 : decode cX11_shoe 1 = .ok (.getfield 10, 3) := by decide +kernel
theorem dX11_shoe_4 : decode cX11_shoe 4 = .ok (.iload_n 1, 1) := by decide +kernel
theorem dX11_shoe_5 : decode cX11_shoe 5 = .ok (.invokevirtual 107, 3) := by decide +kernel
theorem dX11_shoe_8 : decode cX11_shoe 8 = .ok (.ifCond .ne 6, 3) := by decide +kernel
theorem dX11_shoe_11 : decode cX11_shoe 11 = .ok (.bipush (-2), 2) := by decide +kernel
theorem dX11_shoe_13 : decode cX11_shoe 13 = .ok (.ireturn, 1) := by decide +kernel
theorem dX11_shoe_14 : decode cX11_shoe 14 = .ok (.aload_n 0, 1) := by decide +kernel
theorem dX11_shoe_15 : decode cX11_shoe 15 = .ok (.getfield 37, 3) := by decide +kernel
theorem dX11_shoe_18 : decode cX11_shoe 18 = .ok (.iload_n 1, 1) := by decide +kernel
theorem dX11_shoe_19 : decode cX11_shoe 19 = .ok (.invokevirtual 124, 3) := by decide +kernel
theorem dX11_shoe_22 : decode cX11_shoe 22 = .ok (.ifCond .ne 6, 3) := by decide +kernel
theorem dX11_shoe_25 : decode cX11_shoe 25 = .ok (.bipush (-4), 2) := by decide +kernel
theorem dX11_shoe_27 : decode cX11_shoe 27 = .ok (.ireturn, 1) := by decide +kernel
theorem dX11_shoe_28 : decode cX11_shoe 28 = .ok (.aload_n 0, 1) := by decide +kernel
theorem dX11_shoe_29 : decode cX11_shoe 29 = .ok (.getfield 47, 3) := by decide +kernel
theorem dX11_shoe_32 : decode cX11_shoe 32 = .ok (.aload_n 0, 1) := by decide +kernel
theorem dX11_shoe_33 : decode cX11_shoe 33 = .ok (.getfield 37, 3) := by decide +kernel
theorem dX11_shoe_36 : decode cX11_shoe 36 = .ok (.invokevirtual 161, 3) := by decide +kernel
theorem dX11_shoe_39 : decode cX11_shoe 39 = .ok (.aload_n 0, 1) := by decide +kernel
theorem dX11_shoe_40 : decode cX11_shoe 40 = .ok (.getfield 37, 3) := by decide +kernel
theorem dX11_shoe_43 : decode cX11_shoe 43 = .ok (.getfield 121, 3) := by decide +kernel
theorem dX11_shoe_46 : decode cX11_shoe 46 = .ok (.iload_n 1, 1) := by decide +kernel
theorem dX11_shoe_47 : decode cX11_shoe 47 = .ok (.iaload, 1) := by decide +kernel
theorem dX11_shoe_48 : decode cX11_shoe 48 = .ok (.istore_n 2, 1) := by decide +kernel
theorem dX11_shoe_49 : decode cX11_shoe 49 = .ok (.aload_n 0, 1) := by decide +kernel
theorem dX11_shoe_50 : decode cX11_shoe 50 = .ok (.getfield 37, 3) := by decide +kernel
theorem dX11_shoe_53 : decode cX11_shoe 53 = .ok (.iload_n 1, 1) := by decide +kernel
theorem dX11_shoe_54 : decode cX11_shoe 54 = .ok (.invokevirtual 171, 3) := by decide +kernel
theorem dX11_shoe_57 : decode cX11_shoe 57 = .ok (.iload_n 2, 1) := by decide +kernel
theorem dX11_shoe_58 : decode cX11_shoe 58 = .ok (.ireturn, 1) := by decide +kernel
theorem dX11_lead_0 : decode cX11_lead 0 = .ok (.aload_n 0, 1) := by decide +kernel
theorem dX11_lead_1 : decode cX11_lead 1 = .ok (.getfield 10, 3) := by decide +kernel
theorem dX11_lead_4 : decode cX11_lead 4 = .ok (.iload_n 1, 1) := by decide +kernel
theorem dX11_lead_5 : decode cX11_lead 5 = .ok (.invokevirtual 107, 3) := by decide +kernel
theorem dX11_lead_8 : decode cX11_lead 8 = .ok (.ifCond .eq 14, 3) := by decide +kernel
theorem dX11_lead_11 : decode cX11_lead 11 = .ok (.aload_n 0, 1) := by decide +kernel
theorem dX11_lead_12 : decode cX11_lead 12 = .ok (.getfield 10, 3) := by decide +kernel
theorem dX11_lead_15 : decode cX11_lead 15 = .ok (.iload_n 2, 1) := by decide +kernel
theorem dX11_lead_16 : decode cX11_lead 16 = .ok (.invokevirtual 142, 3) := by decide +kernel
theorem dX11_lead_19 : decode cX11_lead 19 = .ok (.ifCond .ne 6, 3) := by decide +kernel
theorem dX11_lead_22 : decode cX11_lead 22 = .ok (.bipush (-2), 2) := by decide +kernel
theorem dX11_lead_24 : decode cX11_lead 24 = .ok (.ireturn, 1) := by decide +kernel
theorem dX11_lead_25 : decode cX11_lead 25 = .ok (.aload_n 0, 1) := by decide +kernel
theorem dX11_lead_26 : decode cX11_lead 26 = .ok (.getfield 37, 3) := by decide +kernel
theorem dX11_lead_29 : decode cX11_lead 29 = .ok (.getfield 118, 3) := by decide +kernel
theorem dX11_lead_32 : decode cX11_lead 32 = .ok (.iload_n 1, 1) := by decide +kernel
theorem dX11_lead_33 : decode cX11_lead 33 = .ok (.iaload, 1) := by decide +kernel
theorem dX11_lead_34 : decode cX11_lead 34 = .ok (.istore_n 3, 1) := by decide +kernel
theorem dX11_lead_35 : decode cX11_lead 35 = .ok (.iload_n 3, 1) := by decide +kernel
theorem dX11_lead_36 : decode cX11_lead 36 = .ok (.iload_n 2, 1) := by decide +kernel
theorem dX11_lead_37 : decode cX11_lead 37 = .ok (.if_icmp .ne 6, 3) := by decide +kernel
theorem dX11_lead_40 : decode cX11_lead 40 = .ok (.bipush (-4), 2) := by decide +kernel
theorem dX11_lead_42 : decode cX11_lead 42 = .ok (.ireturn, 1) := by decide +kernel
theorem dX11_lead_43 : decode cX11_lead 43 = .ok (.aload_n 0, 1) := by decide +kernel
theorem dX11_lead_44 : decode cX11_lead 44 = .ok (.getfield 47, 3) := by decide +kernel
theorem dX11_lead_47 : decode cX11_lead 47 = .ok (.aload_n 0, 1) := by decide +kernel
theorem dX11_lead_48 : decode cX11_lead 48 = .ok (.getfield 37, 3) := by decide +kernel
end
section
theorem dX11_lead_51 : decode cX11_lead 51 = .ok (.invokevirtual 161, 3) := by decide +kernel
theorem dX11_lead_54 : decode cX11_lead 54 = .ok (.aload_n 0, 1) := by decide +kernel
theorem dX11_lead_55 : decode cX11_lead 55 = .ok (.getfield 37, 3) := by decide +kernel
theorem dX11_lead_58 : decode cX11_lead 58 = .ok (.getfield 118, 3) := by decide +kernel
theorem dX11_lead_61 : decode cX11_lead 61 = .ok (.iload_n 1, 1) := by decide +kernel
theorem dX11_lead_62 : decode cX11_lead 62 = .ok (.iload_n 2, 1) := by decide +kernel
theorem dX11_lead_63 : decode cX11_lead 63 = .ok (.iastore, 1) := by decide +kernel
theorem dX11_lead_64 : decode cX11_lead 64 = .ok (.iload_n 3, 1) := by decide +kernel
theorem dX11_lead_65 : decode cX11_lead 65 = .ok (.ireturn, 1) := by decide +kernel
theorem dX11_turn_0 : decode cX11_turn 0 = .ok (.aload_n 0, 1) := by decide +kernel
theorem dX11_turn_1 : decode cX11_turn 1 = .ok (.getfield 10, 3) := by decide +kernel
theorem dX11_turn_4 : decode cX11_turn 4 = .ok (.iload_n 1, 1) := by decide +kernel
theorem dX11_turn_5 : decode cX11_turn 5 = .ok (.invokevirtual 130, 3) := by decide +kernel
theorem dX11_turn_8 : decode cX11_turn 8 = .ok (.ifCond .eq 14, 3) := by decide +kernel
theorem dX11_turn_11 : decode cX11_turn 11 = .ok (.aload_n 0, 1) := by decide +kernel
theorem dX11_turn_12 : decode cX11_turn 12 = .ok (.getfield 10, 3) := by decide +kernel
theorem dX11_turn_15 : decode cX11_turn 15 = .ok (.iload_n 2, 1) := by decide +kernel
theorem dX11_turn_16 : decode cX11_turn 16 = .ok (.invokevirtual 142, 3) := by decide +kernel
theorem dX11_turn_19 : decode cX11_turn 19 = .ok (.ifCond .ne 6, 3) := by decide +kernel
theorem dX11_turn_22 : decode cX11_turn 22 = .ok (.bipush (-2), 2) := by decide +kernel
theorem dX11_turn_24 : decode cX11_turn 24 = .ok (.ireturn, 1) := by decide +kernel
theorem dX11_turn_25 : decode cX11_turn 25 = .ok (.aload_n 0, 1) := by decide +kernel
theorem dX11_turn_26 : decode cX11_turn 26 = .ok (.getfield 37, 3) := by decide +kernel
theorem dX11_turn_29 : decode cX11_turn 29 = .ok (.getfield 136, 3) := by decide +kernel
theorem dX11_turn_32 : decode cX11_turn 32 = .ok (.iload_n 1, 1) := by decide +kernel
theorem dX11_turn_33 : decode cX11_turn 33 = .ok (.iaload, 1) := by decide +kernel
theorem dX11_turn_34 : decode cX11_turn 34 = .ok (.istore_n 3, 1) := by decide +kernel
theorem dX11_turn_35 : decode cX11_turn 35 = .ok (.iload_n 3, 1) := by decide +kernel
theorem dX11_turn_36 : decode cX11_turn 36 = .ok (.iload_n 2, 1) := by decide +kernel
theorem dX11_turn_37 : decode cX11_turn 37 = .ok (.if_icmp .ne 6, 3) := by decide +kernel
theorem dX11_turn_40 : decode cX11_turn 40 = .ok (.bipush (-4), 2) := by decide +kernel
theorem dX11_turn_42 : decode cX11_turn 42 = .ok (.ireturn, 1) := by decide +kernel
theorem dX11_turn_43 : decode cX11_turn 43 = .ok (.aload_n 0, 1) := by decide +kernel
theorem dX11_turn_44 : decode cX11_turn 44 = .ok (.getfield 47, 3) := by decide +kernel
theorem dX11_turn_47 : decode cX11_turn 47 = .ok (.aload_n 0, 1) := by decide +kernel
theorem dX11_turn_48 : decode cX11_turn 48 = .ok (.getfield 37, 3) := by decide +kernel
theorem dX11_turn_51 : decode cX11_turn 51 = .ok (.invokevirtual 161, 3) := by decide +kernel
theorem dX11_turn_54 : decode cX11_turn 54 = .ok (.aload_n 0, 1) := by decide +kernel
theorem dX11_turn_55 : decode cX11_turn 55 = .ok (.getfield 37, 3) := by decide +kernel
theorem dX11_turn_58 : decode cX11_turn 58 = .ok (.getfield 136, 3) := by decide +kernel
theorem dX11_turn_61 : decode cX11_turn 61 = .ok (.iload_n 1, 1) := by decide +kernel
theorem dX11_turn_62 : decode cX11_turn 62 = .ok (.iload_n 2, 1) := by decide +kernel
theorem dX11_turn_63 : decode cX11_turn 63 = .ok (.iastore, 1) := by decide +kernel
theorem dX11_turn_64 : decode cX11_turn 64 = .ok (.iload_n 3, 1) := by decide +kernel
theorem dX11_turn_65 : decode cX11_turn 65 = .ok (.ireturn, 1) := by decide +kernel
theorem dX11_undo_0 : decode cX11_undo 0 = .ok (.aload_n 0, 1) := by decide +kernel
theorem dX11_undo_1 : decode cX11_undo 1 = .ok (.getfield 47, 3) := by decide +kernel
theorem dX11_undo_4 : decode cX11_undo 4 = .ok (.getfield 174, 3) := by decide +kernel
theorem dX11_undo_7 : decode cX11_undo 7 = .ok (.ifCond .ne 6, 3) := by decide +kernel
theorem dX11_undo_10 : decode cX11_undo 10 = .ok (.bipush (-4), 2) := by decide +kernel
theorem dX11_undo_12 : decode cX11_undo 12 = .ok (.ireturn, 1) := by decide +kernel
theorem dX11_undo_13 : decode cX11_undo 13 = .ok (.aload_n 0, 1) := by decide +kernel
theorem dX11_undo_14 : decode cX11_undo 14 = .ok (.getfield 47, 3) := by decide +kernel
theorem dX11_undo_17 : decode cX11_undo 17 = .ok (.aload_n 0, 1) := by decide +kernel
theorem dX11_undo_18 : decode cX11_undo 18 = .ok (.getfield 37, 3) := by decide +kernel
theorem dX11_undo_21 : decode cX11_undo 21 = .ok (.invokevirtual 177, 3) := by decide +kernel
theorem dX11_undo_24 : decode cX11_undo 24 = .ok (.aload_n 0, 1) := by decide +kernel
theorem dX11_undo_25 : decode cX11_undo 25 = .ok (.getfield 47, 3) := by decide +kernel
theorem dX11_undo_28 : decode cX11_undo 28 = .ok (.getfield 174, 3) := by decide +kernel
theorem dX11_undo_31 : decode cX11_undo 31 = .ok (.ireturn, 1) := by decide +kernel
theorem dX11_keep_0 : decode cX11_keep 0 = .ok (.iload_n 1, 1) := by decide +kernel
theorem dX11_keep_1 : decode cX11_keep 1 = .ok (.ifCond .lt 8, 3) := by decide +kernel
theorem dX11_keep_4 : decode cX11_keep 4 = .ok (.iload_n 1, 1) := by decide +kernel
theorem dX11_keep_5 : decode cX11_keep 5 = .ok (.iconst 2, 1) := by decide +kernel
theorem dX11_keep_6 : decode cX11_keep 6 = .ok (.if_icmp .lt 6, 3) := by decide +kernel
theorem dX11_keep_9 : decode cX11_keep 9 = .ok (.bipush (-2), 2) := by decide +kernel
theorem dX11_keep_11 : decode cX11_keep 11 = .ok (.ireturn, 1) := by decide +kernel
theorem dX11_keep_12 : decode cX11_keep 12 = .ok (.aload_n 0, 1) := by decide +kernel
theorem dX11_keep_13 : decode cX11_keep 13 = .ok (.getfield 51, 3) := by decide +kernel
theorem dX11_keep_16 : decode cX11_keep 16 = .ok (.iload_n 1, 1) := by decide +kernel
theorem dX11_keep_17 : decode cX11_keep 17 = .ok (.aaload, 1) := by decide +kernel
theorem dX11_keep_18 : decode cX11_keep 18 = .ok (.aload_n 0, 1) := by decide +kernel
theorem dX11_keep_19 : decode cX11_keep 19 = .ok (.getfield 37, 3) := by decide +kernel
theorem dX11_keep_22 : decode cX11_keep 22 = .ok (.invokevirtual 180, 3) := by decide +kernel
theorem dX11_keep_25 : decode cX11_keep 25 = .ok (.aload_n 0, 1) := by decide +kernel
theorem dX11_keep_26 : decode cX11_keep 26 = .ok (.getfield 55, 3) := by decide +kernel
theorem dX11_keep_29 : decode cX11_keep 29 = .ok (.iload_n 1, 1) := by decide +kernel
theorem dX11_keep_30 : decode cX11_keep 30 = .ok (.iconst 1, 1) := by decide +kernel
theorem dX11_keep_31 : decode cX11_keep 31 = .ok (.bastore, 1) := by decide +kernel
theorem dX11_keep_32 : decode cX11_keep 32 = .ok (.aload_n 0, 1) := by decide +kernel
theorem dX11_keep_33 : decode cX11_keep 33 = .ok (.getfield 37, 3) := by decide +kernel
theorem dX11_keep_36 : decode cX11_keep 36 = .ok (.getfield 158, 3) := by decide +kernel
theorem dX11_keep_39 : decode cX11_keep 39 = .ok (.ireturn, 1) := by decide +kernel
theorem dX11_back_0 : decode cX11_back 0 = .ok (.iload_n 1, 1) := by decide +kernel
theorem dX11_back_1 : decode cX11_back 1 = .ok (.ifCond .lt 8, 3) := by decide +kernel
theorem dX11_back_4 : decode cX11_back 4 = .ok (.iload_n 1, 1) := by decide +kernel
theorem dX11_back_5 : decode cX11_back 5 = .ok (.iconst 2, 1) := by decide +kernel
theorem dX11_back_6 : decode cX11_back 6 = .ok (.if_icmp .lt 6, 3) := by decide +kernel
theorem dX11_back_9 : decode cX11_back 9 = .ok (.bipush (-2), 2) := by decide +kernel
theorem dX11_back_11 : decode cX11_back 11 = .ok (.ireturn, 1) := by decide +kernel
theorem dX11_back_12 : decode cX11_back 12 = .ok (.aload_n 0, 1) := by decide +kernel
theorem dX11_back_13 : decode cX11_back 13 = .ok (.getfield 55, 3) := by decide +kernel
theorem dX11_back_16 : decode cX11_back 16 = .ok (.iload_n 1, 1) := by decide +kernel
theorem dX11_back_17 : decode cX11_back 17 = .ok (.baload, 1) := by decide +kernel
theorem dX11_back_18 : decode cX11_back 18 = .ok (.ifCond .ne 6, 3) := by decide +kernel
theorem dX11_back_21 : decode cX11_back 21 = .ok (.bipush (-4), 2) := by decide +kernel
theorem dX11_back_23 : decode cX11_back 23 = .ok (.ireturn, 1) := by decide +kernel
theorem dX11_back_24 : decode cX11_back 24 = .ok (.aload_n 0, 1) := by decide +kernel
theorem dX11_back_25 : decode cX11_back 25 = .ok (.getfield 37, 3) := by decide +kernel
theorem dX11_back_28 : decode cX11_back 28 = .ok (.aload_n 0, 1) := by decide +kernel
theorem dX11_back_29 : decode cX11_back 29 = .ok (.getfield 51, 3) := by decide +kernel
theorem dX11_back_32 : decode cX11_back 32 = .ok (.iload_n 1, 1) := by decide +kernel
theorem dX11_back_33 : decode cX11_back 33 = .ok (.aaload, 1) := by decide +kernel
theorem dX11_back_34 : decode cX11_back 34 = .ok (.invokevirtual 180, 3) := by decide +kernel
theorem dX11_back_37 : decode cX11_back 37 = .ok (.aload_n 0, 1) := by decide +kernel
theorem dX11_back_38 : decode cX11_back 38 = .ok (.getfield 47, 3) := by decide +kernel
theorem dX11_back_41 : decode cX11_back 41 = .ok (.invokevirtual 182, 3) := by decide +kernel
theorem dX11_back_44 : decode cX11_back 44 = .ok (.aload_n 0, 1) := by decide +kernel
theorem dX11_back_45 : decode cX11_back 45 = .ok (.getfield 37, 3) := by decide +kernel
theorem dX11_back_48 : decode cX11_back 48 = .ok (.getfield 158, 3) := by decide +kernel
theorem dX11_back_51 : decode cX11_back 51 = .ok (.ireturn, 1) := by decide +kernel
theorem dX11_given_0 : decode cX11_given 0 = .ok (.aload_n 0, 1) := by decide +kernel
theorem dX11_given_1 : decode cX11_given 1 = .ok (.getfield 10, 3) := by decide +kernel
theorem dX11_given_4 : decode cX11_given 4 = .ok (.iload_n 1, 1) := by decide +kernel
theorem dX11_given_5 : decode cX11_given 5 = .ok (.invokevirtual 130, 3) := by decide +kernel
theorem dX11_given_8 : decode cX11_given 8 = .ok (.ifCond .ne 6, 3) := by decide +kernel
theorem dX11_given_11 : decode cX11_given 11 = .ok (.bipush (-2), 2) := by decide +kernel
theorem dX11_given_13 : decode cX11_given 13 = .ok (.ireturn, 1) := by decide +kernel
theorem dX11_given_14 : decode cX11_given 14 = .ok (.aload_n 0, 1) := by decide +kernel
theorem dX11_given_15 : decode cX11_given 15 = .ok (.getfield 37, 3) := by decide +kernel
theorem dX11_given_18 : decode cX11_given 18 = .ok (.iload_n 1, 1) := by decide +kernel
theorem dX11_given_19 : decode cX11_given 19 = .ok (.invokevirtual 183, 3) := by decide +kernel
theorem dX11_given_22 : decode cX11_given 22 = .ok (.ifCond .eq 7, 3) := by decide +kernel
theorem dX11_given_25 : decode cX11_given 25 = .ok (.iconst (-1), 1) := by decide +kernel
theorem dX11_given_26 : decode cX11_given 26 = .ok (.goto 12, 3) := by decide +kernel
theorem dX11_given_29 : decode cX11_given 29 = .ok (.aload_n 0, 1) := by decide +kernel
theorem dX11_given_30 : decode cX11_given 30 = .ok (.getfield 37, 3) := by decide +kernel
theorem dX11_given_33 : decode cX11_given 33 = .ok (.iload_n 1, 1) := by decide +kernel
theorem dX11_given_34 : decode cX11_given 34 = .ok (.iconst 0, 1) := by decide +kernel
theorem dX11_given_35 : decode cX11_given 35 = .ok (.invokevirtual 186, 3) := by decide +kernel
theorem dX11_given_38 : decode cX11_given 38 = .ok (.ireturn, 1) := by decide +kernel
theorem dX11_ahead_0 : decode cX11_ahead 0 = .ok (.aload_n 0, 1) := by decide +kernel
theorem dX11_ahead_1 : decode cX11_ahead 1 = .ok (.getfield 10, 3) := by decide +kernel
theorem dX11_ahead_4 : decode cX11_ahead 4 = .ok (.iload_n 1, 1) := by decide +kernel
theorem dX11_ahead_5 : decode cX11_ahead 5 = .ok (.invokevirtual 107, 3) := by decide +kernel
theorem dX11_ahead_8 : decode cX11_ahead 8 = .ok (.ifCond .ne 6, 3) := by decide +kernel
theorem dX11_ahead_11 : decode cX11_ahead 11 = .ok (.bipush (-2), 2) := by decide +kernel
theorem dX11_ahead_13 : decode cX11_ahead 13 = .ok (.ireturn, 1) := by decide +kernel
theorem dX11_ahead_14 : decode cX11_ahead 14 = .ok (.iload_n 2, 1) := by decide +kernel
theorem dX11_ahead_15 : decode cX11_ahead 15 = .ok (.ifCond .lt 18, 3) := by decide +kernel
theorem dX11_ahead_18 : decode cX11_ahead 18 = .ok (.iload_n 2, 1) := by decide +kernel
theorem dX11_ahead_19 : decode cX11_ahead 19 = .ok (.bipush 60, 2) := by decide +kernel
theorem dX11_ahead_21 : decode cX11_ahead 21 = .ok (.if_icmp .gt 12, 3) := by decide +kernel
theorem dX11_ahead_24 : decode cX11_ahead 24 = .ok (.iload_n 3, 1) := by decide +kernel
theorem dX11_ahead_25 : decode cX11_ahead 25 = .ok (.ifCond .lt 8, 3) := by decide +kernel
theorem dX11_ahead_28 : decode cX11_ahead 28 = .ok (.iload_n 3, 1) := by decide +kernel
theorem dX11_ahead_29 : decode cX11_ahead 29 = .ok (.iconst 2, 1) := by decide +kernel
theorem dX11_ahead_30 : decode cX11_ahead 30 = .ok (.if_icmp .le 6, 3) := by decide +kernel
theorem dX11_ahead_33 : decode cX11_ahead 33 = .ok (.bipush (-3), 2) := by decide +kernel
theorem dX11_ahead_35 : decode cX11_ahead 35 = .ok (.ireturn, 1) := by decide +kernel
theorem dX11_ahead_36 : decode cX11_ahead 36 = .ok (.aload_n 0, 1) := by decide +kernel
theorem dX11_ahead_37 : decode cX11_ahead 37 = .ok (.getfield 41, 3) := by decide +kernel
theorem dX11_ahead_40 : decode cX11_ahead 40 = .ok (.aload_n 0, 1) := by decide +kernel
theorem dX11_ahead_41 : decode cX11_ahead 41 = .ok (.getfield 37, 3) := by decide +kernel
theorem dX11_ahead_44 : decode cX11_ahead 44 = .ok (.invokevirtual 180, 3) := by decide +kernel
theorem dX11_ahead_47 : decode cX11_ahead 47 = .ok (.iconst 0, 1) := by decide +kernel
theorem dX11_ahead_48 : decode cX11_ahead 48 = .ok (.istore 4, 2) := by decide +kernel
theorem dX11_ahead_50 : decode cX11_ahead 50 = .ok (.iload 4, 2) := by decide +kernel
theorem dX11_ahead_52 : decode cX11_ahead 52 = .ok (.iload_n 2, 1) := by decide +kernel
theorem dX11_ahead_53 : decode cX11_ahead 53 = .ok (.if_icmp .ge 16, 3) := by decide +kernel
theorem dX11_ahead_56 : decode cX11_ahead 56 = .ok (.aload_n 0, 1) := by decide +kernel
theorem dX11_ahead_57 : decode cX11_ahead 57 = .ok (.getfield 41, 3) := by decide +kernel
theorem dX11_ahead_60 : decode cX11_ahead 60 = .ok (.invokevirtual 165, 3) := by decide +kernel
theorem dX11_ahead_63 : decode cX11_ahead 63 = .ok (.iinc 4 1, 3) := by decide +kernel
theorem dX11_ahead_66 : decode cX11_ahead 66 = .ok (.goto (-16), 3) := by decide +kernel
theorem dX11_ahead_69 : decode cX11_ahead 69 = .ok (.iload_n 3, 1) := by decide +kernel
theorem dX11_ahead_70 : decode cX11_ahead 70 = .ok (.lookupswitch 46 #[(0, 26), (1, 36)], 26) := by decide +kernel
theorem dX11_ahead_96 : decode cX11_ahead 96 = .ok (.aload_n 0, 1) := by decide +kernel
theorem dX11_ahead_97 : decode cX11_ahead 97 = .ok (.getfield 41, 3) := by decide +kernel
theorem dX11_ahead_100 : decode cX11_ahead 100 = .ok (.getfield 118, 3) := by decide +kernel
theorem dX11_ahead_103 : decode cX11_ahead 103 = .ok (.iload_n 1, 1) := by decide +kernel
theorem dX11_ahead_104 : decode cX11_ahead 104 = .ok (.iaload, 1) := by decide +kernel
theorem dX11_ahead_105 : decode cX11_ahead 105 = .ok (.ireturn, 1) := by decide +kernel
theorem dX11_ahead_106 : decode cX11_ahead 106 = .ok (.aload_n 0, 1) := by decide +kernel
theorem dX11_ahead_107 : decode cX11_ahead 107 = .ok (.getfield 41, 3) := by decide +kernel
theorem dX11_ahead_110 : decode cX11_ahead 110 = .ok (.getfield 121, 3) := by decide +kernel
theorem dX11_ahead_113 : decode cX11_ahead 113 = .ok (.iload_n 1, 1) := by decide +kernel
theorem dX11_ahead_114 : decode cX11_ahead 114 = .ok (.iaload, 1) := by decide +kernel
theorem dX11_ahead_115 : decode cX11_ahead 115 = .ok (.ireturn, 1) := by decide +kernel
theorem dX11_ahead_116 : decode cX11_ahead 116 = .ok (.aload_n 0, 1) := by decide +kernel
theorem dX11_ahead_117 : decode cX11_ahead 117 = .ok (.getfield 41, 3) := by decide +kernel
theorem dX11_ahead_120 : decode cX11_ahead 120 = .ok (.iload_n 1, 1) := by decide +kernel
theorem dX11_ahead_121 : decode cX11_ahead 121 = .ok (.invokevirtual 124, 3) := by decide +kernel
theorem dX11_ahead_124 : decode cX11_ahead 124 = .ok (.ifCond .eq 7, 3) := by decide +kernel
theorem dX11_ahead_127 : decode cX11_ahead 127 = .ok (.iconst 1, 1) := by decide +kernel
theorem dX11_ahead_128 : decode cX11_ahead 128 = .ok (.goto 4, 3) := by decide +kernel
theorem dX11_ahead_131 : decode cX11_ahead 131 = .ok (.iconst 0, 1) := by decide +kernel
theorem dX11_ahead_132 : decode cX11_ahead 132 = .ok (.ireturn, 1) := by decide +kernel
theorem dX11_comes_0 : decode cX11_comes 0 = .ok (.aload_n 0, 1) := by decide +kernel
theorem dX11_comes_1 : decode cX11_comes 1 = .ok (.getfield 10, 3) := by decide +kernel
theorem dX11_comes_4 : decode cX11_comes 4 = .ok (.iload_n 1, 1) := by decide +kernel
theorem dX11_comes_5 : decode cX11_comes 5 = .ok (.invokevirtual 130, 3) := by decide +kernel
theorem dX11_comes_8 : decode cX11_comes 8 = .ok (.ifCond .ne 6, 3) := by decide +kernel
theorem dX11_comes_11 : decode cX11_comes 11 = .ok (.bipush (-2), 2) := by decide +kernel
theorem dX11_comes_13 : decode cX11_comes 13 = .ok (.ireturn, 1) := by decide +kernel
theorem dX11_comes_14 : decode cX11_comes 14 = .ok (.iload_n 2, 1) := by decide +kernel
theorem dX11_comes_15 : decode cX11_comes 15 = .ok (.ifCond .lt 8, 3) := by decide +kernel
theorem dX11_comes_18 : decode cX11_comes 18 = .ok (.iload_n 2, 1) := by decide +kernel
theorem dX11_comes_19 : decode cX11_comes 19 = .ok (.iconst 1, 1) := by decide +kernel
theorem dX11_comes_20 : decode cX11_comes 20 = .ok (.if_icmp .le 6, 3) := by decide +kernel
theorem dX11_comes_23 : decode cX11_comes 23 = .ok (.bipush (-3), 2) := by decide +kernel
theorem dX11_comes_25 : decode cX11_comes 25 = .ok (.ireturn, 1) := by decide +kernel
theorem dX11_comes_26 : decode cX11_comes 26 = .ok (.aload_n 0, 1) := by decide +kernel
theorem dX11_comes_27 : decode cX11_comes 27 = .ok (.getfield 41, 3) := by decide +kernel
theorem dX11_comes_30 : decode cX11_comes 30 = .ok (.aload_n 0, 1) := by decide +kernel
theorem dX11_comes_31 : decode cX11_comes 31 = .ok (.getfield 37, 3) := by decide +kernel
theorem dX11_comes_34 : decode cX11_comes 34 = .ok (.invokevirtual 180, 3) := by decide +kernel
theorem dX11_comes_37 : decode cX11_comes 37 = .ok (.aload_n 0, 1) := by decide +kernel
theorem dX11_comes_38 : decode cX11_comes 38 = .ok (.getfield 41, 3) := by decide +kernel
theorem dX11_comes_41 : decode cX11_comes 41 = .ok (.iload_n 1, 1) := by decide +kernel
theorem dX11_comes_42 : decode cX11_comes 42 = .ok (.bipush 60, 2) := by decide +kernel
theorem dX11_comes_44 : decode cX11_comes 44 = .ok (.invokevirtual 189, 3) := by decide +kernel
theorem dX11_comes_47 : decode cX11_comes 47 = .ok (.istore_n 3, 1) := by decide +kernel
theorem dX11_comes_48 : decode cX11_comes 48 = .ok (.iload_n 3, 1) := by decide +kernel
theorem dX11_comes_49 : decode cX11_comes 49 = .ok (.iconst (-1), 1) := by decide +kernel
theorem dX11_comes_50 : decode cX11_comes 50 = .ok (.if_icmp .eq 7, 3) := by decide +kernel
theorem dX11_comes_53 : decode cX11_comes 53 = .ok (.iload_n 2, 1) := by decide +kernel
theorem dX11_comes_54 : decode cX11_comes 54 = .ok (.ifCond .ne 7, 3) := by decide +kernel
theorem dX11_comes_57 : decode cX11_comes 57 = .ok (.iload_n 3, 1) := by decide +kernel
theorem dX11_comes_58 : decode cX11_comes 58 = .ok (.goto 12, 3) := by decide +kernel
theorem dX11_comes_61 : decode cX11_comes 61 = .ok (.aload_n 0, 1) := by decide +kernel
theorem dX11_comes_62 : decode cX11_comes 62 = .ok (.getfield 41, 3) := by decide +kernel
theorem dX11_comes_65 : decode cX11_comes 65 = .ok (.getfield 139, 3) := by decide +kernel
theorem dX11_comes_68 : decode cX11_comes 68 = .ok (.iload_n 1, 1) := by decide +kernel
theorem dX11_comes_69 : decode cX11_comes 69 = .ok (.iaload, 1) := by decide +kernel
theorem dX11_comes_70 : decode cX11_comes 70 = .ok (.ireturn, 1) := by decide +kernel
theorem dX11_match_0 : decode cX11_match 0 = .ok (.iload_n 1, 1) := by decide +kernel
theorem dX11_match_1 : decode cX11_match 1 = .ok (.iconst (-1), 1) := by decide +kernel
theorem dX11_match_2 : decode cX11_match 2 = .ok (.if_icmp .eq 17, 3) := by decide +kernel
theorem dX11_match_5 : decode cX11_match 5 = .ok (.aload_n 0, 1) := by decide +kernel
theorem dX11_match_6 : decode cX11_match 6 = .ok (.getfield 10, 3) := by decide +kernel
theorem dX11_match_9 : decode cX11_match 9 = .ok (.iload_n 1, 1) := by decide +kernel
theorem dX11_match_10 : decode cX11_match 10 = .ok (.invokevirtual 130, 3) := by decide +kernel
theorem dX11_match_13 : decode cX11_match 13 = .ok (.ifCond .ne 6, 3) := by decide +kernel
theorem dX11_match_16 : decode cX11_match 16 = .ok (.bipush (-2), 2) := by decide +kernel
theorem dX11_match_18 : decode cX11_match 18 = .ok (.ireturn, 1) := by decide +kernel
theorem dX11_match_19 : decode cX11_match 19 = .ok (.aload_n 0, 1) := by decide +kernel
theorem dX11_match_20 : decode cX11_match 20 = .ok (.getfield 62, 3) := by decide +kernel
theorem dX11_match_23 : decode cX11_match 23 = .ok (.aload_n 0, 1) := by decide +kernel
theorem dX11_match_24 : decode cX11_match 24 = .ok (.getfield 37, 3) := by decide +kernel
theorem dX11_match_27 : decode cX11_match 27 = .ok (.invokevirtual 192, 3) := by decide +kernel
theorem dX11_match_30 : decode cX11_match 30 = .ok (.aload_n 0, 1) := by decide +kernel
theorem dX11_match_31 : decode cX11_match 31 = .ok (.getfield 62, 3) := by decide +kernel
theorem dX11_match_34 : decode cX11_match 34 = .ok (.getfield 195, 3) := by decide +kernel
theorem dX11_match_37 : decode cX11_match 37 = .ok (.ifCond .ne 5, 3) := by decide +kernel
theorem dX11_match_40 : decode cX11_match 40 = .ok (.iconst (-1), 1) := by decide +kernel
theorem dX11_match_41 : decode cX11_match 41 = .ok (.ireturn, 1) := by decide +kernel
theorem dX11_match_42 : decode cX11_match 42 = .ok (.iload_n 1, 1) := by decide +kernel
theorem dX11_match_43 : decode cX11_match 43 = .ok (.iconst (-1), 1) := by decide +kernel
theorem dX11_match_44 : decode cX11_match 44 = .ok (.if_icmp .ne 13, 3) := by decide +kernel
theorem dX11_match_47 : decode cX11_match 47 = .ok (.aload_n 0, 1) := by decide +kernel
theorem dX11_match_48 : decode cX11_match 48 = .ok (.getfield 62, 3) := by decide +kernel
theorem dX11_match_51 : decode cX11_match 51 = .ok (.getfield 199, 3) := by decide +kernel
theorem dX11_match_54 : decode cX11_match 54 = .ok (.goto 12, 3) := by decide +kernel
theorem dX11_match_57 : decode cX11_match 57 = .ok (.aload_n 0, 1) := by decide +kernel
theorem dX11_match_58 : decode cX11_match 58 = .ok (.getfield 62, 3) := by decide +kernel
theorem dX11_match_61 : decode cX11_match 61 = .ok (.getfield 202, 3) := by decide +kernel
theorem dX11_match_64 : decode cX11_match 64 = .ok (.iload_n 1, 1) := by decide +kernel
theorem dX11_match_65 : decode cX11_match 65 = .ok (.iaload, 1) := by decide +kernel
theorem dX11_match_66 : decode cX11_match 66 = .ok (.ireturn, 1) := by decide +kernel
theorem dX11_fastest_0 : decode cX11_fastest 0 = .ok (.aload_n 0, 1) := by decide +kernel
theorem dX11_fastest_1 : decode cX11_fastest 1 = .ok (.getfield 10, 3) := by decide +kernel
theorem dX11_fastest_4 : decode cX11_fastest 4 = .ok (.iload_n 1, 1) := by decide +kernel
theorem dX11_fastest_5 : decode cX11_fastest 5 = .ok (.invokevirtual 130, 3) := by decide +kernel
theorem dX11_fastest_8 : decode cX11_fastest 8 = .ok (.ifCond .eq 14, 3) := by decide +kernel
theorem dX11_fastest_11 : decode cX11_fastest 11 = .ok (.aload_n 0, 1) := by decide +kernel
theorem dX11_fastest_12 : decode cX11_fastest 12 = .ok (.getfield 37, 3) := by decide +kernel
theorem dX11_fastest_15 : decode cX11_fastest 15 = .ok (.iload_n 1, 1) := by decide +kernel
theorem dX11_fastest_16 : decode cX11_fastest 16 = .ok (.invokevirtual 205, 3) := by decide +kernel
theorem dX11_fastest_19 : decode cX11_fastest 19 = .ok (.goto 5, 3) := by decide +kernel
theorem dX11_fastest_22 : decode cX11_fastest 22 = .ok (.bipush (-2), 2) := by decide +kernel
theorem dX11_fastest_24 : decode cX11_fastest 24 = .ok (.ireturn, 1) := by decide +kernel
theorem dX11_feed_0 : decode cX11_feed 0 = .ok (.aload_n 0, 1) := by decide +kernel
theorem dX11_feed_1 : decode cX11_feed 1 = .ok (.getfield 10, 3) := by decide +kernel
theorem dX11_feed_4 : decode cX11_feed 4 = .ok (.iload_n 1, 1) := by decide +kernel
theorem dX11_feed_5 : decode cX11_feed 5 = .ok (.invokevirtual 130, 3) := by decide +kernel
theorem dX11_feed_8 : decode cX11_feed 8 = .ok (.ifCond .ne 6, 3) := by decide +kernel
theorem dX11_feed_11 : decode cX11_feed 11 = .ok (.bipush (-2), 2) := by decide +kernel
theorem dX11_feed_13 : decode cX11_feed 13 = .ok (.ireturn, 1) := by decide +kernel
theorem dX11_feed_14 : decode cX11_feed 14 = .ok (.iload_n 2, 1) := by decide +kernel
theorem dX11_feed_15 : decode cX11_feed 15 = .ok (.iconst 1, 1) := by decide +kernel
theorem dX11_feed_16 : decode cX11_feed 16 = .ok (.if_icmp .lt 9, 3) := by decide +kernel
theorem dX11_feed_19 : decode cX11_feed 19 = .ok (.iload_n 2, 1) := by decide +kernel
theorem dX11_feed_20 : decode cX11_feed 20 = .ok (.bipush 40, 2) := by decide +kernel
theorem dX11_feed_22 : decode cX11_feed 22 = .ok (.if_icmp .le 6, 3) := by decide +kernel
theorem dX11_feed_25 : decode cX11_feed 25 = .ok (.bipush (-3), 2) := by decide +kernel
theorem dX11_feed_27 : decode cX11_feed 27 = .ok (.ireturn, 1) := by decide +kernel
theorem dX11_feed_28 : decode cX11_feed 28 = .ok (.aload_n 0, 1) := by decide +kernel
theorem dX11_feed_29 : decode cX11_feed 29 = .ok (.getfield 37, 3) := by decide +kernel
theorem dX11_feed_32 : decode cX11_feed 32 = .ok (.invokevirtual 209, 3) := by decide +kernel
theorem dX11_feed_35 : decode cX11_feed 35 = .ok (.iconst (-1), 1) := by decide +kernel
theorem dX11_feed_36 : decode cX11_feed 36 = .ok (.ixor, 1) := by decide +kernel
theorem dX11_feed_37 : decode cX11_feed 37 = .ok (.istore_n 3, 1) := by decide +kernel
theorem dX11_feed_38 : decode cX11_feed 38 = .ok (.iconst 1, 1) := by decide +kernel
theorem dX11_feed_39 : decode cX11_feed 39 = .ok (.aload_n 0, 1) := by decide +kernel
theorem dX11_feed_40 : decode cX11_feed 40 = .ok (.getfield 10, 3) := by decide +kernel
theorem dX11_feed_43 : decode cX11_feed 43 = .ok (.getfield 213, 3) := by decide +kernel
theorem dX11_feed_46 : decode cX11_feed 46 = .ok (.ishl, 1) := by decide +kernel
theorem dX11_feed_47 : decode cX11_feed 47 = .ok (.istore 4, 2) := by decide +kernel
theorem dX11_feed_49 : decode cX11_feed 49 = .ok (.iconst 0, 1) := by decide +kernel
theorem dX11_feed_50 : decode cX11_feed 50 = .ok (.istore 5, 2) := by decide +kernel
theorem dX11_feed_52 : decode cX11_feed 52 = .ok (.iload 5, 2) := by decide +kernel
theorem dX11_feed_54 : decode cX11_feed 54 = .ok (.iconst 3, 1) := by decide +kernel
theorem dX11_feed_55 : decode cX11_feed 55 = .ok (.if_icmp .gt 56, 3) := by decide +kernel
theorem dX11_feed_58 : decode cX11_feed 58 = .ok (.iconst 0, 1) := by decide +kernel
theorem dX11_feed_59 : decode cX11_feed 59 = .ok (.istore 6, 2) := by decide +kernel
theorem dX11_feed_61 : decode cX11_feed 61 = .ok (.iload 6, 2) := by decide +kernel
theorem dX11_feed_63 : decode cX11_feed 63 = .ok (.iload 4, 2) := by decide +kernel
theorem dX11_feed_65 : decode cX11_feed 65 = .ok (.if_icmp .ge 40, 3) := by decide +kernel
theorem dX11_feed_68 : decode cX11_feed 68 = .ok (.iload 6, 2) := by decide +kernel
theorem dX11_feed_70 : decode cX11_feed 70 = .ok (.invokestatic 216, 3) := by decide +kernel
theorem dX11_feed_73 : decode cX11_feed 73 = .ok (.iload 5, 2) := by decide +kernel
theorem dX11_feed_75 : decode cX11_feed 75 = .ok (.if_icmp .ne 24, 3) := by decide +kernel
theorem dX11_feed_78 : decode cX11_feed 78 = .ok (.iload 6, 2) := by decide +kernel
theorem dX11_feed_80 : decode cX11_feed 80 = .ok (.iload_n 3, 1) := by decide +kernel
theorem dX11_feed_81 : decode cX11_feed 81 = .ok (.iand, 1) := by decide +kernel
theorem dX11_feed_82 : decode cX11_feed 82 = .ok (.ifCond .ne 17, 3) := by decide +kernel
theorem dX11_feed_85 : decode cX11_feed 85 = .ok (.aload_n 0, 1) := by decide +kernel
theorem dX11_feed_86 : decode cX11_feed 86 = .ok (.iload_n 1, 1) := by decide +kernel
theorem dX11_feed_87 : decode cX11_feed 87 = .ok (.iload_n 2, 1) := by decide +kernel
theorem dX11_feed_88 : decode cX11_feed 88 = .ok (.iload 6, 2) := by decide +kernel
theorem dX11_feed_90 : decode cX11_feed 90 = .ok (.invokevirtual 221, 3) := by decide +kernel
theorem dX11_feed_93 : decode cX11_feed 93 = .ok (.ifCond .eq 6, 3) := by decide +kernel
theorem dX11_feed_96 : decode cX11_feed 96 = .ok (.iload 6, 2) := by decide +kernel
theorem dX11_feed_98 : decode cX11_feed 98 = .ok (.ireturn, 1) := by decide +kernel
theorem dX11_feed_99 : decode cX11_feed 99 = .ok (.iinc 6 1, 3) := by decide +kernel
theorem dX11_feed_102 : decode cX11_feed 102 = .ok (.goto (-41), 3) := by decide +kernel
theorem dX11_feed_105 : decode cX11_feed 105 = .ok (.iinc 5 1, 3) := by decide +kernel
theorem dX11_feed_108 : decode cX11_feed 108 = .ok (.goto (-56), 3) := by decide +kernel
theorem dX11_feed_111 : decode cX11_feed 111 = .ok (.iconst (-1), 1) := by decide +kernel
theorem dX11_feed_112 : decode cX11_feed 112 = .ok (.ireturn, 1) := by decide +kernel
theorem dX11_falls_0 : decode cX11_falls 0 = .ok (.iload_n 1, 1) := by decide +kernel
theorem dX11_falls_1 : decode cX11_falls 1 = .ok (.ifCond .lt 40, 3) := by decide +kernel
theorem dX11_falls_4 : decode cX11_falls 4 = .ok (.iload_n 1, 1) := by decide +kernel
theorem dX11_falls_5 : decode cX11_falls 5 = .ok (.bipush 9, 2) := by decide +kernel
theorem dX11_falls_7 : decode cX11_falls 7 = .ok (.if_icmp .gt 34, 3) := by decide +kernel
theorem dX11_falls_10 : decode cX11_falls 10 = .ok (.iload_n 2, 1) := by decide +kernel
theorem dX11_falls_11 : decode cX11_falls 11 = .ok (.ifCond .lt 30, 3) := by decide +kernel
theorem dX11_falls_14 : decode cX11_falls 14 = .ok (.iload_n 2, 1) := by decide +kernel
theorem dX11_falls_15 : decode cX11_falls 15 = .ok (.bipush 10, 2) := by decide +kernel
theorem dX11_falls_17 : decode cX11_falls 17 = .ok (.if_icmp .gt 24, 3) := by decide +kernel
theorem dX11_falls_20 : decode cX11_falls 20 = .ok (.iload_n 3, 1) := by decide +kernel
theorem dX11_falls_21 : decode cX11_falls 21 = .ok (.ifCond .lt 20, 3) := by decide +kernel
theorem dX11_falls_24 : decode cX11_falls 24 = .ok (.iload_n 3, 1) := by decide +kernel
theorem dX11_falls_25 : decode cX11_falls 25 = .ok (.bipush 9, 2) := by decide +kernel
theorem dX11_falls_27 : decode cX11_falls 27 = .ok (.if_icmp .gt 14, 3) := by decide +kernel
theorem dX11_falls_30 : decode cX11_falls 30 = .ok (.iload 4, 2) := by decide +kernel
theorem dX11_falls_32 : decode cX11_falls 32 = .ok (.ifCond .lt 9, 3) := by decide +kernel
theorem dX11_falls_35 : decode cX11_falls 35 = .ok (.iload 4, 2) := by decide +kernel
theorem dX11_falls_37 : decode cX11_falls 37 = .ok (.iconst 1, 1) := by decide +kernel
theorem dX11_falls_38 : decode cX11_falls 38 = .ok (.if_icmp .le 6, 3) := by decide +kernel
theorem dX11_falls_41 : decode cX11_falls 41 = .ok (.bipush (-3), 2) := by decide +kernel
theorem dX11_falls_43 : decode cX11_falls 43 = .ok (.ireturn, 1) := by decide +kernel
theorem dX11_falls_44 : decode cX11_falls 44 = .ok (.iload_n 1, 1) := by decide +kernel
theorem dX11_falls_45 : decode cX11_falls 45 = .ok (.iload_n 2, 1) := by decide +kernel
theorem dX11_falls_46 : decode cX11_falls 46 = .ok (.iload_n 3, 1) := by decide +kernel
theorem dX11_falls_47 : decode cX11_falls 47 = .ok (.iload 4, 2) := by decide +kernel
theorem dX11_falls_49 : decode cX11_falls 49 = .ok (.invokestatic 227, 3) := by decide +kernel
theorem dX11_falls_52 : decode cX11_falls 52 = .ok (.ireturn, 1) := by decide +kernel
theorem dX11_seen_0 : decode cX11_seen 0 = .ok (.iload_n 1, 1) := by decide +kernel
theorem dX11_seen_1 : decode cX11_seen 1 = .ok (.iconst 1, 1) := by decide +kernel
theorem dX11_seen_2 : decode cX11_seen 2 = .ok (.if_icmp .lt 29, 3) := by decide +kernel
theorem dX11_seen_5 : decode cX11_seen 5 = .ok (.iload_n 1, 1) := by decide +kernel
theorem dX11_seen_6 : decode cX11_seen 6 = .ok (.bipush 9, 2) := by decide +kernel
theorem dX11_seen_8 : decode cX11_seen 8 = .ok (.if_icmp .gt 23, 3) := by decide +kernel
theorem dX11_seen_11 : decode cX11_seen 11 = .ok (.iload_n 2, 1) := by decide +kernel
theorem dX11_seen_12 : decode cX11_seen 12 = .ok (.ifCond .lt 19, 3) := by decide +kernel
theorem dX11_seen_15 : decode cX11_seen 15 = .ok (.iload_n 2, 1) := by decide +kernel
theorem dX11_seen_16 : decode cX11_seen 16 = .ok (.bipush 20, 2) := by decide +kernel
theorem dX11_seen_18 : decode cX11_seen 18 = .ok (.if_icmp .gt 13, 3) := by decide +kernel
theorem dX11_seen_21 : decode cX11_seen 21 = .ok (.iload_n 3, 1) := by decide +kernel
theorem dX11_seen_22 : decode cX11_seen 22 = .ok (.ifCond .lt 9, 3) := by decide +kernel
theorem dX11_seen_25 : decode cX11_seen 25 = .ok (.iload_n 3, 1) := by decide +kernel
theorem dX11_seen_26 : decode cX11_seen 26 = .ok (.bipush 20, 2) := by decide +kernel
theorem dX11_seen_28 : decode cX11_seen 28 = .ok (.if_icmp .le 6, 3) := by decide +kernel
theorem dX11_seen_31 : decode cX11_seen 31 = .ok (.bipush (-3), 2) := by decide +kernel
theorem dX11_seen_33 : decode cX11_seen 33 = .ok (.ireturn, 1) := by decide +kernel
theorem dX11_seen_34 : decode cX11_seen 34 = .ok (.aload_n 0, 1) := by decide +kernel
theorem dX11_seen_35 : decode cX11_seen 35 = .ok (.getfield 69, 3) := by decide +kernel
theorem dX11_seen_38 : decode cX11_seen 38 = .ok (.getfield 231, 3) := by decide +kernel
theorem dX11_seen_41 : decode cX11_seen 41 = .ok (.bipush 6, 2) := by decide +kernel
theorem dX11_seen_43 : decode cX11_seen 43 = .ok (.if_icmp .lt 6, 3) := by decide +kernel
theorem dX11_seen_46 : decode cX11_seen 46 = .ok (.bipush (-5), 2) := by decide +kernel
theorem dX11_seen_48 : decode cX11_seen 48 = .ok (.ireturn, 1) := by decide +kernel
theorem dX11_seen_49 : decode cX11_seen 49 = .ok (.aload_n 0, 1) := by decide +kernel
theorem dX11_seen_50 : decode cX11_seen 50 = .ok (.getfield 69, 3) := by decide +kernel
theorem dX11_seen_53 : decode cX11_seen 53 = .ok (.iload_n 1, 1) := by decide +kernel
theorem dX11_seen_54 : decode cX11_seen 54 = .ok (.iload_n 2, 1) := by decide +kernel
theorem dX11_seen_55 : decode cX11_seen 55 = .ok (.iload_n 3, 1) := by decide +kernel
theorem dX11_seen_56 : decode cX11_seen 56 = .ok (.invokevirtual 232, 3) := by decide +kernel
theorem dX11_seen_59 : decode cX11_seen 59 = .ok (.aload_n 0, 1) := by decide +kernel
theorem dX11_seen_60 : decode cX11_seen 60 = .ok (.getfield 69, 3) := by decide +kernel
theorem dX11_seen_63 : decode cX11_seen 63 = .ok (.getfield 231, 3) := by decide +kernel
theorem dX11_seen_66 : decode cX11_seen 66 = .ok (.ireturn, 1) := by decide +kernel
theorem dX11_forget_0 : decode cX11_forget 0 = .ok (.aload_n 0, 1) := by decide +kernel
theorem dX11_forget_1 : decode cX11_forget 1 = .ok (.getfield 69, 3) := by decide +kernel
theorem dX11_forget_4 : decode cX11_forget 4 = .ok (.getfield 231, 3) := by decide +kernel
theorem dX11_forget_7 : decode cX11_forget 7 = .ok (.istore_n 1, 1) := by decide +kernel
theorem dX11_forget_8 : decode cX11_forget 8 = .ok (.aload_n 0, 1) := by decide +kernel
theorem dX11_forget_9 : decode cX11_forget 9 = .ok (.getfield 69, 3) := by decide +kernel
theorem dX11_forget_12 : decode cX11_forget 12 = .ok (.invokevirtual 235, 3) := by decide +kernel
theorem dX11_forget_15 : decode cX11_forget 15 = .ok (.iload_n 1, 1) := by decide +kernel
theorem dX11_forget_16 : decode cX11_forget 16 = .ok (.ireturn, 1) := by decide +kernel
theorem dX11_kinds_0 : decode cX11_kinds 0 = .ok (.aload_n 0, 1) := by decide +kernel
theorem dX11_kinds_1 : decode cX11_kinds 1 = .ok (.getfield 69, 3) := by decide +kernel
theorem dX11_kinds_4 : decode cX11_kinds 4 = .ok (.invokevirtual 236, 3) := by decide +kernel
theorem dX11_kinds_7 : decode cX11_kinds 7 = .ok (.ireturn, 1) := by decide +kernel
theorem dX11_ask_0 : decode cX11_ask 0 = .ok (.aload_n 0, 1) := by decide +kernel
theorem dX11_ask_1 : decode cX11_ask 1 = .ok (.getfield 69, 3) := by decide +kernel
theorem dX11_ask_4 : decode cX11_ask 4 = .ok (.invokevirtual 239, 3) := by decide +kernel
theorem dX11_ask_7 : decode cX11_ask 7 = .ok (.ireturn, 1) := by decide +kernel
theorem dX11_book_0 : decode cX11_book 0 = .ok (.aload_n 0, 1) := by decide +kernel
theorem dX11_book_1 : decode cX11_book 1 = .ok (.getfield 76, 3) := by decide +kernel
theorem dX11_book_4 : decode cX11_book 4 = .ok (.iload_n 1, 1) := by decide +kernel
theorem dX11_book_5 : decode cX11_book 5 = .ok (.invokevirtual 242, 3) := by decide +kernel
theorem dX11_book_8 : decode cX11_book 8 = .ok (.ifCond .ne 6, 3) := by decide +kernel
theorem dX11_book_11 : decode cX11_book 11 = .ok (.bipush (-2), 2) := by decide +kernel
theorem dX11_book_13 : decode cX11_book 13 = .ok (.ireturn, 1) := by decide +kernel
theorem dX11_book_14 : decode cX11_book 14 = .ok (.iload_n 2, 1) := by decide +kernel
theorem dX11_book_15 : decode cX11_book 15 = .ok (.bipush 10, 2) := by decide +kernel
theorem dX11_book_17 : decode cX11_book 17 = .ok (.if_icmp .le 6, 3) := by decide +kernel
theorem dX11_book_20 : decode cX11_book 20 = .ok (.bipush (-3), 2) := by decide +kernel
theorem dX11_book_22 : decode cX11_book 22 = .ok (.ireturn, 1) := by decide +kernel
theorem dX11_book_23 : decode cX11_book 23 = .ok (.iload_n 2, 1) := by decide +kernel
theorem dX11_book_24 : decode cX11_book 24 = .ok (.ifCond .ge 6, 3) := by decide +kernel
theorem dX11_book_27 : decode cX11_book 27 = .ok (.bipush (-15), 2) := by decide +kernel
theorem dX11_book_29 : decode cX11_book 29 = .ok (.ireturn, 1) := by decide +kernel
theorem dX11_book_30 : decode cX11_book 30 = .ok (.aload_n 0, 1) := by decide +kernel
theorem dX11_book_31 : decode cX11_book 31 = .ok (.getfield 76, 3) := by decide +kernel
theorem dX11_book_34 : decode cX11_book 34 = .ok (.getfield 245, 3) := by decide +kernel
theorem dX11_book_37 : decode cX11_book 37 = .ok (.iload_n 1, 1) := by decide +kernel
theorem dX11_book_38 : decode cX11_book 38 = .ok (.aaload, 1) := by decide +kernel
theorem dX11_book_39 : decode cX11_book 39 = .ok (.iload_n 2, 1) := by decide +kernel
theorem dX11_book_40 : decode cX11_book 40 = .ok (.invokevirtual 249, 3) := by decide +kernel
theorem dX11_book_43 : decode cX11_book 43 = .ok (.iload_n 2, 1) := by decide +kernel
theorem dX11_book_44 : decode cX11_book 44 = .ok (.ireturn, 1) := by decide +kernel
theorem dX11_enter_0 : decode cX11_enter 0 = .ok (.aload_n 0, 1) := by decide +kernel
theorem dX11_enter_1 : decode cX11_enter 1 = .ok (.getfield 76, 3) := by decide +kernel
theorem dX11_enter_4 : decode cX11_enter 4 = .ok (.iload_n 1, 1) := by decide +kernel
theorem dX11_enter_5 : decode cX11_enter 5 = .ok (.invokevirtual 242, 3) := by decide +kernel
theorem dX11_enter_8 : decode cX11_enter 8 = .ok (.ifCond .eq 37, 3) := by decide +kernel
theorem dX11_enter_11 : decode cX11_enter 11 = .ok (.iload_n 3, 1) := by decide +kernel
theorem dX11_enter_12 : decode cX11_enter 12 = .ok (.iconst 1, 1) := by decide +kernel
theorem dX11_enter_13 : decode cX11_enter 13 = .ok (.if_icmp .ne 15, 3) := by decide +kernel
theorem dX11_enter_16 : decode cX11_enter 16 = .ok (.aload_n 0, 1) := by decide +kernel
theorem dX11_enter_17 : decode cX11_enter 17 = .ok (.getfield 10, 3) := by decide +kernel
theorem dX11_enter_20 : decode cX11_enter 20 = .ok (.iload 4, 2) := by decide +kernel
theorem dX11_enter_22 : decode cX11_enter 22 = .ok (.invokevirtual 107, 3) := by decide +kernel
theorem dX11_enter_25 : decode cX11_enter 25 = .ok (.ifCond .eq 20, 3) := by decide +kernel
theorem dX11_enter_28 : decode cX11_enter 28 = .ok (.iload_n 3, 1) := by decide +kernel
theorem dX11_enter_29 : decode cX11_enter 29 = .ok (.iconst 2, 1) := by decide +kernel
theorem dX11_enter_30 : decode cX11_enter 30 = .ok (.if_icmp .ne 18, 3) := by decide +kernel
theorem dX11_enter_33 : decode cX11_enter 33 = .ok (.aload_n 0, 1) := by decide +kernel
theorem dX11_enter_34 : decode cX11_enter 34 = .ok (.getfield 76, 3) := by decide +kernel
theorem dX11_enter_37 : decode cX11_enter 37 = .ok (.iload 4, 2) := by decide +kernel
theorem dX11_enter_39 : decode cX11_enter 39 = .ok (.invokevirtual 242, 3) := by decide +kernel
theorem dX11_enter_42 : decode cX11_enter 42 = .ok (.ifCond .ne 6, 3) := by decide +kernel
theorem dX11_enter_45 : decode cX11_enter 45 = .ok (.bipush (-2), 2) := by decide +kernel
theorem dX11_enter_47 : decode cX11_enter 47 = .ok (.ireturn, 1) := by decide +kernel
theorem dX11_enter_48 : decode cX11_enter 48 = .ok (.iload_n 3, 1) := by decide +kernel
theorem dX11_enter_49 : decode cX11_enter 49 = .ok (.ifCond .lt 28, 3) := by decide +kernel
theorem dX11_enter_52 : decode cX11_enter 52 = .ok (.iload_n 3, 1) := by decide +kernel
theorem dX11_enter_53 : decode cX11_enter 53 = .ok (.iconst 3, 1) := by decide +kernel
theorem dX11_enter_54 : decode cX11_enter 54 = .ok (.if_icmp .gt 23, 3) := by decide +kernel
theorem dX11_enter_57 : decode cX11_enter 57 = .ok (.iload_n 3, 1) := by decide +kernel
theorem dX11_enter_58 : decode cX11_enter 58 = .ok (.ifCond .ne 22, 3) := by decide +kernel
theorem dX11_enter_61 : decode cX11_enter 61 = .ok (.iload 4, 2) := by decide +kernel
theorem dX11_enter_63 : decode cX11_enter 63 = .ok (.sipush (-9999), 3) := by decide +kernel
theorem dX11_enter_66 : decode cX11_enter 66 = .ok (.if_icmp .lt 11, 3) := by decide +kernel
theorem dX11_enter_69 : decode cX11_enter 69 = .ok (.iload 4, 2) := by decide +kernel
theorem dX11_enter_71 : decode cX11_enter 71 = .ok (.sipush 9999, 3) := by decide +kernel
theorem dX11_enter_74 : decode cX11_enter 74 = .ok (.if_icmp .le 6, 3) := by decide +kernel
theorem dX11_enter_77 : decode cX11_enter 77 = .ok (.bipush (-3), 2) := by decide +kernel
theorem dX11_enter_79 : decode cX11_enter 79 = .ok (.ireturn, 1) := by decide +kernel
theorem dX11_enter_80 : decode cX11_enter 80 = .ok (.aload_n 0, 1) := by decide +kernel
theorem dX11_enter_81 : decode cX11_enter 81 = .ok (.getfield 76, 3) := by decide +kernel
theorem dX11_enter_84 : decode cX11_enter 84 = .ok (.getfield 245, 3) := by decide +kernel
theorem dX11_enter_87 : decode cX11_enter 87 = .ok (.iload_n 1, 1) := by decide +kernel
theorem dX11_enter_88 : decode cX11_enter 88 = .ok (.aaload, 1) := by decide +kernel
theorem dX11_enter_89 : decode cX11_enter 89 = .ok (.astore 5, 2) := by decide +kernel
theorem dX11_enter_91 : decode cX11_enter 91 = .ok (.aload 5, 2) := by decide +kernel
theorem dX11_enter_93 : decode cX11_enter 93 = .ok (.invokevirtual 254, 3) := by decide +kernel
theorem dX11_enter_96 : decode cX11_enter 96 = .ok (.ifCond .eq 6, 3) := by decide +kernel
theorem dX11_enter_99 : decode cX11_enter 99 = .ok (.bipush (-11), 2) := by decide +kernel
theorem dX11_enter_101 : decode cX11_enter 101 = .ok (.ireturn, 1) := by decide +kernel
theorem dX11_enter_102 : decode cX11_enter 102 = .ok (.aload 5, 2) := by decide +kernel
theorem dX11_enter_104 : decode cX11_enter 104 = .ok (.iload_n 2, 1) := by decide +kernel
theorem dX11_enter_105 : decode cX11_enter 105 = .ok (.invokevirtual 258, 3) := by decide +kernel
theorem dX11_enter_108 : decode cX11_enter 108 = .ok (.ifCond .ne 6, 3) := by decide +kernel
theorem dX11_enter_111 : decode cX11_enter 111 = .ok (.bipush (-12), 2) := by decide +kernel
theorem dX11_enter_113 : decode cX11_enter 113 = .ok (.ireturn, 1) := by decide +kernel
theorem dX11_enter_114 : decode cX11_enter 114 = .ok (.aload 5, 2) := by decide +kernel
theorem dX11_enter_116 : decode cX11_enter 116 = .ok (.getfield 261, 3) := by decide +kernel
theorem dX11_enter_119 : decode cX11_enter 119 = .ok (.iload_n 2, 1) := by decide +kernel
theorem dX11_enter_120 : decode cX11_enter 120 = .ok (.iload_n 3, 1) := by decide +kernel
theorem dX11_enter_121 : decode cX11_enter 121 = .ok (.iastore, 1) := by decide +kernel
theorem dX11_enter_122 : decode cX11_enter 122 = .ok (.aload 5, 2) := by decide +kernel
theorem dX11_enter_124 : decode cX11_enter 124 = .ok (.getfield 264, 3) := by decide +kernel
theorem dX11_enter_127 : decode cX11_enter 127 = .ok (.iload_n 2, 1) := by decide +kernel
theorem dX11_enter_128 : decode cX11_enter 128 = .ok (.iload 4, 2) := by decide +kernel
theorem dX11_enter_130 : decode cX11_enter 130 = .ok (.iastore, 1) := by decide +kernel
theorem dX11_enter_131 : decode cX11_enter 131 = .ok (.iconst 1, 1) := by decide +kernel
theorem dX11_enter_132 : decode cX11_enter 132 = .ok (.ireturn, 1) := by decide +kernel
theorem dX11_read_0 : decode cX11_read 0 = .ok (.aload_n 0, 1) := by decide +kernel
theorem dX11_read_1 : decode cX11_read 1 = .ok (.getfield 76, 3) := by decide +kernel
theorem dX11_read_4 : decode cX11_read 4 = .ok (.iload_n 1, 1) := by decide +kernel
theorem dX11_read_5 : decode cX11_read 5 = .ok (.invokevirtual 242, 3) := by decide +kernel
theorem dX11_read_8 : decode cX11_read 8 = .ok (.ifCond .ne 6, 3) := by decide +kernel
theorem dX11_read_11 : decode cX11_read 11 = .ok (.bipush (-2), 2) := by decide +kernel
theorem dX11_read_13 : decode cX11_read 13 = .ok (.ireturn, 1) := by decide +kernel
theorem dX11_read_14 : decode cX11_read 14 = .ok (.iload_n 3, 1) := by decide +kernel
theorem dX11_read_15 : decode cX11_read 15 = .ok (.ifCond .lt 8, 3) := by decide +kernel
theorem dX11_read_18 : decode cX11_read 18 = .ok (.iload_n 3, 1) := by decide +kernel
theorem dX11_read_19 : decode cX11_read 19 = .ok (.iconst 2, 1) := by decide +kernel
theorem dX11_read_20 : decode cX11_read 20 = .ok (.if_icmp .le 6, 3) := by decide +kernel
theorem dX11_read_23 : decode cX11_read 23 = .ok (.bipush (-3), 2) := by decide +kernel
theorem dX11_read_25 : decode cX11_read 25 = .ok (.ireturn, 1) := by decide +kernel
theorem dX11_read_26 : decode cX11_read 26 = .ok (.aload_n 0, 1) := by decide +kernel
theorem dX11_read_27 : decode cX11_read 27 = .ok (.getfield 76, 3) := by decide +kernel
theorem dX11_read_30 : decode cX11_read 30 = .ok (.getfield 245, 3) := by decide +kernel
theorem dX11_read_33 : decode cX11_read 33 = .ok (.iload_n 1, 1) := by decide +kernel
theorem dX11_read_34 : decode cX11_read 34 = .ok (.aaload, 1) := by decide +kernel
theorem dX11_read_35 : decode cX11_read 35 = .ok (.astore 4, 2) := by decide +kernel
theorem dX11_read_37 : decode cX11_read 37 = .ok (.aload 4, 2) := by decide +kernel
theorem dX11_read_39 : decode cX11_read 39 = .ok (.invokevirtual 254, 3) := by decide +kernel
theorem dX11_read_42 : decode cX11_read 42 = .ok (.ifCond .eq 6, 3) := by decide +kernel
theorem dX11_read_45 : decode cX11_read 45 = .ok (.bipush (-11), 2) := by decide +kernel
theorem dX11_read_47 : decode cX11_read 47 = .ok (.ireturn, 1) := by decide +kernel
theorem dX11_read_48 : decode cX11_read 48 = .ok (.aload 4, 2) := by decide +kernel
theorem dX11_read_50 : decode cX11_read 50 = .ok (.iload_n 2, 1) := by decide +kernel
theorem dX11_read_51 : decode cX11_read 51 = .ok (.invokevirtual 258, 3) := by decide +kernel
theorem dX11_read_54 : decode cX11_read 54 = .ok (.ifCond .ne 6, 3) := by decide +kernel
theorem dX11_read_57 : decode cX11_read 57 = .ok (.bipush (-12), 2) := by decide +kernel
theorem dX11_read_59 : decode cX11_read 59 = .ok (.ireturn, 1) := by decide +kernel
theorem dX11_read_60 : decode cX11_read 60 = .ok (.aload 4, 2) := by decide +kernel
theorem dX11_read_62 : decode cX11_read 62 = .ok (.getfield 261, 3) := by decide +kernel
theorem dX11_read_65 : decode cX11_read 65 = .ok (.iload_n 2, 1) := by decide +kernel
theorem dX11_read_66 : decode cX11_read 66 = .ok (.iaload, 1) := by decide +kernel
theorem dX11_read_67 : decode cX11_read 67 = .ok (.iconst 3, 1) := by decide +kernel
theorem dX11_read_68 : decode cX11_read 68 = .ok (.if_icmp .ne 6, 3) := by decide +kernel
theorem dX11_read_71 : decode cX11_read 71 = .ok (.bipush (-13), 2) := by decide +kernel
theorem dX11_read_73 : decode cX11_read 73 = .ok (.ireturn, 1) := by decide +kernel
theorem dX11_read_74 : decode cX11_read 74 = .ok (.aload 4, 2) := by decide +kernel
theorem dX11_read_76 : decode cX11_read 76 = .ok (.getfield 261, 3) := by decide +kernel
theorem dX11_read_79 : decode cX11_read 79 = .ok (.iload_n 2, 1) := by decide +kernel
theorem dX11_read_80 : decode cX11_read 80 = .ok (.iaload, 1) := by decide +kernel
theorem dX11_read_81 : decode cX11_read 81 = .ok (.iload_n 3, 1) := by decide +kernel
theorem dX11_read_82 : decode cX11_read 82 = .ok (.if_icmp .eq 6, 3) := by decide +kernel
theorem dX11_read_85 : decode cX11_read 85 = .ok (.bipush (-14), 2) := by decide +kernel
theorem dX11_read_87 : decode cX11_read 87 = .ok (.ireturn, 1) := by decide +kernel
theorem dX11_read_88 : decode cX11_read 88 = .ok (.iload_n 3, 1) := by decide +kernel
theorem dX11_read_89 : decode cX11_read 89 = .ok (.ifCond .ne 17, 3) := by decide +kernel
theorem dX11_read_92 : decode cX11_read 92 = .ok (.aload 4, 2) := by decide +kernel
theorem dX11_read_94 : decode cX11_read 94 = .ok (.getfield 264, 3) := by decide +kernel
theorem dX11_read_97 : decode cX11_read 97 = .ok (.iload_n 2, 1) := by decide +kernel
theorem dX11_read_98 : decode cX11_read 98 = .ok (.iaload, 1) := by decide +kernel
theorem dX11_read_99 : decode cX11_read 99 = .ok (.ldc_w 267, 3) := by decide +kernel
theorem dX11_read_102 : decode cX11_read 102 = .ok (.iadd, 1) := by decide +kernel
theorem dX11_read_103 : decode cX11_read 103 = .ok (.goto 10, 3) := by decide +kernel
theorem dX11_read_106 : decode cX11_read 106 = .ok (.aload 4, 2) := by decide +kernel
theorem dX11_read_108 : decode cX11_read 108 = .ok (.getfield 264, 3) := by decide +kernel
theorem dX11_read_111 : decode cX11_read 111 = .ok (.iload_n 2, 1) := by decide +kernel
theorem dX11_read_112 : decode cX11_read 112 = .ok (.iaload, 1) := by decide +kernel
theorem dX11_read_113 : decode cX11_read 113 = .ok (.ireturn, 1) := by decide +kernel
theorem dX11_weigh_0 : decode cX11_weigh 0 = .ok (.aload_n 0, 1) := by decide +kernel
theorem dX11_weigh_1 : decode cX11_weigh 1 = .ok (.getfield 76, 3) := by decide +kernel
theorem dX11_weigh_4 : decode cX11_weigh 4 = .ok (.iload_n 1, 1) := by decide +kernel
theorem dX11_weigh_5 : decode cX11_weigh 5 = .ok (.invokevirtual 242, 3) := by decide +kernel
theorem dX11_weigh_8 : decode cX11_weigh 8 = .ok (.ifCond .ne 6, 3) := by decide +kernel
theorem dX11_weigh_11 : decode cX11_weigh 11 = .ok (.bipush (-2), 2) := by decide +kernel
theorem dX11_weigh_13 : decode cX11_weigh 13 = .ok (.ireturn, 1) := by decide +kernel
theorem dX11_weigh_14 : decode cX11_weigh 14 = .ok (.iload_n 2, 1) := by decide +kernel
theorem dX11_weigh_15 : decode cX11_weigh 15 = .ok (.ifCond .lt 8, 3) := by decide +kernel
theorem dX11_weigh_18 : decode cX11_weigh 18 = .ok (.iload_n 2, 1) := by decide +kernel
theorem dX11_weigh_19 : decode cX11_weigh 19 = .ok (.iconst 1, 1) := by decide +kernel
theorem dX11_weigh_20 : decode cX11_weigh 20 = .ok (.if_icmp .le 6, 3) := by decide +kernel
theorem dX11_weigh_23 : decode cX11_weigh 23 = .ok (.bipush (-3), 2) := by decide +kernel
theorem dX11_weigh_25 : decode cX11_weigh 25 = .ok (.ireturn, 1) := by decide +kernel
theorem dX11_weigh_26 : decode cX11_weigh 26 = .ok (.aload_n 0, 1) := by decide +kernel
theorem dX11_weigh_27 : decode cX11_weigh 27 = .ok (.getfield 76, 3) := by decide +kernel
theorem dX11_weigh_30 : decode cX11_weigh 30 = .ok (.getfield 245, 3) := by decide +kernel
theorem dX11_weigh_33 : decode cX11_weigh 33 = .ok (.iload_n 1, 1) := by decide +kernel
theorem dX11_weigh_34 : decode cX11_weigh 34 = .ok (.aaload, 1) := by decide +kernel
theorem dX11_weigh_35 : decode cX11_weigh 35 = .ok (.invokevirtual 254, 3) := by decide +kernel
theorem dX11_weigh_38 : decode cX11_weigh 38 = .ok (.ifCond .eq 6, 3) := by decide +kernel
theorem dX11_weigh_41 : decode cX11_weigh 41 = .ok (.bipush (-11), 2) := by decide +kernel
theorem dX11_weigh_43 : decode cX11_weigh 43 = .ok (.ireturn, 1) := by decide +kernel
theorem dX11_weigh_44 : decode cX11_weigh 44 = .ok (.aload_n 0, 1) := by decide +kernel
theorem dX11_weigh_45 : decode cX11_weigh 45 = .ok (.getfield 76, 3) := by decide +kernel
theorem dX11_weigh_48 : decode cX11_weigh 48 = .ok (.iload_n 1, 1) := by decide +kernel
theorem dX11_weigh_49 : decode cX11_weigh 49 = .ok (.invokevirtual 268, 3) := by decide +kernel
theorem dX11_weigh_52 : decode cX11_weigh 52 = .ok (.istore_n 3, 1) := by decide +kernel
theorem dX11_weigh_53 : decode cX11_weigh 53 = .ok (.iload_n 2, 1) := by decide +kernel
theorem dX11_weigh_54 : decode cX11_weigh 54 = .ok (.ifCond .ne 14, 3) := by decide +kernel
theorem dX11_weigh_57 : decode cX11_weigh 57 = .ok (.aload_n 0, 1) := by decide +kernel
theorem dX11_weigh_58 : decode cX11_weigh 58 = .ok (.getfield 76, 3) := by decide +kernel
theorem dX11_weigh_61 : decode cX11_weigh 61 = .ok (.iload_n 3, 1) := by decide +kernel
theorem dX11_weigh_62 : decode cX11_weigh 62 = .ok (.invokevirtual 271, 3) := by decide +kernel
theorem dX11_weigh_65 : decode cX11_weigh 65 = .ok (.goto 7, 3) := by decide +kernel
theorem dX11_weigh_68 : decode cX11_weigh 68 = .ok (.iload_n 3, 1) := by decide +kernel
theorem dX11_weigh_69 : decode cX11_weigh 69 = .ok (.invokestatic 216, 3) := by decide +kernel
theorem dX11_weigh_72 : decode cX11_weigh 72 = .ok (.ireturn, 1) := by decide +kernel
theorem dX11_copy_0 : decode cX11_copy 0 = .ok (.aload_n 0, 1) := by decide +kernel
theorem dX11_copy_1 : decode cX11_copy 1 = .ok (.getfield 76, 3) := by decide +kernel
theorem dX11_copy_4 : decode cX11_copy 4 = .ok (.iload_n 1, 1) := by decide +kernel
theorem dX11_copy_5 : decode cX11_copy 5 = .ok (.invokevirtual 242, 3) := by decide +kernel
theorem dX11_copy_8 : decode cX11_copy 8 = .ok (.ifCond .eq 14, 3) := by decide +kernel
theorem dX11_copy_11 : decode cX11_copy 11 = .ok (.aload_n 0, 1) := by decide +kernel
theorem dX11_copy_12 : decode cX11_copy 12 = .ok (.getfield 76, 3) := by decide +kernel
theorem dX11_copy_15 : decode cX11_copy 15 = .ok (.iload_n 3, 1) := by decide +kernel
theorem dX11_copy_16 : decode cX11_copy 16 = .ok (.invokevirtual 242, 3) := by decide +kernel
theorem dX11_copy_19 : decode cX11_copy 19 = .ok (.ifCond .ne 6, 3) := by decide +kernel
theorem dX11_copy_22 : decode cX11_copy 22 = .ok (.bipush (-2), 2) := by decide +kernel
theorem dX11_copy_24 : decode cX11_copy 24 = .ok (.ireturn, 1) := by decide +kernel
theorem dX11_copy_25 : decode cX11_copy 25 = .ok (.aload_n 0, 1) := by decide +kernel
theorem dX11_copy_26 : decode cX11_copy 26 = .ok (.getfield 76, 3) := by decide +kernel
theorem dX11_copy_29 : decode cX11_copy 29 = .ok (.getfield 245, 3) := by decide +kernel
theorem dX11_copy_32 : decode cX11_copy 32 = .ok (.iload_n 1, 1) := by decide +kernel
theorem dX11_copy_33 : decode cX11_copy 33 = .ok (.aaload, 1) := by decide +kernel
theorem dX11_copy_34 : decode cX11_copy 34 = .ok (.astore 6, 2) := by decide +kernel
theorem dX11_copy_36 : decode cX11_copy 36 = .ok (.aload_n 0, 1) := by decide +kernel
theorem dX11_copy_37 : decode cX11_copy 37 = .ok (.getfield 76, 3) := by decide +kernel
theorem dX11_copy_40 : decode cX11_copy 40 = .ok (.getfield 245, 3) := by decide +kernel
theorem dX11_copy_43 : decode cX11_copy 43 = .ok (.iload_n 3, 1) := by decide +kernel
theorem dX11_copy_44 : decode cX11_copy 44 = .ok (.aaload, 1) := by decide +kernel
theorem dX11_copy_45 : decode cX11_copy 45 = .ok (.astore 7, 2) := by decide +kernel
theorem dX11_copy_47 : decode cX11_copy 47 = .ok (.aload 6, 2) := by decide +kernel
theorem dX11_copy_49 : decode cX11_copy 49 = .ok (.invokevirtual 254, 3) := by decide +kernel
theorem dX11_copy_52 : decode cX11_copy 52 = .ok (.ifCond .ne 11, 3) := by decide +kernel
theorem dX11_copy_55 : decode cX11_copy 55 = .ok (.aload 7, 2) := by decide +kernel
theorem dX11_copy_57 : decode cX11_copy 57 = .ok (.invokevirtual 254, 3) := by decide +kernel
theorem dX11_copy_60 : decode cX11_copy 60 = .ok (.ifCond .eq 6, 3) := by decide +kernel
theorem dX11_copy_63 : decode cX11_copy 63 = .ok (.bipush (-11), 2) := by decide +kernel
theorem dX11_copy_65 : decode cX11_copy 65 = .ok (.ireturn, 1) := by decide +kernel
theorem dX11_copy_66 : decode cX11_copy 66 = .ok (.aload 6, 2) := by decide +kernel
theorem dX11_copy_68 : decode cX11_copy 68 = .ok (.iload_n 2, 1) := by decide +kernel
theorem dX11_copy_69 : decode cX11_copy 69 = .ok (.iload 5, 2) := by decide +kernel
theorem dX11_copy_71 : decode cX11_copy 71 = .ok (.invokevirtual 274, 3) := by decide +kernel
theorem dX11_copy_74 : decode cX11_copy 74 = .ok (.ifCond .eq 15, 3) := by decide +kernel
theorem dX11_copy_77 : decode cX11_copy 77 = .ok (.aload 7, 2) := by decide +kernel
theorem dX11_copy_79 : decode cX11_copy 79 = .ok (.iload 4, 2) := by decide +kernel
theorem dX11_copy_81 : decode cX11_copy 81 = .ok (.iload 5, 2) := by decide +kernel
theorem dX11_copy_83 : decode cX11_copy 83 = .ok (.invokevirtual 274, 3) := by decide +kernel
theorem dX11_copy_86 : decode cX11_copy 86 = .ok (.ifCond .ne 6, 3) := by decide +kernel
theorem dX11_copy_89 : decode cX11_copy 89 = .ok (.bipush (-12), 2) := by decide +kernel
theorem dX11_copy_91 : decode cX11_copy 91 = .ok (.ireturn, 1) := by decide +kernel
theorem dX11_copy_92 : decode cX11_copy 92 = .ok (.aload 6, 2) := by decide +kernel
theorem dX11_copy_94 : decode cX11_copy 94 = .ok (.getfield 261, 3) := by decide +kernel
theorem dX11_copy_97 : decode cX11_copy 97 = .ok (.iload_n 2, 1) := by decide +kernel
theorem dX11_copy_98 : decode cX11_copy 98 = .ok (.aload 7, 2) := by decide +kernel
theorem dX11_copy_100 : decode cX11_copy 100 = .ok (.getfield 261, 3) := by decide +kernel
theorem dX11_copy_103 : decode cX11_copy 103 = .ok (.iload 4, 2) := by decide +kernel
theorem dX11_copy_105 : decode cX11_copy 105 = .ok (.iload 5, 2) := by decide +kernel
theorem dX11_copy_107 : decode cX11_copy 107 = .ok (.invokestatic 277, 3) := by decide +kernel
theorem dX11_copy_110 : decode cX11_copy 110 = .ok (.aload 6, 2) := by decide +kernel
theorem dX11_copy_112 : decode cX11_copy 112 = .ok (.getfield 264, 3) := by decide +kernel
theorem dX11_copy_115 : decode cX11_copy 115 = .ok (.iload_n 2, 1) := by decide +kernel
theorem dX11_copy_116 : decode cX11_copy 116 = .ok (.aload 7, 2) := by decide +kernel
theorem dX11_copy_118 : decode cX11_copy 118 = .ok (.getfield 264, 3) := by decide +kernel
theorem dX11_copy_121 : decode cX11_copy 121 = .ok (.iload 4, 2) := by decide +kernel
theorem dX11_copy_123 : decode cX11_copy 123 = .ok (.iload 5, 2) := by decide +kernel
theorem dX11_copy_125 : decode cX11_copy 125 = .ok (.invokestatic 277, 3) := by decide +kernel
theorem dX11_copy_128 : decode cX11_copy 128 = .ok (.iload 5, 2) := by decide +kernel
theorem dX11_copy_130 : decode cX11_copy 130 = .ok (.ireturn, 1) := by decide +kernel
theorem dX11_drop_0 : decode cX11_drop 0 = .ok (.aload_n 0, 1) := by decide +kernel
theorem dX11_drop_1 : decode cX11_drop 1 = .ok (.getfield 76, 3) := by decide +kernel
theorem dX11_drop_4 : decode cX11_drop 4 = .ok (.iload_n 1, 1) := by decide +kernel
theorem dX11_drop_5 : decode cX11_drop 5 = .ok (.invokevirtual 242, 3) := by decide +kernel
theorem dX11_drop_8 : decode cX11_drop 8 = .ok (.ifCond .ne 6, 3) := by decide +kernel
theorem dX11_drop_11 : decode cX11_drop 11 = .ok (.bipush (-2), 2) := by decide +kernel
theorem dX11_drop_13 : decode cX11_drop 13 = .ok (.ireturn, 1) := by decide +kernel
theorem dX11_drop_14 : decode cX11_drop 14 = .ok (.aload_n 0, 1) := by decide +kernel
theorem dX11_drop_15 : decode cX11_drop 15 = .ok (.getfield 76, 3) := by decide +kernel
theorem dX11_drop_18 : decode cX11_drop 18 = .ok (.getfield 245, 3) := by decide +kernel
theorem dX11_drop_21 : decode cX11_drop 21 = .ok (.iload_n 1, 1) := by decide +kernel
theorem dX11_drop_22 : decode cX11_drop 22 = .ok (.aaload, 1) := by decide +kernel
theorem dX11_drop_23 : decode cX11_drop 23 = .ok (.astore_n 2, 1) := by decide +kernel
theorem dX11_drop_24 : decode cX11_drop 24 = .ok (.aload_n 2, 1) := by decide +kernel
theorem dX11_drop_25 : decode cX11_drop 25 = .ok (.invokevirtual 254, 3) := by decide +kernel
theorem dX11_drop_28 : decode cX11_drop 28 = .ok (.ifCond .eq 6, 3) := by decide +kernel
theorem dX11_drop_31 : decode cX11_drop 31 = .ok (.bipush (-11), 2) := by decide +kernel
theorem dX11_drop_33 : decode cX11_drop 33 = .ok (.ireturn, 1) := by decide +kernel
theorem dX11_drop_34 : decode cX11_drop 34 = .ok (.aload_n 2, 1) := by decide +kernel
theorem dX11_drop_35 : decode cX11_drop 35 = .ok (.invokevirtual 283, 3) := by decide +kernel
theorem dX11_drop_38 : decode cX11_drop 38 = .ok (.istore_n 3, 1) := by decide +kernel
theorem dX11_drop_39 : decode cX11_drop 39 = .ok (.aload_n 2, 1) := by decide +kernel
theorem dX11_drop_40 : decode cX11_drop 40 = .ok (.invokevirtual 286, 3) := by decide +kernel
theorem dX11_drop_43 : decode cX11_drop 43 = .ok (.iload_n 3, 1) := by decide +kernel
theorem dX11_drop_44 : decode cX11_drop 44 = .ok (.ireturn, 1) := by decide +kernel
theorem dX11_count_0 : decode cX11_count 0 = .ok (.iload_n 1, 1) := by decide +kernel
theorem dX11_count_1 : decode cX11_count 1 = .ok (.tableswitch 147 0 10 #[59, 67, 75, 83, 91, 99, 107, 115, 123, 131, 139], 59) := by decide +kernel
theorem dX11_count_60 : decode cX11_count 60 = .ok (.aload_n 0, 1) := by decide +kernel
theorem dX11_count_61 : decode cX11_count 61 = .ok (.getfield 10, 3) := by decide +kernel
theorem dX11_count_64 : decode cX11_count 64 = .ok (.getfield 289, 3) := by decide +kernel
theorem dX11_count_67 : decode cX11_count 67 = .ok (.ireturn, 1) := by decide +kernel
theorem dX11_count_68 : decode cX11_count 68 = .ok (.aload_n 0, 1) := by decide +kernel
theorem dX11_count_69 : decode cX11_count 69 = .ok (.getfield 10, 3) := by decide +kernel
theorem dX11_count_72 : decode cX11_count 72 = .ok (.getfield 213, 3) := by decide +kernel
theorem dX11_count_75 : decode cX11_count 75 = .ok (.ireturn, 1) := by decide +kernel
theorem dX11_count_76 : decode cX11_count 76 = .ok (.aload_n 0, 1) := by decide +kernel
theorem dX11_count_77 : decode cX11_count 77 = .ok (.getfield 10, 3) := by decide +kernel
theorem dX11_count_80 : decode cX11_count 80 = .ok (.getfield 292, 3) := by decide +kernel
theorem dX11_count_83 : decode cX11_count 83 = .ok (.ireturn, 1) := by decide +kernel
theorem dX11_count_84 : decode cX11_count 84 = .ok (.aload_n 0, 1) := by decide +kernel
theorem dX11_count_85 : decode cX11_count 85 = .ok (.getfield 37, 3) := by decide +kernel
theorem dX11_count_88 : decode cX11_count 88 = .ok (.getfield 158, 3) := by decide +kernel
theorem dX11_count_91 : decode cX11_count 91 = .ok (.ireturn, 1) := by decide +kernel
theorem dX11_count_92 : decode cX11_count 92 = .ok (.aload_n 0, 1) := by decide +kernel
theorem dX11_count_93 : decode cX11_count 93 = .ok (.getfield 37, 3) := by decide +kernel
theorem dX11_count_96 : decode cX11_count 96 = .ok (.getfield 295, 3) := by decide +kernel
theorem dX11_count_99 : decode cX11_count 99 = .ok (.ireturn, 1) := by decide +kernel
theorem dX11_count_100 : decode cX11_count 100 = .ok (.aload_n 0, 1) := by decide +kernel
theorem dX11_count_101 : decode cX11_count 101 = .ok (.getfield 37, 3) := by decide +kernel
theorem dX11_count_104 : decode cX11_count 104 = .ok (.invokevirtual 298, 3) := by decide +kernel
theorem dX11_count_107 : decode cX11_count 107 = .ok (.ireturn, 1) := by decide +kernel
theorem dX11_count_108 : decode cX11_count 108 = .ok (.aload_n 0, 1) := by decide +kernel
theorem dX11_count_109 : decode cX11_count 109 = .ok (.getfield 37, 3) := by decide +kernel
theorem dX11_count_112 : decode cX11_count 112 = .ok (.invokevirtual 301, 3) := by decide +kernel
theorem dX11_count_115 : decode cX11_count 115 = .ok (.ireturn, 1) := by decide +kernel
theorem dX11_count_116 : decode cX11_count 116 = .ok (.aload_n 0, 1) := by decide +kernel
theorem dX11_count_117 : decode cX11_count 117 = .ok (.getfield 69, 3) := by decide +kernel
theorem dX11_count_120 : decode cX11_count 120 = .ok (.getfield 231, 3) := by decide +kernel
theorem dX11_count_123 : decode cX11_count 123 = .ok (.ireturn, 1) := by decide +kernel
theorem dX11_count_124 : decode cX11_count 124 = .ok (.aload_n 0, 1) := by decide +kernel
theorem dX11_count_125 : decode cX11_count 125 = .ok (.getfield 76, 3) := by decide +kernel
theorem dX11_count_128 : decode cX11_count 128 = .ok (.invokevirtual 304, 3) := by decide +kernel
theorem dX11_count_131 : decode cX11_count 131 = .ok (.ireturn, 1) := by decide +kernel
theorem dX11_count_132 : decode cX11_count 132 = .ok (.aload_n 0, 1) := by decide +kernel
theorem dX11_count_133 : decode cX11_count 133 = .ok (.getfield 47, 3) := by decide +kernel
theorem dX11_count_136 : decode cX11_count 136 = .ok (.getfield 174, 3) := by decide +kernel
theorem dX11_count_139 : decode cX11_count 139 = .ok (.ireturn, 1) := by decide +kernel
theorem dX11_count_140 : decode cX11_count 140 = .ok (.aload_n 0, 1) := by decide +kernel
theorem dX11_count_141 : decode cX11_count 141 = .ok (.getfield 19, 3) := by decide +kernel
theorem dX11_count_144 : decode cX11_count 144 = .ok (.getfield 80, 3) := by decide +kernel
theorem dX11_count_147 : decode cX11_count 147 = .ok (.ireturn, 1) := by decide +kernel
theorem dX11_count_148 : decode cX11_count 148 = .ok (.bipush (-3), 2) := by decide +kernel
theorem dX11_count_150 : decode cX11_count 150 = .ok (.ireturn, 1) := by decide +kernel
theorem dX11_beginDay_0 : decode cX11_beginDay 0 = .ok (.aload_n 0, 1) := by decide +kernel
theorem dX11_beginDay_1 : decode cX11_beginDay 1 = .ok (.getfield 37, 3) := by decide +kernel
theorem dX11_beginDay_4 : decode cX11_beginDay 4 = .ok (.invokevirtual 307, 3) := by decide +kernel
theorem dX11_beginDay_7 : decode cX11_beginDay 7 = .ok (.aload_n 0, 1) := by decide +kernel
theorem dX11_beginDay_8 : decode cX11_beginDay 8 = .ok (.getfield 47, 3) := by decide +kernel
theorem dX11_beginDay_11 : decode cX11_beginDay 11 = .ok (.invokevirtual 182, 3) := by decide +kernel
theorem dX11_beginDay_14 : decode cX11_beginDay 14 = .ok (.iconst 0, 1) := by decide +kernel
theorem dX11_beginDay_15 : decode cX11_beginDay 15 = .ok (.istore_n 1, 1) := by decide +kernel
theorem dX11_beginDay_16 : decode cX11_beginDay 16 = .ok (.iload_n 1, 1) := by decide +kernel
theorem dX11_beginDay_17 : decode cX11_beginDay 17 = .ok (.aload_n 0, 1) := by decide +kernel
theorem dX11_beginDay_18 : decode cX11_beginDay 18 = .ok (.getfield 55, 3) := by decide +kernel
theorem dX11_beginDay_21 : decode cX11_beginDay 21 = .ok (.arraylength, 1) := by decide +kernel
theorem dX11_beginDay_22 : decode cX11_beginDay 22 = .ok (.if_icmp .ge 16, 3) := by decide +kernel
theorem dX11_beginDay_25 : decode cX11_beginDay 25 = .ok (.aload_n 0, 1) := by decide +kernel
theorem dX11_beginDay_26 : decode cX11_beginDay 26 = .ok (.getfield 55, 3) := by decide +kernel
theorem dX11_beginDay_29 : decode cX11_beginDay 29 = .ok (.iload_n 1, 1) := by decide +kernel
theorem dX11_beginDay_30 : decode cX11_beginDay 30 = .ok (.iconst 0, 1) := by decide +kernel
theorem dX11_beginDay_31 : decode cX11_beginDay 31 = .ok (.bastore, 1) := by decide +kernel
theorem dX11_beginDay_32 : decode cX11_beginDay 32 = .ok (.iinc 1 1, 3) := by decide +kernel
theorem dX11_beginDay_35 : decode cX11_beginDay 35 = .ok (.goto (-19), 3) := by decide +kernel
theorem dX11_beginDay_38 : decode cX11_beginDay 38 = .ok (.aload_n 0, 1) := by decide +kernel
theorem dX11_beginDay_39 : decode cX11_beginDay 39 = .ok (.getfield 69, 3) := by decide +kernel
theorem dX11_beginDay_42 : decode cX11_beginDay 42 = .ok (.invokevirtual 235, 3) := by decide +kernel
theorem dX11_beginDay_45 : decode cX11_beginDay 45 = .ok (.aload_n 0, 1) := by decide +kernel
theorem dX11_beginDay_46 : decode cX11_beginDay 46 = .ok (.getfield 76, 3) := by decide +kernel
theorem dX11_beginDay_49 : decode cX11_beginDay 49 = .ok (.invokevirtual 310, 3) := by decide +kernel
theorem dX11_beginDay_52 : decode cX11_beginDay 52 = .ok (.return_, 1) := by decide +kernel
theorem dX11_comesFed_0 : decode cX11_comesFed 0 = .ok (.aload_n 0, 1) := by decide +kernel
theorem dX11_comesFed_1 : decode cX11_comesFed 1 = .ok (.getfield 41, 3) := by decide +kernel
theorem dX11_comesFed_4 : decode cX11_comesFed 4 = .ok (.aload_n 0, 1) := by decide +kernel
theorem dX11_comesFed_5 : decode cX11_comesFed 5 = .ok (.getfield 37, 3) := by decide +kernel
theorem dX11_comesFed_8 : decode cX11_comesFed 8 = .ok (.invokevirtual 180, 3) := by decide +kernel
theorem dX11_comesFed_11 : decode cX11_comesFed 11 = .ok (.iconst 0, 1) := by decide +kernel
theorem dX11_comesFed_12 : decode cX11_comesFed 12 = .ok (.istore 4, 2) := by decide +kernel
theorem dX11_comesFed_14 : decode cX11_comesFed 14 = .ok (.iload 4, 2) := by decide +kernel
theorem dX11_comesFed_16 : decode cX11_comesFed 16 = .ok (.aload_n 0, 1) := by decide +kernel
theorem dX11_comesFed_17 : decode cX11_comesFed 17 = .ok (.getfield 10, 3) := by decide +kernel
theorem dX11_comesFed_20 : decode cX11_comesFed 20 = .ok (.getfield 213, 3) := by decide +kernel
theorem dX11_comesFed_23 : decode cX11_comesFed 23 = .ok (.if_icmp .ge 27, 3) := by decide +kernel
theorem dX11_comesFed_26 : decode cX11_comesFed 26 = .ok (.iload_n 3, 1) := by decide +kernel
theorem dX11_comesFed_27 : decode cX11_comesFed 27 = .ok (.iload 4, 2) := by decide +kernel
theorem dX11_comesFed_29 : decode cX11_comesFed 29 = .ok (.ishr, 1) := by decide +kernel
theorem dX11_comesFed_30 : decode cX11_comesFed 30 = .ok (.iconst 1, 1) := by decide +kernel
theorem dX11_comesFed_31 : decode cX11_comesFed 31 = .ok (.iand, 1) := by decide +kernel
theorem dX11_comesFed_32 : decode cX11_comesFed 32 = .ok (.ifCond .eq 12, 3) := by decide +kernel
theorem dX11_comesFed_35 : decode cX11_comesFed 35 = .ok (.aload_n 0, 1) := by decide +kernel
theorem dX11_comesFed_36 : decode cX11_comesFed 36 = .ok (.getfield 41, 3) := by decide +kernel
theorem dX11_comesFed_39 : decode cX11_comesFed 39 = .ok (.iload 4, 2) := by decide +kernel
theorem dX11_comesFed_41 : decode cX11_comesFed 41 = .ok (.invokevirtual 168, 3) := by decide +kernel
theorem dX11_comesFed_44 : decode cX11_comesFed 44 = .ok (.iinc 4 1, 3) := by decide +kernel
theorem dX11_comesFed_47 : decode cX11_comesFed 47 = .ok (.goto (-33), 3) := by decide +kernel
theorem dX11_comesFed_50 : decode cX11_comesFed 50 = .ok (.aload_n 0, 1) := by decide +kernel
theorem dX11_comesFed_51 : decode cX11_comesFed 51 = .ok (.getfield 41, 3) := by decide +kernel
theorem dX11_comesFed_54 : decode cX11_comesFed 54 = .ok (.iload_n 1, 1) := by decide +kernel
theorem dX11_comesFed_55 : decode cX11_comesFed 55 = .ok (.iload_n 2, 1) := by decide +kernel
theorem dX11_comesFed_56 : decode cX11_comesFed 56 = .ok (.invokevirtual 189, 3) := by decide +kernel
theorem dX11_comesFed_59 : decode cX11_comesFed 59 = .ok (.iconst (-1), 1) := by decide +kernel
theorem dX11_comesFed_60 : decode cX11_comesFed 60 = .ok (.if_icmp .eq 7, 3) := by decide +kernel
theorem dX11_comesFed_63 : decode cX11_comesFed 63 = .ok (.iconst 1, 1) := by decide +kernel
theorem dX11_comesFed_64 : decode cX11_comesFed 64 = .ok (.goto 4, 3) := by decide +kernel
theorem dX11_comesFed_67 : decode cX11_comesFed 67 = .ok (.iconst 0, 1) := by decide +kernel
theorem dX11_comesFed_68 : decode cX11_comesFed 68 = .ok (.ireturn, 1) := by decide +kernel
theorem dX12_init_0 : decode cX12_init 0 = .ok (.aload_n 0, 1) := by decide +kernel
theorem dX12_init_1 : decode cX12_init 1 = .ok (.invokespecial 1, 3) := by decide +kernel
theorem dX12_init_4 : decode cX12_init 4 = .ok (.aload_n 0, 1) := by decide +kernel
theorem dX12_init_5 : decode cX12_init 5 = .ok (.sipush 910, 3) := by decide +kernel
theorem dX12_init_8 : decode cX12_init 8 = .ok (.newarray .int, 2) := by decide +kernel
theorem dX12_init_10 : decode cX12_init 10 = .ok (.putfield 7, 3) := by decide +kernel
theorem dX12_init_13 : decode cX12_init 13 = .ok (.aload_n 0, 1) := by decide +kernel
theorem dX12_init_14 : decode cX12_init 14 = .ok (.iconst 2, 1) := by decide +kernel
theorem dX12_init_15 : decode cX12_init 15 = .ok (.newarray .boolean, 2) := by decide +kernel
theorem dX12_init_17 : decode cX12_init 17 = .ok (.putfield 13, 3) := by decide +kernel
theorem dX12_init_20 : decode cX12_init 20 = .ok (.aload_n 0, 1) := by decide +kernel
theorem dX12_init_21 : decode cX12_init 21 = .ok (.sipush 200, 3) := by decide +kernel
theorem dX12_init_24 : decode cX12_init 24 = .ok (.newarray .int, 2) := by decide +kernel
theorem dX12_init_26 : decode cX12_init 26 = .ok (.putfield 17, 3) := by decide +kernel
theorem dX12_init_29 : decode cX12_init 29 = .ok (.aload_n 0, 1) := by decide +kernel
theorem dX12_init_30 : decode cX12_init 30 = .ok (.bipush 6, 2) := by decide +kernel
theorem dX12_init_32 : decode cX12_init 32 = .ok (.newarray .int, 2) := by decide +kernel
theorem dX12_init_34 : decode cX12_init 34 = .ok (.putfield 20, 3) := by decide +kernel
theorem dX12_init_37 : decode cX12_init 37 = .ok (.aload_n 0, 1) := by decide +kernel
theorem dX12_init_38 : decode cX12_init 38 = .ok (.bipush 6, 2) := by decide +kernel
theorem dX12_init_40 : decode cX12_init 40 = .ok (.newarray .int, 2) := by decide +kernel
theorem dX12_init_42 : decode cX12_init 42 = .ok (.putfield 23, 3) := by decide +kernel
theorem dX12_init_45 : decode cX12_init 45 = .ok (.aload_n 0, 1) := by decide +kernel
theorem dX12_init_46 : decode cX12_init 46 = .ok (.bipush 6, 2) := by decide +kernel
theorem dX12_init_48 : decode cX12_init 48 = .ok (.newarray .int, 2) := by decide +kernel
theorem dX12_init_50 : decode cX12_init 50 = .ok (.putfield 26, 3) := by decide +kernel
theorem dX12_init_53 : decode cX12_init 53 = .ok (.aload_n 0, 1) := by decide +kernel
theorem dX12_init_54 : decode cX12_init 54 = .ok (.iconst 4, 1) := by decide +kernel
theorem dX12_init_55 : decode cX12_init 55 = .ok (.newarray .int, 2) := by decide +kernel
theorem dX12_init_57 : decode cX12_init 57 = .ok (.dup, 1) := by decide +kernel
theorem dX12_init_58 : decode cX12_init 58 = .ok (.iconst 0, 1) := by decide +kernel
theorem dX12_init_59 : decode cX12_init 59 = .ok (.iconst (-1), 1) := by decide +kernel
theorem dX12_init_60 : decode cX12_init 60 = .ok (.iastore, 1) := by decide +kernel
theorem dX12_init_61 : decode cX12_init 61 = .ok (.dup, 1) := by decide +kernel
theorem dX12_init_62 : decode cX12_init 62 = .ok (.iconst 1, 1) := by decide +kernel
theorem dX12_init_63 : decode cX12_init 63 = .ok (.iconst (-1), 1) := by decide +kernel
theorem dX12_init_64 : decode cX12_init 64 = .ok (.iastore, 1) := by decide +kernel
theorem dX12_init_65 : decode cX12_init 65 = .ok (.dup, 1) := by decide +kernel
theorem dX12_init_66 : decode cX12_init 66 = .ok (.iconst 2, 1) := by decide +kernel
theorem dX12_init_67 : decode cX12_init 67 = .ok (.iconst (-1), 1) := by decide +kernel
theorem dX12_init_68 : decode cX12_init 68 = .ok (.iastore, 1) := by decide +kernel
theorem dX12_init_69 : decode cX12_init 69 = .ok (.dup, 1) := by decide +kernel
theorem dX12_init_70 : decode cX12_init 70 = .ok (.iconst 3, 1) := by decide +kernel
theorem dX12_init_71 : decode cX12_init 71 = .ok (.iconst (-1), 1) := by decide +kernel
theorem dX12_init_72 : decode cX12_init 72 = .ok (.iastore, 1) := by decide +kernel
theorem dX12_init_73 : decode cX12_init 73 = .ok (.putfield 29, 3) := by decide +kernel
theorem dX12_init_76 : decode cX12_init 76 = .ok (.aload_n 0, 1) := by decide +kernel
theorem dX12_init_77 : decode cX12_init 77 = .ok (.bipush 40, 2) := by decide +kernel
theorem dX12_init_79 : decode cX12_init 79 = .ok (.newarray .int, 2) := by decide +kernel
theorem dX12_init_81 : decode cX12_init 81 = .ok (.putfield 32, 3) := by decide +kernel
theorem dX12_init_84 : decode cX12_init 84 = .ok (.aload_n 0, 1) := by decide +kernel
theorem dX12_init_85 : decode cX12_init 85 = .ok (.bipush 40, 2) := by decide +kernel
theorem dX12_init_87 : decode cX12_init 87 = .ok (.newarray .int, 2) := by decide +kernel
theorem dX12_init_89 : decode cX12_init 89 = .ok (.putfield 35, 3) := by decide +kernel
theorem dX12_init_92 : decode cX12_init 92 = .ok (.aload_n 0, 1) := by decide +kernel
theorem dX12_init_93 : decode cX12_init 93 = .ok (.iconst 2, 1) := by decide +kernel
theorem dX12_init_94 : decode cX12_init 94 = .ok (.newarray .int, 2) := by decide +kernel
theorem dX12_init_96 : decode cX12_init 96 = .ok (.putfield 38, 3) := by decide +kernel
theorem dX12_init_99 : decode cX12_init 99 = .ok (.aload_n 0, 1) := by decide +kernel
theorem dX12_init_100 : decode cX12_init 100 = .ok (.iconst 4, 1) := by decide +kernel
theorem dX12_init_101 : decode cX12_init 101 = .ok (.newarray .int, 2) := by decide +kernel
theorem dX12_init_103 : decode cX12_init 103 = .ok (.dup, 1) := by decide +kernel
theorem dX12_init_104 : decode cX12_init 104 = .ok (.iconst 0, 1) := by decide +kernel
theorem dX12_init_105 : decode cX12_init 105 = .ok (.bipush 114, 2) := by decide +kernel
theorem dX12_init_107 : decode cX12_init 107 = .ok (.iastore, 1) := by decide +kernel
theorem dX12_init_108 : decode cX12_init 108 = .ok (.dup, 1) := by decide +kernel
theorem dX12_init_109 : decode cX12_init 109 = .ok (.iconst 1, 1) := by decide +kernel
theorem dX12_init_110 : decode cX12_init 110 = .ok (.bipush 111, 2) := by decide +kernel
theorem dX12_init_112 : decode cX12_init 112 = .ok (.iastore, 1) := by decide +kernel
theorem dX12_init_113 : decode cX12_init 113 = .ok (.dup, 1) := by decide +kernel
theorem dX12_init_114 : decode cX12_init 114 = .ok (.iconst 2, 1) := by decide +kernel
theorem dX12_init_115 : decode cX12_init 115 = .ok (.bipush 97, 2) := by decide +kernel
theorem dX12_init_117 : decode cX12_init 117 = .ok (.iastore, 1) := by decide +kernel
theorem dX12_init_118 : decode cX12_init 118 = .ok (.dup, 1) := by decide +kernel
theorem dX12_init_119 : decode cX12_init 119 = .ok (.iconst 3, 1) := by decide +kernel
theorem dX12_init_120 : decode cX12_init 120 = .ok (.bipush 100, 2) := by decide +kernel
theorem dX12_init_122 : decode cX12_init 122 = .ok (.iastore, 1) := by decide +kernel
theorem dX12_init_123 : decode cX12_init 123 = .ok (.putfield 41, 3) := by decide +kernel
theorem dX12_init_126 : decode cX12_init 126 = .ok (.aload_n 0, 1) := by decide +kernel
theorem dX12_init_127 : decode cX12_init 127 = .ok (.iconst 3, 1) := by decide +kernel
theorem dX12_init_128 : decode cX12_init 128 = .ok (.newarray .int, 2) := by decide +kernel
theorem dX12_init_130 : decode cX12_init 130 = .ok (.dup, 1) := by decide +kernel
theorem dX12_init_131 : decode cX12_init 131 = .ok (.iconst 0, 1) := by decide +kernel
theorem dX12_init_132 : decode cX12_init 132 = .ok (.bipush 105, 2) := by decide +kernel
theorem dX12_init_134 : decode cX12_init 134 = .ok (.iastore, 1) := by decide +kernel
theorem dX12_init_135 : decode cX12_init 135 = .ok (.dup, 1) := by decide +kernel
theorem dX12_init_136 : decode cX12_init 136 = .ok (.iconst 1, 1) := by decide +kernel
theorem dX12_init_137 : decode cX12_init 137 = .ok (.bipush 110, 2) := by decide +kernel
theorem dX12_init_139 : decode cX12_init 139 = .ok (.iastore, 1) := by decide +kernel
theorem dX12_init_140 : decode cX12_init 140 = .ok (.dup, 1) := by decide +kernel
theorem dX12_init_141 : decode cX12_init 141 = .ok (.iconst 2, 1) := by decide +kernel
theorem dX12_init_142 : decode cX12_init 142 = .ok (.bipush 110, 2) := by decide +kernel
theorem dX12_init_144 : decode cX12_init 144 = .ok (.iastore, 1) := by decide +kernel
theorem dX12_init_145 : decode cX12_init 145 = .ok (.putfield 44, 3) := by decide +kernel
theorem dX12_init_148 : decode cX12_init 148 = .ok (.aload_n 0, 1) := by decide +kernel
theorem dX12_init_149 : decode cX12_init 149 = .ok (.iconst 4, 1) := by decide +kernel
theorem dX12_init_150 : decode cX12_init 150 = .ok (.newarray .int, 2) := by decide +kernel
theorem dX12_init_152 : decode cX12_init 152 = .ok (.dup, 1) := by decide +kernel
theorem dX12_init_153 : decode cX12_init 153 = .ok (.iconst 0, 1) := by decide +kernel
theorem dX12_init_154 : decode cX12_init 154 = .ok (.bipush 104, 2) := by decide +kernel
theorem dX12_init_156 : decode cX12_init 156 = .ok (.iastore, 1) := by decide +kernel
theorem dX12_init_157 : decode cX12_init 157 = .ok (.dup, 1) := by decide +kernel
theorem dX12_init_158 : decode cX12_init 158 = .ok (.iconst 1, 1) := by decide +kernel
theorem dX12_init_159 : decode cX12_init 159 = .ok (.bipush 97, 2) := by decide +kernel
theorem dX12_init_161 : decode cX12_init 161 = .ok (.iastore, 1) := by decide +kernel
theorem dX12_init_162 : decode cX12_init 162 = .ok (.dup, 1) := by decide +kernel
theorem dX12_init_163 : decode cX12_init 163 = .ok (.iconst 2, 1) := by decide +kernel
theorem dX12_init_164 : decode cX12_init 164 = .ok (.bipush 99, 2) := by decide +kernel
theorem dX12_init_166 : decode cX12_init 166 = .ok (.iastore, 1) := by decide +kernel
theorem dX12_init_167 : decode cX12_init 167 = .ok (.dup, 1) := by decide +kernel
theorem dX12_init_168 : decode cX12_init 168 = .ok (.iconst 3, 1) := by decide +kernel
theorem dX12_init_169 : decode cX12_init 169 = .ok (.bipush 107, 2) := by decide +kernel
theorem dX12_init_171 : decode cX12_init 171 = .ok (.iastore, 1) := by decide +kernel
theorem dX12_init_172 : decode cX12_init 172 = .ok (.putfield 47, 3) := by decide +kernel
theorem dX12_init_175 : decode cX12_init 175 = .ok (.aload_n 0, 1) := by decide +kernel
theorem dX12_init_176 : decode cX12_init 176 = .ok (.bipush 7, 2) := by decide +kernel
theorem dX12_init_178 : decode cX12_init 178 = .ok (.newarray .int, 2) := by decide +kernel
theorem dX12_init_180 : decode cX12_init 180 = .ok (.dup, 1) := by decide +kernel
theorem dX12_init_181 : decode cX12_init 181 = .ok (.iconst 0, 1) := by decide +kernel
theorem dX12_init_182 : decode cX12_init 182 = .ok (.bipush 118, 2) := by decide +kernel
theorem dX12_init_184 : decode cX12_init 184 = .ok (.iastore, 1) := by decide +kernel
theorem dX12_init_185 : decode cX12_init 185 = .ok (.dup, 1) := by decide +kernel
theorem dX12_init_186 : decode cX12_init 186 = .ok (.iconst 1, 1) := by decide +kernel
theorem dX12_init_187 : decode cX12_init 187 = .ok (.bipush 105, 2) := by decide +kernel
theorem dX12_init_189 : decode cX12_init 189 = .ok (.iastore, 1) := by decide +kernel
theorem dX12_init_190 : decode cX12_init 190 = .ok (.dup, 1) := by decide +kernel
theorem dX12_init_191 : decode cX12_init 191 = .ok (.iconst 2, 1) := by decide +kernel
theorem dX12_init_192 : decode cX12_init 192 = .ok (.bipush 99, 2) := by decide +kernel
theorem dX12_init_194 : decode cX12_init 194 = .ok (.iastore, 1) := by decide +kernel
theorem dX12_init_195 : decode cX12_init 195 = .ok (.dup, 1) := by decide +kernel
theorem dX12_init_196 : decode cX12_init 196 = .ok (.iconst 3, 1) := by decide +kernel
theorem dX12_init_197 : decode cX12_init 197 = .ok (.bipush 105, 2) := by decide +kernel
theorem dX12_init_199 : decode cX12_init 199 = .ok (.iastore, 1) := by decide +kernel
theorem dX12_init_200 : decode cX12_init 200 = .ok (.dup, 1) := by decide +kernel
theorem dX12_init_201 : decode cX12_init 201 = .ok (.iconst 4, 1) := by decide +kernel
theorem dX12_init_202 : decode cX12_init 202 = .ok (.bipush 111, 2) := by decide +kernel
theorem dX12_init_204 : decode cX12_init 204 = .ok (.iastore, 1) := by decide +kernel
theorem dX12_init_205 : decode cX12_init 205 = .ok (.dup, 1) := by decide +kernel
theorem dX12_init_206 : decode cX12_init 206 = .ok (.iconst 5, 1) := by decide +kernel
theorem dX12_init_207 : decode cX12_init 207 = .ok (.bipush 117, 2) := by decide +kernel
theorem dX12_init_209 : decode cX12_init 209 = .ok (.iastore, 1) := by decide +kernel
theorem dX12_init_210 : decode cX12_init 210 = .ok (.dup, 1) := by decide +kernel
theorem dX12_init_211 : decode cX12_init 211 = .ok (.bipush 6, 2) := by decide +kernel
theorem dX12_init_213 : decode cX12_init 213 = .ok (.bipush 115, 2) := by decide +kernel
theorem dX12_init_215 : decode cX12_init 215 = .ok (.iastore, 1) := by decide +kernel
theorem dX12_init_216 : decode cX12_init 216 = .ok (.putfield 50, 3) := by decide +kernel
theorem dX12_init_219 : decode cX12_init 219 = .ok (.aload_n 0, 1) := by decide +kernel
theorem dX12_init_220 : decode cX12_init 220 = .ok (.iconst 4, 1) := by decide +kernel
theorem dX12_init_221 : decode cX12_init 221 = .ok (.newarray .int, 2) := by decide +kernel
theorem dX12_init_223 : decode cX12_init 223 = .ok (.dup, 1) := by decide +kernel
theorem dX12_init_224 : decode cX12_init 224 = .ok (.iconst 0, 1) := by decide +kernel
theorem dX12_init_225 : decode cX12_init 225 = .ok (.bipush 100, 2) := by decide +kernel
theorem dX12_init_227 : decode cX12_init 227 = .ok (.iastore, 1) := by decide +kernel
theorem dX12_init_228 : decode cX12_init 228 = .ok (.dup, 1) := by decide +kernel
theorem dX12_init_229 : decode cX12_init 229 = .ok (.iconst 1, 1) := by decide +kernel
theorem dX12_init_230 : decode cX12_init 230 = .ok (.bipush 97, 2) := by decide +kernel
theorem dX12_init_232 : decode cX12_init 232 = .ok (.iastore, 1) := by decide +kernel
theorem dX12_init_233 : decode cX12_init 233 = .ok (.dup, 1) := by decide +kernel
theorem dX12_init_234 : decode cX12_init 234 = .ok (.iconst 2, 1) := by decide +kernel
theorem dX12_init_235 : decode cX12_init 235 = .ok (.bipush 119, 2) := by decide +kernel
theorem dX12_init_237 : decode cX12_init 237 = .ok (.iastore, 1) := by decide +kernel
theorem dX12_init_238 : decode cX12_init 238 = .ok (.dup, 1) := by decide +kernel
theorem dX12_init_239 : decode cX12_init 239 = .ok (.iconst 3, 1) := by decide +kernel
theorem dX12_init_240 : decode cX12_init 240 = .ok (.bipush 110, 2) := by decide +kernel
theorem dX12_init_242 : decode cX12_init 242 = .ok (.iastore, 1) := by decide +kernel
theorem dX12_init_243 : decode cX12_init 243 = .ok (.putfield 53, 3) := by decide +kernel
theorem dX12_init_246 : decode cX12_init 246 = .ok (.aload_n 0, 1) := by decide +kernel
theorem dX12_init_247 : decode cX12_init 247 = .ok (.iconst 4, 1) := by decide +kernel
theorem dX12_init_248 : decode cX12_init 248 = .ok (.newarray .int, 2) := by decide +kernel
theorem dX12_init_250 : decode cX12_init 250 = .ok (.dup, 1) := by decide +kernel
theorem dX12_init_251 : decode cX12_init 251 = .ok (.iconst 0, 1) := by decide +kernel
theorem dX12_init_252 : decode cX12_init 252 = .ok (.bipush 103, 2) := by decide +kernel
theorem dX12_init_254 : decode cX12_init 254 = .ok (.iastore, 1) := by decide +kernel
theorem dX12_init_255 : decode cX12_init 255 = .ok (.dup, 1) := by decide +kernel
theorem dX12_init_256 : decode cX12_init 256 = .ok (.iconst 1, 1) := by decide +kernel
theorem dX12_init_257 : decode cX12_init 257 = .ok (.bipush 114, 2) := by decide +kernel
theorem dX12_init_259 : decode cX12_init 259 = .ok (.iastore, 1) := by decide +kernel
theorem dX12_init_260 : decode cX12_init 260 = .ok (.dup, 1) := by decide +kernel
theorem dX12_init_261 : decode cX12_init 261 = .ok (.iconst 2, 1) := by decide +kernel
theorem dX12_init_262 : decode cX12_init 262 = .ok (.bipush 101, 2) := by decide +kernel
theorem dX12_init_264 : decode cX12_init 264 = .ok (.iastore, 1) := by decide +kernel
theorem dX12_init_265 : decode cX12_init 265 = .ok (.dup, 1) := by decide +kernel
theorem dX12_init_266 : decode cX12_init 266 = .ok (.iconst 3, 1) := by decide +kernel
theorem dX12_init_267 : decode cX12_init 267 = .ok (.bipush 121, 2) := by decide +kernel
theorem dX12_init_269 : decode cX12_init 269 = .ok (.iastore, 1) := by decide +kernel
theorem dX12_init_270 : decode cX12_init 270 = .ok (.putfield 56, 3) := by decide +kernel
theorem dX12_init_273 : decode cX12_init 273 = .ok (.aload_n 0, 1) := by decide +kernel
theorem dX12_init_274 : decode cX12_init 274 = .ok (.bipush 8, 2) := by decide +kernel
theorem dX12_init_276 : decode cX12_init 276 = .ok (.newarray .int, 2) := by decide +kernel
theorem dX12_init_278 : decode cX12_init 278 = .ok (.dup, 1) := by decide +kernel
theorem dX12_init_279 : decode cX12_init 279 = .ok (.iconst 0, 1) := by decide +kernel
theorem dX12_init_280 : decode cX12_init 280 = .ok (.bipush 109, 2) := by decide +kernel
theorem dX12_init_282 : decode cX12_init 282 = .ok (.iastore, 1) := by decide +kernel
theorem dX12_init_283 : decode cX12_init 283 = .ok (.dup, 1) := by decide +kernel
theorem dX12_init_284 : decode cX12_init 284 = .ok (.iconst 1, 1) := by decide +kernel
theorem dX12_init_285 : decode cX12_init 285 = .ok (.bipush 105, 2) := by decide +kernel
theorem dX12_init_287 : decode cX12_init 287 = .ok (.iastore, 1) := by decide +kernel
theorem dX12_init_288 : decode cX12_init 288 = .ok (.dup, 1) := by decide +kernel
theorem dX12_init_289 : decode cX12_init 289 = .ok (.iconst 2, 1) := by decide +kernel
theorem dX12_init_290 : decode cX12_init 290 = .ok (.bipush 100, 2) := by decide +kernel
theorem dX12_init_292 : decode cX12_init 292 = .ok (.iastore, 1) := by decide +kernel
theorem dX12_init_293 : decode cX12_init 293 = .ok (.dup, 1) := by decide +kernel
theorem dX12_init_294 : decode cX12_init 294 = .ok (.iconst 3, 1) := by decide +kernel
theorem dX12_init_295 : decode cX12_init 295 = .ok (.bipush 110, 2) := by decide +kernel
theorem dX12_init_297 : decode cX12_init 297 = .ok (.iastore, 1) := by decide +kernel
theorem dX12_init_298 : decode cX12_init 298 = .ok (.dup, 1) := by decide +kernel
theorem dX12_init_299 : decode cX12_init 299 = .ok (.iconst 4, 1) := by decide +kernel
theorem dX12_init_300 : decode cX12_init 300 = .ok (.bipush 105, 2) := by decide +kernel
theorem dX12_init_302 : decode cX12_init 302 = .ok (.iastore, 1) := by decide +kernel
theorem dX12_init_303 : decode cX12_init 303 = .ok (.dup, 1) := by decide +kernel
theorem dX12_init_304 : decode cX12_init 304 = .ok (.iconst 5, 1) := by decide +kernel
theorem dX12_init_305 : decode cX12_init 305 = .ok (.bipush 103, 2) := by decide +kernel
theorem dX12_init_307 : decode cX12_init 307 = .ok (.iastore, 1) := by decide +kernel
theorem dX12_init_308 : decode cX12_init 308 = .ok (.dup, 1) := by decide +kernel
theorem dX12_init_309 : decode cX12_init 309 = .ok (.bipush 6, 2) := by decide +kernel
theorem dX12_init_311 : decode cX12_init 311 = .ok (.bipush 104, 2) := by decide +kernel
theorem dX12_init_313 : decode cX12_init 313 = .ok (.iastore, 1) := by decide +kernel
theorem dX12_init_314 : decode cX12_init 314 = .ok (.dup, 1) := by decide +kernel
theorem dX12_init_315 : decode cX12_init 315 = .ok (.bipush 7, 2) := by decide +kernel
theorem dX12_init_317 : decode cX12_init 317 = .ok (.bipush 116, 2) := by decide +kernel
theorem dX12_init_319 : decode cX12_init 319 = .ok (.iastore, 1) := by decide +kernel
theorem dX12_init_320 : decode cX12_init 320 = .ok (.putfield 59, 3) := by decide +kernel
theorem dX12_init_323 : decode cX12_init 323 = .ok (.aload_n 0, 1) := by decide +kernel
theorem dX12_init_324 : decode cX12_init 324 = .ok (.iconst 5, 1) := by decide +kernel
theorem dX12_init_325 : decode cX12_init 325 = .ok (.newarray .int, 2) := by decide +kernel
theorem dX12_init_327 : decode cX12_init 327 = .ok (.dup, 1) := by decide +kernel
theorem dX12_init_328 : decode cX12_init 328 = .ok (.iconst 0, 1) := by decide +kernel
theorem dX12_init_329 : decode cX12_init 329 = .ok (.bipush 114, 2) := by decide +kernel
theorem dX12_init_331 : decode cX12_init 331 = .ok (.iastore, 1) := by decide +kernel
theorem dX12_init_332 : decode cX12_init 332 = .ok (.dup, 1) := by decide +kernel
theorem dX12_init_333 : decode cX12_init 333 = .ok (.iconst 1, 1) := by decide +kernel
theorem dX12_init_334 : decode cX12_init 334 = .ok (.bipush 105, 2) := by decide +kernel
theorem dX12_init_336 : decode cX12_init 336 = .ok (.iastore, 1) := by decide +kernel
theorem dX12_init_337 : decode cX12_init 337 = .ok (.dup, 1) := by decide +kernel
theorem dX12_init_338 : decode cX12_init 338 = .ok (.iconst 2, 1) := by decide +kernel
theorem dX12_init_339 : decode cX12_init 339 = .ok (.bipush 100, 2) := by decide +kernel
theorem dX12_init_341 : decode cX12_init 341 = .ok (.iastore, 1) := by decide +kernel
theorem dX12_init_342 : decode cX12_init 342 = .ok (.dup, 1) := by decide +kernel
theorem dX12_init_343 : decode cX12_init 343 = .ok (.iconst 3, 1) := by decide +kernel
theorem dX12_init_344 : decode cX12_init 344 = .ok (.bipush 101, 2) := by decide +kernel
theorem dX12_init_346 : decode cX12_init 346 = .ok (.iastore, 1) := by decide +kernel
theorem dX12_init_347 : decode cX12_init 347 = .ok (.dup, 1) := by decide +kernel
theorem dX12_init_348 : decode cX12_init 348 = .ok (.iconst 4, 1) := by decide +kernel
theorem dX12_init_349 : decode cX12_init 349 = .ok (.bipush 114, 2) := by decide +kernel
theorem dX12_init_351 : decode cX12_init 351 = .ok (.iastore, 1) := by decide +kernel
theorem dX12_init_352 : decode cX12_init 352 = .ok (.putfield 62, 3) := by decide +kernel
theorem dX12_init_355 : decode cX12_init 355 = .ok (.aload_n 0, 1) := by decide +kernel
theorem dX12_init_356 : decode cX12_init 356 = .ok (.iconst 4, 1) := by decide +kernel
theorem dX12_init_357 : decode cX12_init 357 = .ok (.newarray .int, 2) := by decide +kernel
theorem dX12_init_359 : decode cX12_init 359 = .ok (.putfield 65, 3) := by decide +kernel
theorem dX12_init_362 : decode cX12_init 362 = .ok (.aload_n 0, 1) := by decide +kernel
theorem dX12_init_363 : decode cX12_init 363 = .ok (.iconst 4, 1) := by decide +kernel
theorem dX12_init_364 : decode cX12_init 364 = .ok (.newarray .int, 2) := by decide +kernel
theorem dX12_init_366 : decode cX12_init 366 = .ok (.putfield 68, 3) := by decide +kernel
theorem dX12_init_369 : decode cX12_init 369 = .ok (.aload_n 0, 1) := by decide +kernel
theorem dX12_init_370 : decode cX12_init 370 = .ok (.bipush 10, 2) := by decide +kernel
theorem dX12_init_372 : decode cX12_init 372 = .ok (.newarray .int, 2) := by decide +kernel
theorem dX12_init_374 : decode cX12_init 374 = .ok (.putfield 71, 3) := by decide +kernel
theorem dX12_init_377 : decode cX12_init 377 = .ok (.aload_n 0, 1) := by decide +kernel
theorem dX12_init_378 : decode cX12_init 378 = .ok (.bipush 10, 2) := by decide +kernel
theorem dX12_init_380 : decode cX12_init 380 = .ok (.newarray .int, 2) := by decide +kernel
theorem dX12_init_382 : decode cX12_init 382 = .ok (.putfield 74, 3) := by decide +kernel
theorem dX12_init_385 : decode cX12_init 385 = .ok (.return_, 1) := by decide +kernel
theorem dX12_in_0 : decode cX12_in 0 = .ok (.lload_n 0, 1) := by decide +kernel
theorem dX12_in_1 : decode cX12_in 1 = .ok (.lload_n 2, 1) := by decide +kernel
theorem dX12_in_2 : decode cX12_in 2 = .ok (.lcmp, 1) := by decide +kernel
theorem dX12_in_3 : decode cX12_in 3 = .ok (.ifCond .lt 14, 3) := by decide +kernel
theorem dX12_in_6 : decode cX12_in 6 = .ok (.lload_n 0, 1) := by decide +kernel
theorem dX12_in_7 : decode cX12_in 7 = .ok (.lload 4, 2) := by decide +kernel
theorem dX12_in_9 : decode cX12_in 9 = .ok (.lcmp, 1) := by decide +kernel
theorem dX12_in_10 : decode cX12_in 10 = .ok (.ifCond .gt 7, 3) := by decide +kernel
theorem dX12_in_13 : decode cX12_in 13 = .ok (.iconst 1, 1) := by decide +kernel
theorem dX12_in_14 : decode cX12_in 14 = .ok (.goto 4, 3) := by decide +kernel
theorem dX12_in_17 : decode cX12_in 17 = .ok (.iconst 0, 1) := by decide +kernel
theorem dX12_in_18 : decode cX12_in 18 = .ok (.ireturn, 1) := by decide +kernel
theorem dX12_has_0 : decode cX12_has 0 = .ok (.iload_n 0, 1) := by decide +kernel
theorem dX12_has_1 : decode cX12_has 1 = .ok (.iload_n 1, 1) := by decide +kernel
theorem dX12_has_2 : decode cX12_has 2 = .ok (.ishr, 1) := by decide +kernel
theorem dX12_has_3 : decode cX12_has 3 = .ok (.iconst 1, 1) := by decide +kernel
theorem dX12_has_4 : decode cX12_has 4 = .ok (.iand, 1) := by decide +kernel
theorem dX12_has_5 : decode cX12_has 5 = .ok (.iconst 1, 1) := by decide +kernel
theorem dX12_has_6 : decode cX12_has 6 = .ok (.if_icmp .ne 7, 3) := by decide +kernel
theorem dX12_has_9 : decode cX12_has 9 = .ok (.iconst 1, 1) := by decide +kernel
theorem dX12_has_10 : decode cX12_has 10 = .ok (.goto 4, 3) := by decide +kernel
theorem dX12_has_13 : decode cX12_has 13 = .ok (.iconst 0, 1) := by decide +kernel
theorem dX12_has_14 : decode cX12_has 14 = .ok (.ireturn, 1) := by decide +kernel
theorem dX12_bits_0 : decode cX12_bits 0 = .ok (.iconst 0, 1) := by decide +kernel
theorem dX12_bits_1 : decode cX12_bits 1 = .ok (.istore_n 1, 1) := by decide +kernel
theorem dX12_bits_2 : decode cX12_bits 2 = .ok (.iconst 0, 1) := by decide +kernel
theorem dX12_bits_3 : decode cX12_bits 3 = .ok (.istore_n 2, 1) := by decide +kernel
theorem dX12_bits_4 : decode cX12_bits 4 = .ok (.iload_n 2, 1) := by decide +kernel
theorem dX12_bits_5 : decode cX12_bits 5 = .ok (.bipush 8, 2) := by decide +kernel
theorem dX12_bits_7 : decode cX12_bits 7 = .ok (.if_icmp .ge 17, 3) := by decide +kernel
theorem dX12_bits_10 : decode cX12_bits 10 = .ok (.iload_n 1, 1) := by decide +kernel
theorem dX12_bits_11 : decode cX12_bits 11 = .ok (.iload_n 0, 1) := by decide +kernel
theorem dX12_bits_12 : decode cX12_bits 12 = .ok (.iload_n 2, 1) := by decide +kernel
theorem dX12_bits_13 : decode cX12_bits 13 = .ok (.ishr, 1) := by decide +kernel
theorem dX12_bits_14 : decode cX12_bits 14 = .ok (.iconst 1, 1) := by decide +kernel
theorem dX12_bits_15 : decode cX12_bits 15 = .ok (.iand, 1) := by decide +kernel
theorem dX12_bits_16 : decode cX12_bits 16 = .ok (.iadd, 1) := by decide +kernel
theorem dX12_bits_17 : decode cX12_bits 17 = .ok (.istore_n 1, 1) := by decide +kernel
theorem dX12_bits_18 : decode cX12_bits 18 = .ok (.iinc 2 1, 3) := by decide +kernel
theorem dX12_bits_21 : decode cX12_bits 21 = .ok (.goto (-17), 3) := by decide +kernel
theorem dX12_bits_24 : decode cX12_bits 24 = .ok (.iload_n 1, 1) := by decide +kernel
theorem dX12_bits_25 : decode cX12_bits 25 = .ok (.ireturn, 1) := by decide +kernel
theorem dX12_write_0 : decode cX12_write 0 = .ok (.iload_n 1, 1) := by decide +kernel
theorem dX12_write_1 : decode cX12_write 1 = .ok (.i2l, 1) := by decide +kernel
theorem dX12_write_2 : decode cX12_write 2 = .ok (.lconst 0, 1) := by decide +kernel
theorem dX12_write_3 : decode cX12_write 3 = .ok (.ldc2_w 77, 3) := by decide +kernel
theorem dX12_write_6 : decode cX12_write 6 = .ok (.invokestatic 79, 3) := by decide +kernel
theorem dX12_write_9 : decode cX12_write 9 = .ok (.ifCond .ne 6, 3) := by decide +kernel
theorem dX12_write_12 : decode cX12_write 12 = .ok (.bipush (-3), 2) := by decide +kernel
theorem dX12_write_14 : decode cX12_write 14 = .ok (.ireturn, 1) := by decide +kernel
theorem dX12_write_15 : decode cX12_write 15 = .ok (.aload_n 0, 1) := by decide +kernel
theorem dX12_write_16 : decode cX12_write 16 = .ok (.getfield 83, 3) := by decide +kernel
theorem dX12_write_19 : decode cX12_write 19 = .ok (.sipush 200, 3) := by decide +kernel
theorem dX12_write_22 : decode cX12_write 22 = .ok (.if_icmp .ne 6, 3) := by decide +kernel
theorem dX12_write_25 : decode cX12_write 25 = .ok (.bipush (-5), 2) := by decide +kernel
theorem dX12_write_27 : decode cX12_write 27 = .ok (.ireturn, 1) := by decide +kernel
theorem dX12_write_28 : decode cX12_write 28 = .ok (.aload_n 0, 1) := by decide +kernel
theorem dX12_write_29 : decode cX12_write 29 = .ok (.getfield 17, 3) := by decide +kernel
theorem dX12_write_32 : decode cX12_write 32 = .ok (.aload_n 0, 1) := by decide +kernel
theorem dX12_write_33 : decode cX12_write 33 = .ok (.getfield 83, 3) := by decide +kernel
theorem dX12_write_36 : decode cX12_write 36 = .ok (.iload_n 1, 1) := by decide +kernel
theorem dX12_write_37 : decode cX12_write 37 = .ok (.iastore, 1) := by decide +kernel
theorem dX12_write_38 : decode cX12_write 38 = .ok (.aload_n 0, 1) := by decide +kernel
theorem dX12_write_39 : decode cX12_write 39 = .ok (.dup, 1) := by decide +kernel
theorem dX12_write_40 : decode cX12_write 40 = .ok (.getfield 83, 3) := by decide +kernel
theorem dX12_write_43 : decode cX12_write 43 = .ok (.iconst 1, 1) := by decide +kernel
theorem dX12_write_44 : decode cX12_write 44 = .ok (.iadd, 1) := by decide +kernel
theorem dX12_write_45 : decode cX12_write 45 = .ok (.putfield 83, 3) := by decide +kernel
theorem dX12_write_48 : decode cX12_write 48 = .ok (.aload_n 0, 1) := by decide +kernel
theorem dX12_write_49 : decode cX12_write 49 = .ok (.getfield 83, 3) := by decide +kernel
theorem dX12_write_52 : decode cX12_write 52 = .ok (.ireturn, 1) := by decide +kernel
theorem dX12_erase_0 : decode cX12_erase 0 = .ok (.aload_n 0, 1) := by decide +kernel
theorem dX12_erase_1 : decode cX12_erase 1 = .ok (.getfield 83, 3) := by decide +kernel
theorem dX12_erase_4 : decode cX12_erase 4 = .ok (.istore_n 1, 1) := by decide +kernel
theorem dX12_erase_5 : decode cX12_erase 5 = .ok (.aload_n 0, 1) := by decide +kernel
theorem dX12_erase_6 : decode cX12_erase 6 = .ok (.iconst 0, 1) := by decide +kernel
theorem dX12_erase_7 : decode cX12_erase 7 = .ok (.putfield 83, 3) := by decide +kernel
theorem dX12_erase_10 : decode cX12_erase 10 = .ok (.iload_n 1, 1) := by decide +kernel
theorem dX12_erase_11 : decode cX12_erase 11 = .ok (.ireturn, 1) := by decide +kernel
theorem dX12_isLetter_0 : decode cX12_isLetter 0 = .ok (.iload_n 0, 1) := by decide +kernel
theorem dX12_isLetter_1 : decode cX12_isLetter 1 = .ok (.i2l, 1) := by decide +kernel
theorem dX12_isLetter_2 : decode cX12_isLetter 2 = .ok (.ldc2_w 87, 3) := by decide +kernel
theorem dX12_isLetter_5 : decode cX12_isLetter 5 = .ok (.ldc2_w 89, 3) := by decide +kernel
theorem dX12_isLetter_8 : decode cX12_isLetter 8 = .ok (.invokestatic 79, 3) := by decide +kernel
theorem dX12_isLetter_11 : decode cX12_isLetter 11 = .ok (.ireturn, 1) := by decide +kernel
theorem dX12_isDigit_0 : decode cX12_isDigit 0 = .ok (.iload_n 0, 1) := by decide +kernel
theorem dX12_isDigit_1 : decode cX12_isDigit 1 = .ok (.i2l, 1) := by decide +kernel
theorem dX12_isDigit_2 : decode cX12_isDigit 2 = .ok (.ldc2_w 91, 3) := by decide +kernel
theorem dX12_isDigit_5 : decode cX12_isDigit 5 = .ok (.ldc2_w 93, 3) := by decide +kernel
theorem dX12_isDigit_8 : decode cX12_isDigit 8 = .ok (.invokestatic 79, 3) := by decide +kernel
theorem dX12_isDigit_11 : decode cX12_isDigit 11 = .ok (.ireturn, 1) := by decide +kernel
theorem dX12_nextToken_0 : decode cX12_nextToken 0 = .ok (.aload_n 0, 1) := by decide +kernel
theorem dX12_nextToken_1 : decode cX12_nextToken 1 = .ok (.aload_n 0, 1) := by decide +kernel
theorem dX12_nextToken_2 : decode cX12_nextToken 2 = .ok (.getfield 95, 3) := by decide +kernel
theorem dX12_nextToken_5 : decode cX12_nextToken 5 = .ok (.putfield 98, 3) := by decide +kernel
theorem dX12_nextToken_8 : decode cX12_nextToken 8 = .ok (.aload_n 0, 1) := by decide +kernel
theorem dX12_nextToken_9 : decode cX12_nextToken 9 = .ok (.getfield 98, 3) := by decide +kernel
theorem dX12_nextToken_12 : decode cX12_nextToken 12 = .ok (.aload_n 0, 1) := by decide +kernel
theorem dX12_nextToken_13 : decode cX12_nextToken 13 = .ok (.getfield 83, 3) := by decide +kernel
theorem dX12_nextToken_16 : decode cX12_nextToken 16 = .ok (.if_icmp .ge 30, 3) := by decide +kernel
theorem dX12_nextToken_19 : decode cX12_nextToken 19 = .ok (.aload_n 0, 1) := by decide +kernel
theorem dX12_nextToken_20 : decode cX12_nextToken 20 = .ok (.getfield 17, 3) := by decide +kernel
theorem dX12_nextToken_23 : decode cX12_nextToken 23 = .ok (.aload_n 0, 1) := by decide +kernel
theorem dX12_nextToken_24 : decode cX12_nextToken 24 = .ok (.getfield 98, 3) := by decide +kernel
theorem dX12_nextToken_27 : decode cX12_nextToken 27 = .ok (.iaload, 1) := by decide +kernel
theorem dX12_nextToken_28 : decode cX12_nextToken 28 = .ok (.bipush 32, 2) := by decide +kernel
theorem dX12_nextToken_30 : decode cX12_nextToken 30 = .ok (.if_icmp .ne 16, 3) := by decide +kernel
theorem dX12_nextToken_33 : decode cX12_nextToken 33 = .ok (.aload_n 0, 1) := by decide +kernel
theorem dX12_nextToken_34 : decode cX12_nextToken 34 = .ok (.dup, 1) := by decide +kernel
theorem dX12_nextToken_35 : decode cX12_nextToken 35 = .ok (.getfield 98, 3) := by decide +kernel
theorem dX12_nextToken_38 : decode cX12_nextToken 38 = .ok (.iconst 1, 1) := by decide +kernel
theorem dX12_nextToken_39 : decode cX12_nextToken 39 = .ok (.iadd, 1) := by decide +kernel
theorem dX12_nextToken_40 : decode cX12_nextToken 40 = .ok (.putfield 98, 3) := by decide +kernel
theorem dX12_nextToken_43 : decode cX12_nextToken 43 = .ok (.goto (-35), 3) := by decide +kernel
theorem dX12_nextToken_46 : decode cX12_nextToken 46 = .ok (.aload_n 0, 1) := by decide +kernel
theorem dX12_nextToken_47 : decode cX12_nextToken 47 = .ok (.aload_n 0, 1) := by decide +kernel
theorem dX12_nextToken_48 : decode cX12_nextToken 48 = .ok (.getfield 98, 3) := by decide +kernel
theorem dX12_nextToken_51 : decode cX12_nextToken 51 = .ok (.aload_n 0, 1) := by decide +kernel
theorem dX12_nextToken_52 : decode cX12_nextToken 52 = .ok (.getfield 83, 3) := by decide +kernel
theorem dX12_nextToken_55 : decode cX12_nextToken 55 = .ok (.if_icmp .ge 12, 3) := by decide +kernel
theorem dX12_nextToken_58 : decode cX12_nextToken 58 = .ok (.aload_n 0, 1) := by decide +kernel
theorem dX12_nextToken_59 : decode cX12_nextToken 59 = .ok (.getfield 98, 3) := by decide +kernel
theorem dX12_nextToken_62 : decode cX12_nextToken 62 = .ok (.iconst 1, 1) := by decide +kernel
theorem dX12_nextToken_63 : decode cX12_nextToken 63 = .ok (.iadd, 1) := by decide +kernel
theorem dX12_nextToken_64 : decode cX12_nextToken 64 = .ok (.goto 7, 3) := by decide +kernel
theorem dX12_nextToken_67 : decode cX12_nextToken 67 = .ok (.aload_n 0, 1) := by decide +kernel
theorem dX12_nextToken_68 : decode cX12_nextToken 68 = .ok (.getfield 98, 3) := by decide +kernel
theorem dX12_nextToken_71 : decode cX12_nextToken 71 = .ok (.putfield 95, 3) := by decide +kernel
theorem dX12_nextToken_74 : decode cX12_nextToken 74 = .ok (.aload_n 0, 1) := by decide +kernel
theorem dX12_nextToken_75 : decode cX12_nextToken 75 = .ok (.getfield 98, 3) := by decide +kernel
theorem dX12_nextToken_78 : decode cX12_nextToken 78 = .ok (.aload_n 0, 1) := by decide +kernel
theorem dX12_nextToken_79 : decode cX12_nextToken 79 = .ok (.getfield 83, 3) := by decide +kernel
theorem dX12_nextToken_82 : decode cX12_nextToken 82 = .ok (.if_icmp .ge 57, 3) := by decide +kernel
theorem dX12_nextToken_85 : decode cX12_nextToken 85 = .ok (.aload_n 0, 1) := by decide +kernel
theorem dX12_nextToken_86 : decode cX12_nextToken 86 = .ok (.getfield 17, 3) := by decide +kernel
theorem dX12_nextToken_89 : decode cX12_nextToken 89 = .ok (.aload_n 0, 1) := by decide +kernel
theorem dX12_nextToken_90 : decode cX12_nextToken 90 = .ok (.getfield 98, 3) := by decide +kernel
theorem dX12_nextToken_93 : decode cX12_nextToken 93 = .ok (.iaload, 1) := by decide +kernel
theorem dX12_nextToken_94 : decode cX12_nextToken 94 = .ok (.invokestatic 101, 3) := by decide +kernel
theorem dX12_nextToken_97 : decode cX12_nextToken 97 = .ok (.ifCond .eq 42, 3) := by decide +kernel
theorem dX12_nextToken_100 : decode cX12_nextToken 100 = .ok (.aload_n 0, 1) := by decide +kernel
theorem dX12_nextToken_101 : decode cX12_nextToken 101 = .ok (.getfield 95, 3) := by decide +kernel
theorem dX12_nextToken_104 : decode cX12_nextToken 104 = .ok (.aload_n 0, 1) := by decide +kernel
theorem dX12_nextToken_105 : decode cX12_nextToken 105 = .ok (.getfield 83, 3) := by decide +kernel
theorem dX12_nextToken_108 : decode cX12_nextToken 108 = .ok (.if_icmp .ge 96, 3) := by decide +kernel
theorem dX12_nextToken_111 : decode cX12_nextToken 111 = .ok (.aload_n 0, 1) := by decide +kernel
theorem dX12_nextToken_112 : decode cX12_nextToken 112 = .ok (.getfield 17, 3) := by decide +kernel
theorem dX12_nextToken_115 : decode cX12_nextToken 115 = .ok (.aload_n 0, 1) := by decide +kernel
theorem dX12_nextToken_116 : decode cX12_nextToken 116 = .ok (.getfield 95, 3) := by decide +kernel
theorem dX12_nextToken_119 : decode cX12_nextToken 119 = .ok (.iaload, 1) := by decide +kernel
theorem dX12_nextToken_120 : decode cX12_nextToken 120 = .ok (.invokestatic 101, 3) := by decide +kernel
theorem dX12_nextToken_123 : decode cX12_nextToken 123 = .ok (.ifCond .eq 81, 3) := by decide +kernel
theorem dX12_nextToken_126 : decode cX12_nextToken 126 = .ok (.aload_n 0, 1) := by decide +kernel
theorem dX12_nextToken_127 : decode cX12_nextToken 127 = .ok (.dup, 1) := by decide +kernel
theorem dX12_nextToken_128 : decode cX12_nextToken 128 = .ok (.getfield 95, 3) := by decide +kernel
theorem dX12_nextToken_131 : decode cX12_nextToken 131 = .ok (.iconst 1, 1) := by decide +kernel
theorem dX12_nextToken_132 : decode cX12_nextToken 132 = .ok (.iadd, 1) := by decide +kernel
theorem dX12_nextToken_133 : decode cX12_nextToken 133 = .ok (.putfield 95, 3) := by decide +kernel
theorem dX12_nextToken_136 : decode cX12_nextToken 136 = .ok (.goto (-36), 3) := by decide +kernel
theorem dX12_nextToken_139 : decode cX12_nextToken 139 = .ok (.aload_n 0, 1) := by decide +kernel
theorem dX12_nextToken_140 : decode cX12_nextToken 140 = .ok (.getfield 98, 3) := by decide +kernel
theorem dX12_nextToken_143 : decode cX12_nextToken 143 = .ok (.aload_n 0, 1) := by decide +kernel
theorem dX12_nextToken_144 : decode cX12_nextToken 144 = .ok (.getfield 83, 3) := by decide +kernel
theorem dX12_nextToken_147 : decode cX12_nextToken 147 = .ok (.if_icmp .ge 57, 3) := by decide +kernel
theorem dX12_nextToken_150 : decode cX12_nextToken 150 = .ok (.aload_n 0, 1) := by decide +kernel
theorem dX12_nextToken_151 : decode cX12_nextToken 151 = .ok (.getfield 17, 3) := by decide +kernel
theorem dX12_nextToken_154 : decode cX12_nextToken 154 = .ok (.aload_n 0, 1) := by decide +kernel
theorem dX12_nextToken_155 : decode cX12_nextToken 155 = .ok (.getfield 98, 3) := by decide +kernel
theorem dX12_nextToken_158 : decode cX12_nextToken 158 = .ok (.iaload, 1) := by decide +kernel
theorem dX12_nextToken_159 : decode cX12_nextToken 159 = .ok (.invokestatic 105, 3) := by decide +kernel
theorem dX12_nextToken_162 : decode cX12_nextToken 162 = .ok (.ifCond .eq 42, 3) := by decide +kernel
theorem dX12_nextToken_165 : decode cX12_nextToken 165 = .ok (.aload_n 0, 1) := by decide +kernel
theorem dX12_nextToken_166 : decode cX12_nextToken 166 = .ok (.getfield 95, 3) := by decide +kernel
theorem dX12_nextToken_169 : decode cX12_nextToken 169 = .ok (.aload_n 0, 1) := by decide +kernel
theorem dX12_nextToken_170 : decode cX12_nextToken 170 = .ok (.getfield 83, 3) := by decide +kernel
theorem dX12_nextToken_173 : decode cX12_nextToken 173 = .ok (.if_icmp .ge 31, 3) := by decide +kernel
theorem dX12_nextToken_176 : decode cX12_nextToken 176 = .ok (.aload_n 0, 1) := by decide +kernel
theorem dX12_nextToken_177 : decode cX12_nextToken 177 = .ok (.getfield 17, 3) := by decide +kernel
theorem dX12_nextToken_180 : decode cX12_nextToken 180 = .ok (.aload_n 0, 1) := by decide +kernel
theorem dX12_nextToken_181 : decode cX12_nextToken 181 = .ok (.getfield 95, 3) := by decide +kernel
theorem dX12_nextToken_184 : decode cX12_nextToken 184 = .ok (.iaload, 1) := by decide +kernel
theorem dX12_nextToken_185 : decode cX12_nextToken 185 = .ok (.invokestatic 105, 3) := by decide +kernel
theorem dX12_nextToken_188 : decode cX12_nextToken 188 = .ok (.ifCond .eq 16, 3) := by decide +kernel
theorem dX12_nextToken_191 : decode cX12_nextToken 191 = .ok (.aload_n 0, 1) := by decide +kernel
theorem dX12_nextToken_192 : decode cX12_nextToken 192 = .ok (.dup, 1) := by decide +kernel
theorem dX12_nextToken_193 : decode cX12_nextToken 193 = .ok (.getfield 95, 3) := by decide +kernel
theorem dX12_nextToken_196 : decode cX12_nextToken 196 = .ok (.iconst 1, 1) := by decide +kernel
theorem dX12_nextToken_197 : decode cX12_nextToken 197 = .ok (.iadd, 1) := by decide +kernel
theorem dX12_nextToken_198 : decode cX12_nextToken 198 = .ok (.putfield 95, 3) := by decide +kernel
theorem dX12_nextToken_201 : decode cX12_nextToken 201 = .ok (.goto (-36), 3) := by decide +kernel
theorem dX12_nextToken_204 : decode cX12_nextToken 204 = .ok (.return_, 1) := by decide +kernel
theorem dX12_isWord_0 : decode cX12_isWord 0 = .ok (.aload_n 0, 1) := by decide +kernel
theorem dX12_isWord_1 : decode cX12_isWord 1 = .ok (.getfield 95, 3) := by decide +kernel
theorem dX12_isWord_4 : decode cX12_isWord 4 = .ok (.aload_n 0, 1) := by decide +kernel
theorem dX12_isWord_5 : decode cX12_isWord 5 = .ok (.getfield 98, 3) := by decide +kernel
theorem dX12_isWord_8 : decode cX12_isWord 8 = .ok (.isub, 1) := by decide +kernel
theorem dX12_isWord_9 : decode cX12_isWord 9 = .ok (.aload_n 1, 1) := by decide +kernel
theorem dX12_isWord_10 : decode cX12_isWord 10 = .ok (.arraylength, 1) := by decide +kernel
theorem dX12_isWord_11 : decode cX12_isWord 11 = .ok (.if_icmp .ne 7, 3) := by decide +kernel
theorem dX12_isWord_14 : decode cX12_isWord 14 = .ok (.iconst 1, 1) := by decide +kernel
theorem dX12_isWord_15 : decode cX12_isWord 15 = .ok (.goto 4, 3) := by decide +kernel
theorem dX12_isWord_18 : decode cX12_isWord 18 = .ok (.iconst 0, 1) := by decide +kernel
theorem dX12_isWord_19 : decode cX12_isWord 19 = .ok (.istore_n 2, 1) := by decide +kernel
theorem dX12_isWord_20 : decode cX12_isWord 20 = .ok (.iconst 0, 1) := by decide +kernel
theorem dX12_isWord_21 : decode cX12_isWord 21 = .ok (.istore_n 3, 1) := by decide +kernel
theorem dX12_isWord_22 : decode cX12_isWord 22 = .ok (.iload_n 3, 1) := by decide +kernel
theorem dX12_isWord_23 : decode cX12_isWord 23 = .ok (.aload_n 1, 1) := by decide +kernel
theorem dX12_isWord_24 : decode cX12_isWord 24 = .ok (.arraylength, 1) := by decide +kernel
theorem dX12_isWord_25 : decode cX12_isWord 25 = .ok (.if_icmp .ge 36, 3) := by decide +kernel
theorem dX12_isWord_28 : decode cX12_isWord 28 = .ok (.iload_n 2, 1) := by decide +kernel
theorem dX12_isWord_29 : decode cX12_isWord 29 = .ok (.ifCond .eq 32, 3) := by decide +kernel
theorem dX12_isWord_32 : decode cX12_isWord 32 = .ok (.aload_n 0, 1) := by decide +kernel
theorem dX12_isWord_33 : decode cX12_isWord 33 = .ok (.getfield 17, 3) := by decide +kernel
theorem dX12_isWord_36 : decode cX12_isWord 36 = .ok (.aload_n 0, 1) := by decide +kernel
theorem dX12_isWord_37 : decode cX12_isWord 37 = .ok (.getfield 98, 3) := by decide +kernel
theorem dX12_isWord_40 : decode cX12_isWord 40 = .ok (.iload_n 3, 1) := by decide +kernel
theorem dX12_isWord_41 : decode cX12_isWord 41 = .ok (.iadd, 1) := by decide +kernel
theorem dX12_isWord_42 : decode cX12_isWord 42 = .ok (.iaload, 1) := by decide +kernel
theorem dX12_isWord_43 : decode cX12_isWord 43 = .ok (.aload_n 1, 1) := by decide +kernel
theorem dX12_isWord_44 : decode cX12_isWord 44 = .ok (.iload_n 3, 1) := by decide +kernel
theorem dX12_isWord_45 : decode cX12_isWord 45 = .ok (.iaload, 1) := by decide +kernel
theorem dX12_isWord_46 : decode cX12_isWord 46 = .ok (.if_icmp .ne 7, 3) := by decide +kernel
theorem dX12_isWord_49 : decode cX12_isWord 49 = .ok (.iconst 1, 1) := by decide +kernel
theorem dX12_isWord_50 : decode cX12_isWord 50 = .ok (.goto 4, 3) := by decide +kernel
theorem dX12_isWord_53 : decode cX12_isWord 53 = .ok (.iconst 0, 1) := by decide +kernel
theorem dX12_isWord_54 : decode cX12_isWord 54 = .ok (.istore_n 2, 1) := by decide +kernel
theorem dX12_isWord_55 : decode cX12_isWord 55 = .ok (.iinc 3 1, 3) := by decide +kernel
theorem dX12_isWord_58 : decode cX12_isWord 58 = .ok (.goto (-36), 3) := by decide +kernel
theorem dX12_isWord_61 : decode cX12_isWord 61 = .ok (.iload_n 2, 1) := by decide +kernel
theorem dX12_isWord_62 : decode cX12_isWord 62 = .ok (.ireturn, 1) := by decide +kernel
theorem dX12_number_0 : decode cX12_number 0 = .ok (.aload_n 0, 1) := by decide +kernel
theorem dX12_number_1 : decode cX12_number 1 = .ok (.getfield 98, 3) := by decide +kernel
theorem dX12_number_4 : decode cX12_number 4 = .ok (.aload_n 0, 1) := by decide +kernel
theorem dX12_number_5 : decode cX12_number 5 = .ok (.getfield 83, 3) := by decide +kernel
theorem dX12_number_8 : decode cX12_number 8 = .ok (.if_icmp .ge 58, 3) := by decide +kernel
theorem dX12_number_11 : decode cX12_number 11 = .ok (.aload_n 0, 1) := by decide +kernel
theorem dX12_number_12 : decode cX12_number 12 = .ok (.getfield 17, 3) := by decide +kernel
theorem dX12_number_15 : decode cX12_number 15 = .ok (.aload_n 0, 1) := by decide +kernel
theorem dX12_number_16 : decode cX12_number 16 = .ok (.getfield 98, 3) := by decide +kernel
theorem dX12_number_19 : decode cX12_number 19 = .ok (.iaload, 1) := by decide +kernel
theorem dX12_number_20 : decode cX12_number 20 = .ok (.invokestatic 105, 3) := by decide +kernel
theorem dX12_number_23 : decode cX12_number 23 = .ok (.ifCond .eq 43, 3) := by decide +kernel
theorem dX12_number_26 : decode cX12_number 26 = .ok (.aload_n 0, 1) := by decide +kernel
theorem dX12_number_27 : decode cX12_number 27 = .ok (.getfield 95, 3) := by decide +kernel
theorem dX12_number_30 : decode cX12_number 30 = .ok (.aload_n 0, 1) := by decide +kernel
theorem dX12_number_31 : decode cX12_number 31 = .ok (.getfield 98, 3) := by decide +kernel
theorem dX12_number_34 : decode cX12_number 34 = .ok (.isub, 1) := by decide +kernel
theorem dX12_number_35 : decode cX12_number 35 = .ok (.iconst 1, 1) := by decide +kernel
theorem dX12_number_36 : decode cX12_number 36 = .ok (.if_icmp .ne 30, 3) := by decide +kernel
theorem dX12_number_39 : decode cX12_number 39 = .ok (.aload_n 0, 1) := by decide +kernel
theorem dX12_number_40 : decode cX12_number 40 = .ok (.getfield 17, 3) := by decide +kernel
theorem dX12_number_43 : decode cX12_number 43 = .ok (.aload_n 0, 1) := by decide +kernel
theorem dX12_number_44 : decode cX12_number 44 = .ok (.getfield 98, 3) := by decide +kernel
theorem dX12_number_47 : decode cX12_number 47 = .ok (.iaload, 1) := by decide +kernel
theorem dX12_number_48 : decode cX12_number 48 = .ok (.bipush 48, 2) := by decide +kernel
theorem dX12_number_50 : decode cX12_number 50 = .ok (.isub, 1) := by decide +kernel
theorem dX12_number_51 : decode cX12_number 51 = .ok (.i2l, 1) := by decide +kernel
theorem dX12_number_52 : decode cX12_number 52 = .ok (.iload_n 2, 1) := by decide +kernel
theorem dX12_number_53 : decode cX12_number 53 = .ok (.i2l, 1) := by decide +kernel
theorem dX12_number_54 : decode cX12_number 54 = .ok (.iload_n 3, 1) := by decide +kernel
theorem dX12_number_55 : decode cX12_number 55 = .ok (.i2l, 1) := by decide +kernel
theorem dX12_number_56 : decode cX12_number 56 = .ok (.invokestatic 79, 3) := by decide +kernel
theorem dX12_number_59 : decode cX12_number 59 = .ok (.ifCond .eq 7, 3) := by decide +kernel
theorem dX12_number_62 : decode cX12_number 62 = .ok (.iconst 1, 1) := by decide +kernel
theorem dX12_number_63 : decode cX12_number 63 = .ok (.goto 4, 3) := by decide +kernel
theorem dX12_number_66 : decode cX12_number 66 = .ok (.iconst 0, 1) := by decide +kernel
theorem dX12_number_67 : decode cX12_number 67 = .ok (.istore 4, 2) := by decide +kernel
theorem dX12_number_69 : decode cX12_number 69 = .ok (.iload 4, 2) := by decide +kernel
theorem dX12_number_71 : decode cX12_number 71 = .ok (.ifCond .eq 25, 3) := by decide +kernel
theorem dX12_number_74 : decode cX12_number 74 = .ok (.aload_n 0, 1) := by decide +kernel
theorem dX12_number_75 : decode cX12_number 75 = .ok (.getfield 38, 3) := by decide +kernel
theorem dX12_number_78 : decode cX12_number 78 = .ok (.iload_n 1, 1) := by decide +kernel
theorem dX12_number_79 : decode cX12_number 79 = .ok (.aload_n 0, 1) := by decide +kernel
theorem dX12_number_80 : decode cX12_number 80 = .ok (.getfield 17, 3) := by decide +kernel
theorem dX12_number_83 : decode cX12_number 83 = .ok (.aload_n 0, 1) := by decide +kernel
theorem dX12_number_84 : decode cX12_number 84 = .ok (.getfield 98, 3) := by decide +kernel
theorem dX12_number_87 : decode cX12_number 87 = .ok (.iaload, 1) := by decide +kernel
theorem dX12_number_88 : decode cX12_number 88 = .ok (.bipush 48, 2) := by decide +kernel
theorem dX12_number_90 : decode cX12_number 90 = .ok (.isub, 1) := by decide +kernel
theorem dX12_number_91 : decode cX12_number 91 = .ok (.iastore, 1) := by decide +kernel
theorem dX12_number_92 : decode cX12_number 92 = .ok (.aload_n 0, 1) := by decide +kernel
theorem dX12_number_93 : decode cX12_number 93 = .ok (.invokevirtual 108, 3) := by decide +kernel
theorem dX12_number_96 : decode cX12_number 96 = .ok (.iload 4, 2) := by decide +kernel
theorem dX12_number_98 : decode cX12_number 98 = .ok (.ireturn, 1) := by decide +kernel
theorem dX12_kindHere_0 : decode cX12_kindHere 0 = .ok (.aload_n 0, 1) := by decide +kernel
theorem dX12_kindHere_1 : decode cX12_kindHere 1 = .ok (.aload_n 0, 1) := by decide +kernel
theorem dX12_kindHere_2 : decode cX12_kindHere 2 = .ok (.getfield 47, 3) := by decide +kernel
theorem dX12_kindHere_5 : decode cX12_kindHere 5 = .ok (.invokevirtual 111, 3) := by decide +kernel
theorem dX12_kindHere_8 : decode cX12_kindHere 8 = .ok (.ifCond .eq 7, 3) := by decide +kernel
theorem dX12_kindHere_11 : decode cX12_kindHere 11 = .ok (.iconst 0, 1) := by decide +kernel
theorem dX12_kindHere_12 : decode cX12_kindHere 12 = .ok (.goto 64, 3) := by decide +kernel
theorem dX12_kindHere_15 : decode cX12_kindHere 15 = .ok (.aload_n 0, 1) := by decide +kernel
theorem dX12_kindHere_16 : decode cX12_kindHere 16 = .ok (.aload_n 0, 1) := by decide +kernel
theorem dX12_kindHere_17 : decode cX12_kindHere 17 = .ok (.getfield 50, 3) := by decide +kernel
theorem dX12_kindHere_20 : decode cX12_kindHere 20 = .ok (.invokevirtual 111, 3) := by decide +kernel
theorem dX12_kindHere_23 : decode cX12_kindHere 23 = .ok (.ifCond .eq 7, 3) := by decide +kernel
theorem dX12_kindHere_26 : decode cX12_kindHere 26 = .ok (.iconst 1, 1) := by decide +kernel
theorem dX12_kindHere_27 : decode cX12_kindHere 27 = .ok (.goto 49, 3) := by decide +kernel
theorem dX12_kindHere_30 : decode cX12_kindHere 30 = .ok (.aload_n 0, 1) := by decide +kernel
theorem dX12_kindHere_31 : decode cX12_kindHere 31 = .ok (.aload_n 0, 1) := by decide +kernel
theorem dX12_kindHere_32 : decode cX12_kindHere 32 = .ok (.getfield 53, 3) := by decide +kernel
theorem dX12_kindHere_35 : decode cX12_kindHere 35 = .ok (.invokevirtual 111, 3) := by decide +kernel
theorem dX12_kindHere_38 : decode cX12_kindHere 38 = .ok (.ifCond .eq 7, 3) := by decide +kernel
theorem dX12_kindHere_41 : decode cX12_kindHere 41 = .ok (.iconst 2, 1) := by decide +kernel
theorem dX12_kindHere_42 : decode cX12_kindHere 42 = .ok (.goto 34, 3) := by decide +kernel
theorem dX12_kindHere_45 : decode cX12_kindHere 45 = .ok (.aload_n 0, 1) := by decide +kernel
theorem dX12_kindHere_46 : decode cX12_kindHere 46 = .ok (.aload_n 0, 1) := by decide +kernel
theorem dX12_kindHere_47 : decode cX12_kindHere 47 = .ok (.getfield 56, 3) := by decide +kernel
theorem dX12_kindHere_50 : decode cX12_kindHere 50 = .ok (.invokevirtual 111, 3) := by decide +kernel
theorem dX12_kindHere_53 : decode cX12_kindHere 53 = .ok (.ifCond .eq 7, 3) := by decide +kernel
theorem dX12_kindHere_56 : decode cX12_kindHere 56 = .ok (.iconst 3, 1) := by decide +kernel
theorem dX12_kindHere_57 : decode cX12_kindHere 57 = .ok (.goto 19, 3) := by decide +kernel
theorem dX12_kindHere_60 : decode cX12_kindHere 60 = .ok (.aload_n 0, 1) := by decide +kernel
theorem dX12_kindHere_61 : decode cX12_kindHere 61 = .ok (.aload_n 0, 1) := by decide +kernel
theorem dX12_kindHere_62 : decode cX12_kindHere 62 = .ok (.getfield 59, 3) := by decide +kernel
theorem dX12_kindHere_65 : decode cX12_kindHere 65 = .ok (.invokevirtual 111, 3) := by decide +kernel
theorem dX12_kindHere_68 : decode cX12_kindHere 68 = .ok (.ifCond .eq 7, 3) := by decide +kernel
theorem dX12_kindHere_71 : decode cX12_kindHere 71 = .ok (.iconst 4, 1) := by decide +kernel
theorem dX12_kindHere_72 : decode cX12_kindHere 72 = .ok (.goto 4, 3) := by decide +kernel
theorem dX12_kindHere_75 : decode cX12_kindHere 75 = .ok (.iconst (-1), 1) := by decide +kernel
theorem dX12_kindHere_76 : decode cX12_kindHere 76 = .ok (.ireturn, 1) := by decide +kernel
theorem dX12_readsHour_0 : decode cX12_readsHour 0 = .ok (.aload_n 0, 1) := by decide +kernel
theorem dX12_readsHour_1 : decode cX12_readsHour 1 = .ok (.getfield 115, 3) := by decide +kernel
theorem dX12_readsHour_4 : decode cX12_readsHour 4 = .ok (.bipush 8, 2) := by decide +kernel
theorem dX12_readsHour_6 : decode cX12_readsHour 6 = .ok (.if_icmp .ne 5, 3) := by decide +kernel
theorem dX12_readsHour_9 : decode cX12_readsHour 9 = .ok (.iconst 0, 1) := by decide +kernel
theorem dX12_readsHour_10 : decode cX12_readsHour 10 = .ok (.ireturn, 1) := by decide +kernel
theorem dX12_readsHour_11 : decode cX12_readsHour 11 = .ok (.aload_n 0, 1) := by decide +kernel
theorem dX12_readsHour_12 : decode cX12_readsHour 12 = .ok (.invokevirtual 108, 3) := by decide +kernel
theorem dX12_readsHour_15 : decode cX12_readsHour 15 = .ok (.aload_n 0, 1) := by decide +kernel
theorem dX12_readsHour_16 : decode cX12_readsHour 16 = .ok (.iconst 0, 1) := by decide +kernel
theorem dX12_readsHour_17 : decode cX12_readsHour 17 = .ok (.iconst 0, 1) := by decide +kernel
theorem dX12_readsHour_18 : decode cX12_readsHour 18 = .ok (.aload_n 0, 1) := by decide +kernel
theorem dX12_readsHour_19 : decode cX12_readsHour 19 = .ok (.getfield 118, 3) := by decide +kernel
theorem dX12_readsHour_22 : decode cX12_readsHour 22 = .ok (.iconst 1, 1) := by decide +kernel
theorem dX12_readsHour_23 : decode cX12_readsHour 23 = .ok (.isub, 1) := by decide +kernel
theorem dX12_readsHour_24 : decode cX12_readsHour 24 = .ok (.invokevirtual 121, 3) := by decide +kernel
theorem dX12_readsHour_27 : decode cX12_readsHour 27 = .ok (.ifCond .eq 14, 3) := by decide +kernel
theorem dX12_readsHour_30 : decode cX12_readsHour 30 = .ok (.aload_n 0, 1) := by decide +kernel
theorem dX12_readsHour_31 : decode cX12_readsHour 31 = .ok (.iconst 1, 1) := by decide +kernel
theorem dX12_readsHour_32 : decode cX12_readsHour 32 = .ok (.iconst 0, 1) := by decide +kernel
theorem dX12_readsHour_33 : decode cX12_readsHour 33 = .ok (.bipush 9, 2) := by decide +kernel
theorem dX12_readsHour_35 : decode cX12_readsHour 35 = .ok (.invokevirtual 121, 3) := by decide +kernel
theorem dX12_readsHour_38 : decode cX12_readsHour 38 = .ok (.ifCond .ne 5, 3) := by decide +kernel
theorem dX12_readsHour_41 : decode cX12_readsHour 41 = .ok (.iconst 0, 1) := by decide +kernel
theorem dX12_readsHour_42 : decode cX12_readsHour 42 = .ok (.ireturn, 1) := by decide +kernel
theorem dX12_readsHour_43 : decode cX12_readsHour 43 = .ok (.aload_n 0, 1) := by decide +kernel
theorem dX12_readsHour_44 : decode cX12_readsHour 44 = .ok (.getfield 125, 3) := by decide +kernel
theorem dX12_readsHour_47 : decode cX12_readsHour 47 = .ok (.ifCond .eq 81, 3) := by decide +kernel
theorem dX12_readsHour_50 : decode cX12_readsHour 50 = .ok (.aload_n 0, 1) := by decide +kernel
theorem dX12_readsHour_51 : decode cX12_readsHour 51 = .ok (.getfield 7, 3) := by decide +kernel
theorem dX12_readsHour_54 : decode cX12_readsHour 54 = .ok (.bipush 73, 2) := by decide +kernel
theorem dX12_readsHour_56 : decode cX12_readsHour 56 = .ok (.aload_n 0, 1) := by decide +kernel
theorem dX12_readsHour_57 : decode cX12_readsHour 57 = .ok (.getfield 115, 3) := by decide +kernel
theorem dX12_readsHour_60 : decode cX12_readsHour 60 = .ok (.iadd, 1) := by decide +kernel
theorem dX12_readsHour_61 : decode cX12_readsHour 61 = .ok (.iload_n 1, 1) := by decide +kernel
theorem dX12_readsHour_62 : decode cX12_readsHour 62 = .ok (.iastore, 1) := by decide +kernel
theorem dX12_readsHour_63 : decode cX12_readsHour 63 = .ok (.aload_n 0, 1) := by decide +kernel
theorem dX12_readsHour_64 : decode cX12_readsHour 64 = .ok (.getfield 7, 3) := by decide +kernel
theorem dX12_readsHour_67 : decode cX12_readsHour 67 = .ok (.bipush 81, 2) := by decide +kernel
theorem dX12_readsHour_69 : decode cX12_readsHour 69 = .ok (.aload_n 0, 1) := by decide +kernel
theorem dX12_readsHour_70 : decode cX12_readsHour 70 = .ok (.getfield 115, 3) := by decide +kernel
theorem dX12_readsHour_73 : decode cX12_readsHour 73 = .ok (.iadd, 1) := by decide +kernel
theorem dX12_readsHour_74 : decode cX12_readsHour 74 = .ok (.aload_n 0, 1) := by decide +kernel
theorem dX12_readsHour_75 : decode cX12_readsHour 75 = .ok (.getfield 38, 3) := by decide +kernel
theorem dX12_readsHour_78 : decode cX12_readsHour 78 = .ok (.iconst 0, 1) := by decide +kernel
theorem dX12_readsHour_79 : decode cX12_readsHour 79 = .ok (.iaload, 1) := by decide +kernel
theorem dX12_readsHour_80 : decode cX12_readsHour 80 = .ok (.iastore, 1) := by decide +kernel
theorem dX12_readsHour_81 : decode cX12_readsHour 81 = .ok (.aload_n 0, 1) := by decide +kernel
theorem dX12_readsHour_82 : decode cX12_readsHour 82 = .ok (.getfield 7, 3) := by decide +kernel
theorem dX12_readsHour_85 : decode cX12_readsHour 85 = .ok (.bipush 89, 2) := by decide +kernel
theorem dX12_readsHour_87 : decode cX12_readsHour 87 = .ok (.aload_n 0, 1) := by decide +kernel
theorem dX12_readsHour_88 : decode cX12_readsHour 88 = .ok (.getfield 115, 3) := by decide +kernel
theorem dX12_readsHour_91 : decode cX12_readsHour 91 = .ok (.iadd, 1) := by decide +kernel
theorem dX12_readsHour_92 : decode cX12_readsHour 92 = .ok (.aload_n 0, 1) := by decide +kernel
theorem dX12_readsHour_93 : decode cX12_readsHour 93 = .ok (.getfield 38, 3) := by decide +kernel
theorem dX12_readsHour_96 : decode cX12_readsHour 96 = .ok (.iconst 0, 1) := by decide +kernel
theorem dX12_readsHour_97 : decode cX12_readsHour 97 = .ok (.iaload, 1) := by decide +kernel
theorem dX12_readsHour_98 : decode cX12_readsHour 98 = .ok (.iastore, 1) := by decide +kernel
theorem dX12_readsHour_99 : decode cX12_readsHour 99 = .ok (.aload_n 0, 1) := by decide +kernel
theorem dX12_readsHour_100 : decode cX12_readsHour 100 = .ok (.getfield 7, 3) := by decide +kernel
theorem dX12_readsHour_103 : decode cX12_readsHour 103 = .ok (.bipush 97, 2) := by decide +kernel
theorem dX12_readsHour_105 : decode cX12_readsHour 105 = .ok (.aload_n 0, 1) := by decide +kernel
theorem dX12_readsHour_106 : decode cX12_readsHour 106 = .ok (.getfield 115, 3) := by decide +kernel
theorem dX12_readsHour_109 : decode cX12_readsHour 109 = .ok (.iadd, 1) := by decide +kernel
theorem dX12_readsHour_110 : decode cX12_readsHour 110 = .ok (.aload_n 0, 1) := by decide +kernel
theorem dX12_readsHour_111 : decode cX12_readsHour 111 = .ok (.getfield 38, 3) := by decide +kernel
theorem dX12_readsHour_114 : decode cX12_readsHour 114 = .ok (.iconst 1, 1) := by decide +kernel
theorem dX12_readsHour_115 : decode cX12_readsHour 115 = .ok (.iaload, 1) := by decide +kernel
theorem dX12_readsHour_116 : decode cX12_readsHour 116 = .ok (.iastore, 1) := by decide +kernel
theorem dX12_readsHour_117 : decode cX12_readsHour 117 = .ok (.aload_n 0, 1) := by decide +kernel
theorem dX12_readsHour_118 : decode cX12_readsHour 118 = .ok (.getfield 7, 3) := by decide +kernel
theorem dX12_readsHour_121 : decode cX12_readsHour 121 = .ok (.bipush 70, 2) := by decide +kernel
theorem dX12_readsHour_123 : decode cX12_readsHour 123 = .ok (.dup2, 1) := by decide +kernel
theorem dX12_readsHour_124 : decode cX12_readsHour 124 = .ok (.iaload, 1) := by decide +kernel
theorem dX12_readsHour_125 : decode cX12_readsHour 125 = .ok (.iconst 1, 1) := by decide +kernel
theorem dX12_readsHour_126 : decode cX12_readsHour 126 = .ok (.iadd, 1) := by decide +kernel
theorem dX12_readsHour_127 : decode cX12_readsHour 127 = .ok (.iastore, 1) := by decide +kernel
theorem dX12_readsHour_128 : decode cX12_readsHour 128 = .ok (.aload_n 0, 1) := by decide +kernel
theorem dX12_readsHour_129 : decode cX12_readsHour 129 = .ok (.dup, 1) := by decide +kernel
theorem dX12_readsHour_130 : decode cX12_readsHour 130 = .ok (.getfield 115, 3) := by decide +kernel
theorem dX12_readsHour_133 : decode cX12_readsHour 133 = .ok (.iconst 1, 1) := by decide +kernel
theorem dX12_readsHour_134 : decode cX12_readsHour 134 = .ok (.iadd, 1) := by decide +kernel
theorem dX12_readsHour_135 : decode cX12_readsHour 135 = .ok (.putfield 115, 3) := by decide +kernel
theorem dX12_readsHour_138 : decode cX12_readsHour 138 = .ok (.iconst 1, 1) := by decide +kernel
theorem dX12_readsHour_139 : decode cX12_readsHour 139 = .ok (.ireturn, 1) := by decide +kernel
theorem dX12_readsInn_0 : decode cX12_readsInn 0 = .ok (.aload_n 0, 1) := by decide +kernel
theorem dX12_readsInn_1 : decode cX12_readsInn 1 = .ok (.getfield 118, 3) := by decide +kernel
theorem dX12_readsInn_4 : decode cX12_readsInn 4 = .ok (.bipush 6, 2) := by decide +kernel
theorem dX12_readsInn_6 : decode cX12_readsInn 6 = .ok (.if_icmp .ne 5, 3) := by decide +kernel
theorem dX12_readsInn_9 : decode cX12_readsInn 9 = .ok (.iconst 0, 1) := by decide +kernel
theorem dX12_readsInn_10 : decode cX12_readsInn 10 = .ok (.ireturn, 1) := by decide +kernel
theorem dX12_readsInn_11 : decode cX12_readsInn 11 = .ok (.aload_n 0, 1) := by decide +kernel
theorem dX12_readsInn_12 : decode cX12_readsInn 12 = .ok (.invokevirtual 108, 3) := by decide +kernel
theorem dX12_readsInn_15 : decode cX12_readsInn 15 = .ok (.aload_n 0, 1) := by decide +kernel
theorem dX12_readsInn_16 : decode cX12_readsInn 16 = .ok (.iconst 0, 1) := by decide +kernel
theorem dX12_readsInn_17 : decode cX12_readsInn 17 = .ok (.iconst 1, 1) := by decide +kernel
theorem dX12_readsInn_18 : decode cX12_readsInn 18 = .ok (.bipush 9, 2) := by decide +kernel
theorem dX12_readsInn_20 : decode cX12_readsInn 20 = .ok (.invokevirtual 121, 3) := by decide +kernel
theorem dX12_readsInn_23 : decode cX12_readsInn 23 = .ok (.ifCond .ne 5, 3) := by decide +kernel
theorem dX12_readsInn_26 : decode cX12_readsInn 26 = .ok (.iconst 0, 1) := by decide +kernel
theorem dX12_readsInn_27 : decode cX12_readsInn 27 = .ok (.ireturn, 1) := by decide +kernel
theorem dX12_readsInn_28 : decode cX12_readsInn 28 = .ok (.aload_n 0, 1) := by decide +kernel
theorem dX12_readsInn_29 : decode cX12_readsInn 29 = .ok (.getfield 125, 3) := by decide +kernel
theorem dX12_readsInn_32 : decode cX12_readsInn 32 = .ok (.ifCond .eq 34, 3) := by decide +kernel
theorem dX12_readsInn_35 : decode cX12_readsInn 35 = .ok (.aload_n 0, 1) := by decide +kernel
theorem dX12_readsInn_36 : decode cX12_readsInn 36 = .ok (.getfield 7, 3) := by decide +kernel
theorem dX12_readsInn_39 : decode cX12_readsInn 39 = .ok (.sipush 134, 3) := by decide +kernel
theorem dX12_readsInn_42 : decode cX12_readsInn 42 = .ok (.aload_n 0, 1) := by decide +kernel
theorem dX12_readsInn_43 : decode cX12_readsInn 43 = .ok (.getfield 118, 3) := by decide +kernel
theorem dX12_readsInn_46 : decode cX12_readsInn 46 = .ok (.iadd, 1) := by decide +kernel
theorem dX12_readsInn_47 : decode cX12_readsInn 47 = .ok (.aload_n 0, 1) := by decide +kernel
theorem dX12_readsInn_48 : decode cX12_readsInn 48 = .ok (.getfield 38, 3) := by decide +kernel
theorem dX12_readsInn_51 : decode cX12_readsInn 51 = .ok (.iconst 0, 1) := by decide +kernel
theorem dX12_readsInn_52 : decode cX12_readsInn 52 = .ok (.iaload, 1) := by decide +kernel
theorem dX12_readsInn_53 : decode cX12_readsInn 53 = .ok (.iastore, 1) := by decide +kernel
theorem dX12_readsInn_54 : decode cX12_readsInn 54 = .ok (.aload_n 0, 1) := by decide +kernel
theorem dX12_readsInn_55 : decode cX12_readsInn 55 = .ok (.getfield 7, 3) := by decide +kernel
theorem dX12_readsInn_58 : decode cX12_readsInn 58 = .ok (.sipush 133, 3) := by decide +kernel
theorem dX12_readsInn_61 : decode cX12_readsInn 61 = .ok (.dup2, 1) := by decide +kernel
theorem dX12_readsInn_62 : decode cX12_readsInn 62 = .ok (.iaload, 1) := by decide +kernel
theorem dX12_readsInn_63 : decode cX12_readsInn 63 = .ok (.iconst 1, 1) := by decide +kernel
theorem dX12_readsInn_64 : decode cX12_readsInn 64 = .ok (.iadd, 1) := by decide +kernel
theorem dX12_readsInn_65 : decode cX12_readsInn 65 = .ok (.iastore, 1) := by decide +kernel
theorem dX12_readsInn_66 : decode cX12_readsInn 66 = .ok (.aload_n 0, 1) := by decide +kernel
theorem dX12_readsInn_67 : decode cX12_readsInn 67 = .ok (.dup, 1) := by decide +kernel
theorem dX12_readsInn_68 : decode cX12_readsInn 68 = .ok (.getfield 118, 3) := by decide +kernel
theorem dX12_readsInn_71 : decode cX12_readsInn 71 = .ok (.iconst 1, 1) := by decide +kernel
theorem dX12_readsInn_72 : decode cX12_readsInn 72 = .ok (.iadd, 1) := by decide +kernel
theorem dX12_readsInn_73 : decode cX12_readsInn 73 = .ok (.putfield 118, 3) := by decide +kernel
theorem dX12_readsInn_76 : decode cX12_readsInn 76 = .ok (.iconst 1, 1) := by decide +kernel
theorem dX12_readsInn_77 : decode cX12_readsInn 77 = .ok (.ireturn, 1) := by decide +kernel
theorem dX12_readsRider_0 : decode cX12_readsRider 0 = .ok (.aload_n 0, 1) := by decide +kernel
theorem dX12_readsRider_1 : decode cX12_readsRider 1 = .ok (.getfield 129, 3) := by decide +kernel
theorem dX12_readsRider_4 : decode cX12_readsRider 4 = .ok (.iconst 4, 1) := by decide +kernel
theorem dX12_readsRider_5 : decode cX12_readsRider 5 = .ok (.if_icmp .ne 5, 3) := by decide +kernel
theorem dX12_readsRider_8 : decode cX12_readsRider 8 = .ok (.iconst 0, 1) := by decide +kernel
theorem dX12_readsRider_9 : decode cX12_readsRider 9 = .ok (.ireturn, 1) := by decide +kernel
theorem dX12_readsRider_10 : decode cX12_readsRider 10 = .ok (.aload_n 0, 1) := by decide +kernel
theorem dX12_readsRider_11 : decode cX12_readsRider 11 = .ok (.invokevirtual 108, 3) := by decide +kernel
theorem dX12_readsRider_14 : decode cX12_readsRider 14 = .ok (.aload_n 0, 1) := by decide +kernel
theorem dX12_readsRider_15 : decode cX12_readsRider 15 = .ok (.iconst 0, 1) := by decide +kernel
theorem dX12_readsRider_16 : decode cX12_readsRider 16 = .ok (.iconst 0, 1) := by decide +kernel
theorem dX12_readsRider_17 : decode cX12_readsRider 17 = .ok (.aload_n 0, 1) := by decide +kernel
theorem dX12_readsRider_18 : decode cX12_readsRider 18 = .ok (.getfield 118, 3) := by decide +kernel
theorem dX12_readsRider_21 : decode cX12_readsRider 21 = .ok (.iconst 1, 1) := by decide +kernel
theorem dX12_readsRider_22 : decode cX12_readsRider 22 = .ok (.isub, 1) := by decide +kernel
theorem dX12_readsRider_23 : decode cX12_readsRider 23 = .ok (.invokevirtual 121, 3) := by decide +kernel
theorem dX12_readsRider_26 : decode cX12_readsRider 26 = .ok (.ifCond .eq 18, 3) := by decide +kernel
theorem dX12_readsRider_29 : decode cX12_readsRider 29 = .ok (.aload_n 0, 1) := by decide +kernel
theorem dX12_readsRider_30 : decode cX12_readsRider 30 = .ok (.iconst 1, 1) := by decide +kernel
theorem dX12_readsRider_31 : decode cX12_readsRider 31 = .ok (.iconst 0, 1) := by decide +kernel
theorem dX12_readsRider_32 : decode cX12_readsRider 32 = .ok (.aload_n 0, 1) := by decide +kernel
theorem dX12_readsRider_33 : decode cX12_readsRider 33 = .ok (.getfield 118, 3) := by decide +kernel
theorem dX12_readsRider_36 : decode cX12_readsRider 36 = .ok (.iconst 1, 1) := by decide +kernel
theorem dX12_readsRider_37 : decode cX12_readsRider 37 = .ok (.isub, 1) := by decide +kernel
theorem dX12_readsRider_38 : decode cX12_readsRider 38 = .ok (.invokevirtual 121, 3) := by decide +kernel
theorem dX12_readsRider_41 : decode cX12_readsRider 41 = .ok (.ifCond .ne 5, 3) := by decide +kernel
theorem dX12_readsRider_44 : decode cX12_readsRider 44 = .ok (.iconst 0, 1) := by decide +kernel
theorem dX12_readsRider_45 : decode cX12_readsRider 45 = .ok (.ireturn, 1) := by decide +kernel
theorem dX12_readsRider_46 : decode cX12_readsRider 46 = .ok (.aload_n 0, 1) := by decide +kernel
theorem dX12_readsRider_47 : decode cX12_readsRider 47 = .ok (.getfield 125, 3) := by decide +kernel
theorem dX12_readsRider_50 : decode cX12_readsRider 50 = .ok (.ifCond .eq 50, 3) := by decide +kernel
theorem dX12_readsRider_53 : decode cX12_readsRider 53 = .ok (.aload_n 0, 1) := by decide +kernel
theorem dX12_readsRider_54 : decode cX12_readsRider 54 = .ok (.getfield 7, 3) := by decide +kernel
theorem dX12_readsRider_57 : decode cX12_readsRider 57 = .ok (.bipush 121, 2) := by decide +kernel
theorem dX12_readsRider_59 : decode cX12_readsRider 59 = .ok (.aload_n 0, 1) := by decide +kernel
theorem dX12_readsRider_60 : decode cX12_readsRider 60 = .ok (.getfield 129, 3) := by decide +kernel
theorem dX12_readsRider_63 : decode cX12_readsRider 63 = .ok (.iadd, 1) := by decide +kernel
theorem dX12_readsRider_64 : decode cX12_readsRider 64 = .ok (.aload_n 0, 1) := by decide +kernel
theorem dX12_readsRider_65 : decode cX12_readsRider 65 = .ok (.getfield 38, 3) := by decide +kernel
theorem dX12_readsRider_68 : decode cX12_readsRider 68 = .ok (.iconst 0, 1) := by decide +kernel
theorem dX12_readsRider_69 : decode cX12_readsRider 69 = .ok (.iaload, 1) := by decide +kernel
theorem dX12_readsRider_70 : decode cX12_readsRider 70 = .ok (.iastore, 1) := by decide +kernel
theorem dX12_readsRider_71 : decode cX12_readsRider 71 = .ok (.aload_n 0, 1) := by decide +kernel
theorem dX12_readsRider_72 : decode cX12_readsRider 72 = .ok (.getfield 7, 3) := by decide +kernel
theorem dX12_readsRider_75 : decode cX12_readsRider 75 = .ok (.bipush 125, 2) := by decide +kernel
theorem dX12_readsRider_77 : decode cX12_readsRider 77 = .ok (.aload_n 0, 1) := by decide +kernel
theorem dX12_readsRider_78 : decode cX12_readsRider 78 = .ok (.getfield 129, 3) := by decide +kernel
theorem dX12_readsRider_81 : decode cX12_readsRider 81 = .ok (.iadd, 1) := by decide +kernel
theorem dX12_readsRider_82 : decode cX12_readsRider 82 = .ok (.aload_n 0, 1) := by decide +kernel
theorem dX12_readsRider_83 : decode cX12_readsRider 83 = .ok (.getfield 38, 3) := by decide +kernel
theorem dX12_readsRider_86 : decode cX12_readsRider 86 = .ok (.iconst 1, 1) := by decide +kernel
theorem dX12_readsRider_87 : decode cX12_readsRider 87 = .ok (.iaload, 1) := by decide +kernel
theorem dX12_readsRider_88 : decode cX12_readsRider 88 = .ok (.iastore, 1) := by decide +kernel
theorem dX12_readsRider_89 : decode cX12_readsRider 89 = .ok (.aload_n 0, 1) := by decide +kernel
theorem dX12_readsRider_90 : decode cX12_readsRider 90 = .ok (.getfield 7, 3) := by decide +kernel
theorem dX12_readsRider_93 : decode cX12_readsRider 93 = .ok (.bipush 71, 2) := by decide +kernel
theorem dX12_readsRider_95 : decode cX12_readsRider 95 = .ok (.dup2, 1) := by decide +kernel
theorem dX12_readsRider_96 : decode cX12_readsRider 96 = .ok (.iaload, 1) := by decide +kernel
theorem dX12_readsRider_97 : decode cX12_readsRider 97 = .ok (.iconst 1, 1) := by decide +kernel
theorem dX12_readsRider_98 : decode cX12_readsRider 98 = .ok (.iadd, 1) := by decide +kernel
theorem dX12_readsRider_99 : decode cX12_readsRider 99 = .ok (.iastore, 1) := by decide +kernel
theorem dX12_readsRider_100 : decode cX12_readsRider 100 = .ok (.aload_n 0, 1) := by decide +kernel
theorem dX12_readsRider_101 : decode cX12_readsRider 101 = .ok (.dup, 1) := by decide +kernel
theorem dX12_readsRider_102 : decode cX12_readsRider 102 = .ok (.getfield 129, 3) := by decide +kernel
theorem dX12_readsRider_105 : decode cX12_readsRider 105 = .ok (.iconst 1, 1) := by decide +kernel
theorem dX12_readsRider_106 : decode cX12_readsRider 106 = .ok (.iadd, 1) := by decide +kernel
theorem dX12_readsRider_107 : decode cX12_readsRider 107 = .ok (.putfield 129, 3) := by decide +kernel
theorem dX12_readsRider_110 : decode cX12_readsRider 110 = .ok (.iconst 1, 1) := by decide +kernel
theorem dX12_readsRider_111 : decode cX12_readsRider 111 = .ok (.ireturn, 1) := by decide +kernel
theorem dX12_readsRoad_0 : decode cX12_readsRoad 0 = .ok (.aload_n 0, 1) := by decide +kernel
theorem dX12_readsRoad_1 : decode cX12_readsRoad 1 = .ok (.invokevirtual 108, 3) := by decide +kernel
theorem dX12_readsRoad_4 : decode cX12_readsRoad 4 = .ok (.aload_n 0, 1) := by decide +kernel
theorem dX12_readsRoad_5 : decode cX12_readsRoad 5 = .ok (.iconst 0, 1) := by decide +kernel
theorem dX12_readsRoad_6 : decode cX12_readsRoad 6 = .ok (.putfield 118, 3) := by decide +kernel
theorem dX12_readsRoad_9 : decode cX12_readsRoad 9 = .ok (.aload_n 0, 1) := by decide +kernel
theorem dX12_readsRoad_10 : decode cX12_readsRoad 10 = .ok (.iconst 0, 1) := by decide +kernel
theorem dX12_readsRoad_11 : decode cX12_readsRoad 11 = .ok (.putfield 115, 3) := by decide +kernel
theorem dX12_readsRoad_14 : decode cX12_readsRoad 14 = .ok (.aload_n 0, 1) := by decide +kernel
theorem dX12_readsRoad_15 : decode cX12_readsRoad 15 = .ok (.iconst 0, 1) := by decide +kernel
theorem dX12_readsRoad_16 : decode cX12_readsRoad 16 = .ok (.putfield 129, 3) := by decide +kernel
theorem dX12_readsRoad_19 : decode cX12_readsRoad 19 = .ok (.iconst 0, 1) := by decide +kernel
theorem dX12_readsRoad_20 : decode cX12_readsRoad 20 = .ok (.istore_n 1, 1) := by decide +kernel
theorem dX12_readsRoad_21 : decode cX12_readsRoad 21 = .ok (.iload_n 1, 1) := by decide +kernel
theorem dX12_readsRoad_22 : decode cX12_readsRoad 22 = .ok (.bipush 70, 2) := by decide +kernel
theorem dX12_readsRoad_24 : decode cX12_readsRoad 24 = .ok (.if_icmp .ge 26, 3) := by decide +kernel
theorem dX12_readsRoad_27 : decode cX12_readsRoad 27 = .ok (.aload_n 0, 1) := by decide +kernel
theorem dX12_readsRoad_28 : decode cX12_readsRoad 28 = .ok (.getfield 125, 3) := by decide +kernel
theorem dX12_readsRoad_31 : decode cX12_readsRoad 31 = .ok (.ifCond .eq 19, 3) := by decide +kernel
theorem dX12_readsRoad_34 : decode cX12_readsRoad 34 = .ok (.aload_n 0, 1) := by decide +kernel
theorem dX12_readsRoad_35 : decode cX12_readsRoad 35 = .ok (.getfield 7, 3) := by decide +kernel
theorem dX12_readsRoad_38 : decode cX12_readsRoad 38 = .ok (.bipush 70, 2) := by decide +kernel
theorem dX12_readsRoad_40 : decode cX12_readsRoad 40 = .ok (.iload_n 1, 1) := by decide +kernel
theorem dX12_readsRoad_41 : decode cX12_readsRoad 41 = .ok (.iadd, 1) := by decide +kernel
theorem dX12_readsRoad_42 : decode cX12_readsRoad 42 = .ok (.iconst 0, 1) := by decide +kernel
theorem dX12_readsRoad_43 : decode cX12_readsRoad 43 = .ok (.iastore, 1) := by decide +kernel
theorem dX12_readsRoad_44 : decode cX12_readsRoad 44 = .ok (.iinc 1 1, 3) := by decide +kernel
theorem dX12_readsRoad_47 : decode cX12_readsRoad 47 = .ok (.goto (-26), 3) := by decide +kernel
theorem dX12_readsRoad_50 : decode cX12_readsRoad 50 = .ok (.iconst 1, 1) := by decide +kernel
theorem dX12_readsRoad_51 : decode cX12_readsRoad 51 = .ok (.ireturn, 1) := by decide +kernel
theorem dX12_readsClause_0 : decode cX12_readsClause 0 = .ok (.aload_n 0, 1) := by decide +kernel
theorem dX12_readsClause_1 : decode cX12_readsClause 1 = .ok (.invokevirtual 132, 3) := by decide +kernel
theorem dX12_readsClause_4 : decode cX12_readsClause 4 = .ok (.iconst (-1), 1) := by decide +kernel
theorem dX12_readsClause_5 : decode cX12_readsClause 5 = .ok (.if_icmp .eq 12, 3) := by decide +kernel
theorem dX12_readsClause_8 : decode cX12_readsClause 8 = .ok (.aload_n 0, 1) := by decide +kernel
theorem dX12_readsClause_9 : decode cX12_readsClause 9 = .ok (.aload_n 0, 1) := by decide +kernel
theorem dX12_readsClause_10 : decode cX12_readsClause 10 = .ok (.invokevirtual 132, 3) := by decide +kernel
theorem dX12_readsClause_13 : decode cX12_readsClause 13 = .ok (.invokevirtual 136, 3) := by decide +kernel
theorem dX12_readsClause_16 : decode cX12_readsClause 16 = .ok (.ireturn, 1) := by decide +kernel
theorem dX12_readsClause_17 : decode cX12_readsClause 17 = .ok (.aload_n 0, 1) := by decide +kernel
theorem dX12_readsClause_18 : decode cX12_readsClause 18 = .ok (.aload_n 0, 1) := by decide +kernel
theorem dX12_readsClause_19 : decode cX12_readsClause 19 = .ok (.getfield 41, 3) := by decide +kernel
theorem dX12_readsClause_22 : decode cX12_readsClause 22 = .ok (.invokevirtual 111, 3) := by decide +kernel
theorem dX12_readsClause_25 : decode cX12_readsClause 25 = .ok (.ifCond .eq 10, 3) := by decide +kernel
theorem dX12_readsClause_28 : decode cX12_readsClause 28 = .ok (.aload_n 0, 1) := by decide +kernel
theorem dX12_readsClause_29 : decode cX12_readsClause 29 = .ok (.invokevirtual 139, 3) := by decide +kernel
theorem dX12_readsClause_32 : decode cX12_readsClause 32 = .ok (.goto 44, 3) := by decide +kernel
theorem dX12_readsClause_35 : decode cX12_readsClause 35 = .ok (.aload_n 0, 1) := by decide +kernel
theorem dX12_readsClause_36 : decode cX12_readsClause 36 = .ok (.aload_n 0, 1) := by decide +kernel
theorem dX12_readsClause_37 : decode cX12_readsClause 37 = .ok (.getfield 44, 3) := by decide +kernel
theorem dX12_readsClause_40 : decode cX12_readsClause 40 = .ok (.invokevirtual 111, 3) := by decide +kernel
theorem dX12_readsClause_43 : decode cX12_readsClause 43 = .ok (.ifCond .eq 10, 3) := by decide +kernel
theorem dX12_readsClause_46 : decode cX12_readsClause 46 = .ok (.aload_n 0, 1) := by decide +kernel
theorem dX12_readsClause_47 : decode cX12_readsClause 47 = .ok (.invokevirtual 143, 3) := by decide +kernel
theorem dX12_readsClause_50 : decode cX12_readsClause 50 = .ok (.goto 26, 3) := by decide +kernel
theorem dX12_readsClause_53 : decode cX12_readsClause 53 = .ok (.aload_n 0, 1) := by decide +kernel
theorem dX12_readsClause_54 : decode cX12_readsClause 54 = .ok (.aload_n 0, 1) := by decide +kernel
theorem dX12_readsClause_55 : decode cX12_readsClause 55 = .ok (.getfield 62, 3) := by decide +kernel
theorem dX12_readsClause_58 : decode cX12_readsClause 58 = .ok (.invokevirtual 111, 3) := by decide +kernel
theorem dX12_readsClause_61 : decode cX12_readsClause 61 = .ok (.ifCond .eq 14, 3) := by decide +kernel
theorem dX12_readsClause_64 : decode cX12_readsClause 64 = .ok (.aload_n 0, 1) := by decide +kernel
theorem dX12_readsClause_65 : decode cX12_readsClause 65 = .ok (.invokevirtual 146, 3) := by decide +kernel
theorem dX12_readsClause_68 : decode cX12_readsClause 68 = .ok (.ifCond .eq 7, 3) := by decide +kernel
theorem dX12_readsClause_71 : decode cX12_readsClause 71 = .ok (.iconst 1, 1) := by decide +kernel
theorem dX12_readsClause_72 : decode cX12_readsClause 72 = .ok (.goto 4, 3) := by decide +kernel
theorem dX12_readsClause_75 : decode cX12_readsClause 75 = .ok (.iconst 0, 1) := by decide +kernel
theorem dX12_readsClause_76 : decode cX12_readsClause 76 = .ok (.ireturn, 1) := by decide +kernel
theorem dX12_reads_0 : decode cX12_reads 0 = .ok (.aload_n 0, 1) := by decide +kernel
theorem dX12_reads_1 : decode cX12_reads 1 = .ok (.iload_n 1, 1) := by decide +kernel
theorem dX12_reads_2 : decode cX12_reads 2 = .ok (.putfield 125, 3) := by decide +kernel
theorem dX12_reads_5 : decode cX12_reads 5 = .ok (.aload_n 0, 1) := by decide +kernel
theorem dX12_reads_6 : decode cX12_reads 6 = .ok (.iconst 0, 1) := by decide +kernel
theorem dX12_reads_7 : decode cX12_reads 7 = .ok (.putfield 95, 3) := by decide +kernel
theorem dX12_reads_10 : decode cX12_reads 10 = .ok (.aload_n 0, 1) := by decide +kernel
theorem dX12_reads_11 : decode cX12_reads 11 = .ok (.iconst 1, 1) := by decide +kernel
theorem dX12_reads_12 : decode cX12_reads 12 = .ok (.putfield 149, 3) := by decide +kernel
theorem dX12_reads_15 : decode cX12_reads 15 = .ok (.aload_n 0, 1) := by decide +kernel
theorem dX12_reads_16 : decode cX12_reads 16 = .ok (.aload_n 0, 1) := by decide +kernel
theorem dX12_reads_17 : decode cX12_reads 17 = .ok (.getfield 7, 3) := by decide +kernel
theorem dX12_reads_20 : decode cX12_reads 20 = .ok (.sipush 133, 3) := by decide +kernel
theorem dX12_reads_23 : decode cX12_reads 23 = .ok (.iaload, 1) := by decide +kernel
theorem dX12_reads_24 : decode cX12_reads 24 = .ok (.putfield 118, 3) := by decide +kernel
theorem dX12_reads_27 : decode cX12_reads 27 = .ok (.aload_n 0, 1) := by decide +kernel
theorem dX12_reads_28 : decode cX12_reads 28 = .ok (.aload_n 0, 1) := by decide +kernel
theorem dX12_reads_29 : decode cX12_reads 29 = .ok (.getfield 7, 3) := by decide +kernel
theorem dX12_reads_32 : decode cX12_reads 32 = .ok (.bipush 70, 2) := by decide +kernel
theorem dX12_reads_34 : decode cX12_reads 34 = .ok (.iaload, 1) := by decide +kernel
theorem dX12_reads_35 : decode cX12_reads 35 = .ok (.putfield 115, 3) := by decide +kernel
theorem dX12_reads_38 : decode cX12_reads 38 = .ok (.aload_n 0, 1) := by decide +kernel
theorem dX12_reads_39 : decode cX12_reads 39 = .ok (.aload_n 0, 1) := by decide +kernel
theorem dX12_reads_40 : decode cX12_reads 40 = .ok (.getfield 7, 3) := by decide +kernel
theorem dX12_reads_43 : decode cX12_reads 43 = .ok (.bipush 71, 2) := by decide +kernel
theorem dX12_reads_45 : decode cX12_reads 45 = .ok (.iaload, 1) := by decide +kernel
theorem dX12_reads_46 : decode cX12_reads 46 = .ok (.putfield 129, 3) := by decide +kernel
theorem dX12_reads_49 : decode cX12_reads 49 = .ok (.aload_n 0, 1) := by decide +kernel
theorem dX12_reads_50 : decode cX12_reads 50 = .ok (.invokevirtual 108, 3) := by decide +kernel
theorem dX12_reads_53 : decode cX12_reads 53 = .ok (.aload_n 0, 1) := by decide +kernel
theorem dX12_reads_54 : decode cX12_reads 54 = .ok (.invokevirtual 152, 3) := by decide +kernel
theorem dX12_reads_57 : decode cX12_reads 57 = .ok (.istore_n 2, 1) := by decide +kernel
theorem dX12_reads_58 : decode cX12_reads 58 = .ok (.iload_n 2, 1) := by decide +kernel
theorem dX12_reads_59 : decode cX12_reads 59 = .ok (.ifCond .eq 69, 3) := by decide +kernel
theorem dX12_reads_62 : decode cX12_reads 62 = .ok (.aload_n 0, 1) := by decide +kernel
theorem dX12_reads_63 : decode cX12_reads 63 = .ok (.getfield 98, 3) := by decide +kernel
theorem dX12_reads_66 : decode cX12_reads 66 = .ok (.aload_n 0, 1) := by decide +kernel
theorem dX12_reads_67 : decode cX12_reads 67 = .ok (.getfield 83, 3) := by decide +kernel
theorem dX12_reads_70 : decode cX12_reads 70 = .ok (.if_icmp .ge 58, 3) := by decide +kernel
theorem dX12_reads_73 : decode cX12_reads 73 = .ok (.aload_n 0, 1) := by decide +kernel
theorem dX12_reads_74 : decode cX12_reads 74 = .ok (.getfield 149, 3) := by decide +kernel
theorem dX12_reads_77 : decode cX12_reads 77 = .ok (.bipush 20, 2) := by decide +kernel
theorem dX12_reads_79 : decode cX12_reads 79 = .ok (.if_icmp .ge 21, 3) := by decide +kernel
theorem dX12_reads_82 : decode cX12_reads 82 = .ok (.aload_n 0, 1) := by decide +kernel
theorem dX12_reads_83 : decode cX12_reads 83 = .ok (.getfield 17, 3) := by decide +kernel
theorem dX12_reads_86 : decode cX12_reads 86 = .ok (.aload_n 0, 1) := by decide +kernel
theorem dX12_reads_87 : decode cX12_reads 87 = .ok (.getfield 98, 3) := by decide +kernel
theorem dX12_reads_90 : decode cX12_reads 90 = .ok (.iaload, 1) := by decide +kernel
theorem dX12_reads_91 : decode cX12_reads 91 = .ok (.bipush 59, 2) := by decide +kernel
theorem dX12_reads_93 : decode cX12_reads 93 = .ok (.if_icmp .ne 7, 3) := by decide +kernel
theorem dX12_reads_96 : decode cX12_reads 96 = .ok (.iconst 1, 1) := by decide +kernel
theorem dX12_reads_97 : decode cX12_reads 97 = .ok (.goto 4, 3) := by decide +kernel
theorem dX12_reads_100 : decode cX12_reads 100 = .ok (.iconst 0, 1) := by decide +kernel
theorem dX12_reads_101 : decode cX12_reads 101 = .ok (.istore_n 2, 1) := by decide +kernel
theorem dX12_reads_102 : decode cX12_reads 102 = .ok (.iload_n 2, 1) := by decide +kernel
theorem dX12_reads_103 : decode cX12_reads 103 = .ok (.ifCond .eq (-45), 3) := by decide +kernel
theorem dX12_reads_106 : decode cX12_reads 106 = .ok (.aload_n 0, 1) := by decide +kernel
theorem dX12_reads_107 : decode cX12_reads 107 = .ok (.invokevirtual 108, 3) := by decide +kernel
theorem dX12_reads_110 : decode cX12_reads 110 = .ok (.aload_n 0, 1) := by decide +kernel
theorem dX12_reads_111 : decode cX12_reads 111 = .ok (.invokevirtual 152, 3) := by decide +kernel
theorem dX12_reads_114 : decode cX12_reads 114 = .ok (.istore_n 2, 1) := by decide +kernel
theorem dX12_reads_115 : decode cX12_reads 115 = .ok (.aload_n 0, 1) := by decide +kernel
theorem dX12_reads_116 : decode cX12_reads 116 = .ok (.dup, 1) := by decide +kernel
theorem dX12_reads_117 : decode cX12_reads 117 = .ok (.getfield 149, 3) := by decide +kernel
theorem dX12_reads_120 : decode cX12_reads 120 = .ok (.iconst 1, 1) := by decide +kernel
theorem dX12_reads_121 : decode cX12_reads 121 = .ok (.iadd, 1) := by decide +kernel
theorem dX12_reads_122 : decode cX12_reads 122 = .ok (.putfield 149, 3) := by decide +kernel
theorem dX12_reads_125 : decode cX12_reads 125 = .ok (.goto (-67), 3) := by decide +kernel
theorem dX12_reads_128 : decode cX12_reads 128 = .ok (.iload_n 2, 1) := by decide +kernel
theorem dX12_reads_129 : decode cX12_reads 129 = .ok (.ireturn, 1) := by decide +kernel
theorem dX12_fault_0 : decode cX12_fault 0 = .ok (.aload_n 0, 1) := by decide +kernel
theorem dX12_fault_1 : decode cX12_fault 1 = .ok (.iconst 0, 1) := by decide +kernel
theorem dX12_fault_2 : decode cX12_fault 2 = .ok (.invokevirtual 155, 3) := by decide +kernel
theorem dX12_fault_5 : decode cX12_fault 5 = .ok (.ifCond .eq 7, 3) := by decide +kernel
theorem dX12_fault_8 : decode cX12_fault 8 = .ok (.iconst (-1), 1) := by decide +kernel
theorem dX12_fault_9 : decode cX12_fault 9 = .ok (.goto 7, 3) := by decide +kernel
theorem dX12_fault_12 : decode cX12_fault 12 = .ok (.aload_n 0, 1) := by decide +kernel
theorem dX12_fault_13 : decode cX12_fault 13 = .ok (.getfield 98, 3) := by decide +kernel
theorem dX12_fault_16 : decode cX12_fault 16 = .ok (.ireturn, 1) := by decide +kernel
theorem dX12_copyRoad_0 : decode cX12_copyRoad 0 = .ok (.iconst 0, 1) := by decide +kernel
theorem dX12_copyRoad_1 : decode cX12_copyRoad 1 = .ok (.istore_n 3, 1) := by decide +kernel
theorem dX12_copyRoad_2 : decode cX12_copyRoad 2 = .ok (.iload_n 3, 1) := by decide +kernel
theorem dX12_copyRoad_3 : decode cX12_copyRoad 3 = .ok (.bipush 70, 2) := by decide +kernel
theorem dX12_copyRoad_5 : decode cX12_copyRoad 5 = .ok (.if_icmp .ge 25, 3) := by decide +kernel
theorem dX12_copyRoad_8 : decode cX12_copyRoad 8 = .ok (.aload_n 0, 1) := by decide +kernel
theorem dX12_copyRoad_9 : decode cX12_copyRoad 9 = .ok (.getfield 7, 3) := by decide +kernel
theorem dX12_copyRoad_12 : decode cX12_copyRoad 12 = .ok (.iload_n 2, 1) := by decide +kernel
theorem dX12_copyRoad_13 : decode cX12_copyRoad 13 = .ok (.iload_n 3, 1) := by decide +kernel
theorem dX12_copyRoad_14 : decode cX12_copyRoad 14 = .ok (.iadd, 1) := by decide +kernel
theorem dX12_copyRoad_15 : decode cX12_copyRoad 15 = .ok (.aload_n 0, 1) := by decide +kernel
theorem dX12_copyRoad_16 : decode cX12_copyRoad 16 = .ok (.getfield 7, 3) := by decide +kernel
theorem dX12_copyRoad_19 : decode cX12_copyRoad 19 = .ok (.iload_n 1, 1) := by decide +kernel
theorem dX12_copyRoad_20 : decode cX12_copyRoad 20 = .ok (.iload_n 3, 1) := by decide +kernel
theorem dX12_copyRoad_21 : decode cX12_copyRoad 21 = .ok (.iadd, 1) := by decide +kernel
theorem dX12_copyRoad_22 : decode cX12_copyRoad 22 = .ok (.iaload, 1) := by decide +kernel
theorem dX12_copyRoad_23 : decode cX12_copyRoad 23 = .ok (.iastore, 1) := by decide +kernel
theorem dX12_copyRoad_24 : decode cX12_copyRoad 24 = .ok (.iinc 3 1, 3) := by decide +kernel
theorem dX12_copyRoad_27 : decode cX12_copyRoad 27 = .ok (.goto (-25), 3) := by decide +kernel
theorem dX12_copyRoad_30 : decode cX12_copyRoad 30 = .ok (.return_, 1) := by decide +kernel
theorem dX12_road_0 : decode cX12_road 0 = .ok (.aload_n 0, 1) := by decide +kernel
theorem dX12_road_1 : decode cX12_road 1 = .ok (.iconst 0, 1) := by decide +kernel
theorem dX12_road_2 : decode cX12_road 2 = .ok (.invokevirtual 155, 3) := by decide +kernel
theorem dX12_road_5 : decode cX12_road 5 = .ok (.ifCond .ne 6, 3) := by decide +kernel
theorem dX12_road_8 : decode cX12_road 8 = .ok (.bipush (-4), 2) := by decide +kernel
theorem dX12_road_10 : decode cX12_road 10 = .ok (.ireturn, 1) := by decide +kernel
theorem dX12_road_11 : decode cX12_road 11 = .ok (.aload_n 0, 1) := by decide +kernel
theorem dX12_road_12 : decode cX12_road 12 = .ok (.iconst 1, 1) := by decide +kernel
theorem dX12_road_13 : decode cX12_road 13 = .ok (.invokevirtual 155, 3) := by decide +kernel
theorem dX12_road_16 : decode cX12_road 16 = .ok (.pop, 1) := by decide +kernel
theorem dX12_road_17 : decode cX12_road 17 = .ok (.aload_n 0, 1) := by decide +kernel
theorem dX12_road_18 : decode cX12_road 18 = .ok (.iconst 0, 1) := by decide +kernel
theorem dX12_road_19 : decode cX12_road 19 = .ok (.putfield 83, 3) := by decide +kernel
theorem dX12_road_22 : decode cX12_road 22 = .ok (.aload_n 0, 1) := by decide +kernel
theorem dX12_road_23 : decode cX12_road 23 = .ok (.bipush 70, 2) := by decide +kernel
theorem dX12_road_25 : decode cX12_road 25 = .ok (.iconst 0, 1) := by decide +kernel
theorem dX12_road_26 : decode cX12_road 26 = .ok (.invokevirtual 159, 3) := by decide +kernel
theorem dX12_road_29 : decode cX12_road 29 = .ok (.aload_n 0, 1) := by decide +kernel
theorem dX12_road_30 : decode cX12_road 30 = .ok (.iconst 0, 1) := by decide +kernel
theorem dX12_road_31 : decode cX12_road 31 = .ok (.putfield 163, 3) := by decide +kernel
theorem dX12_road_34 : decode cX12_road 34 = .ok (.aload_n 0, 1) := by decide +kernel
theorem dX12_road_35 : decode cX12_road 35 = .ok (.getfield 13, 3) := by decide +kernel
theorem dX12_road_38 : decode cX12_road 38 = .ok (.iconst 0, 1) := by decide +kernel
theorem dX12_road_39 : decode cX12_road 39 = .ok (.iconst 0, 1) := by decide +kernel
theorem dX12_road_40 : decode cX12_road 40 = .ok (.bastore, 1) := by decide +kernel
theorem dX12_road_41 : decode cX12_road 41 = .ok (.aload_n 0, 1) := by decide +kernel
theorem dX12_road_42 : decode cX12_road 42 = .ok (.getfield 13, 3) := by decide +kernel
theorem dX12_road_45 : decode cX12_road 45 = .ok (.iconst 1, 1) := by decide +kernel
theorem dX12_road_46 : decode cX12_road 46 = .ok (.iconst 0, 1) := by decide +kernel
theorem dX12_road_47 : decode cX12_road 47 = .ok (.bastore, 1) := by decide +kernel
theorem dX12_road_48 : decode cX12_road 48 = .ok (.aload_n 0, 1) := by decide +kernel
theorem dX12_road_49 : decode cX12_road 49 = .ok (.iconst 0, 1) := by decide +kernel
theorem dX12_road_50 : decode cX12_road 50 = .ok (.putfield 166, 3) := by decide +kernel
theorem dX12_road_53 : decode cX12_road 53 = .ok (.iconst 0, 1) := by decide +kernel
theorem dX12_road_54 : decode cX12_road 54 = .ok (.istore_n 1, 1) := by decide +kernel
theorem dX12_road_55 : decode cX12_road 55 = .ok (.iload_n 1, 1) := by decide +kernel
theorem dX12_road_56 : decode cX12_road 56 = .ok (.iconst 4, 1) := by decide +kernel
theorem dX12_road_57 : decode cX12_road 57 = .ok (.if_icmp .ge 16, 3) := by decide +kernel
theorem dX12_road_60 : decode cX12_road 60 = .ok (.aload_n 0, 1) := by decide +kernel
theorem dX12_road_61 : decode cX12_road 61 = .ok (.getfield 29, 3) := by decide +kernel
theorem dX12_road_64 : decode cX12_road 64 = .ok (.iload_n 1, 1) := by decide +kernel
theorem dX12_road_65 : decode cX12_road 65 = .ok (.iconst (-1), 1) := by decide +kernel
theorem dX12_road_66 : decode cX12_road 66 = .ok (.iastore, 1) := by decide +kernel
theorem dX12_road_67 : decode cX12_road 67 = .ok (.iinc 1 1, 3) := by decide +kernel
theorem dX12_road_70 : decode cX12_road 70 = .ok (.goto (-15), 3) := by decide +kernel
theorem dX12_road_73 : decode cX12_road 73 = .ok (.aload_n 0, 1) := by decide +kernel
theorem dX12_road_74 : decode cX12_road 74 = .ok (.getfield 149, 3) := by decide +kernel
theorem dX12_road_77 : decode cX12_road 77 = .ok (.ireturn, 1) := by decide +kernel
theorem dX12_isInn_0 : decode cX12_isInn 0 = .ok (.iload_n 1, 1) := by decide +kernel
theorem dX12_isInn_1 : decode cX12_isInn 1 = .ok (.i2l, 1) := by decide +kernel
theorem dX12_isInn_2 : decode cX12_isInn 2 = .ok (.lconst 0, 1) := by decide +kernel
theorem dX12_isInn_3 : decode cX12_isInn 3 = .ok (.aload_n 0, 1) := by decide +kernel
theorem dX12_isInn_4 : decode cX12_isInn 4 = .ok (.getfield 7, 3) := by decide +kernel
theorem dX12_isInn_7 : decode cX12_isInn 7 = .ok (.bipush 63, 2) := by decide +kernel
theorem dX12_isInn_9 : decode cX12_isInn 9 = .ok (.iaload, 1) := by decide +kernel
theorem dX12_isInn_10 : decode cX12_isInn 10 = .ok (.iconst 1, 1) := by decide +kernel
theorem dX12_isInn_11 : decode cX12_isInn 11 = .ok (.isub, 1) := by decide +kernel
theorem dX12_isInn_12 : decode cX12_isInn 12 = .ok (.i2l, 1) := by decide +kernel
theorem dX12_isInn_13 : decode cX12_isInn 13 = .ok (.invokestatic 79, 3) := by decide +kernel
theorem dX12_isInn_16 : decode cX12_isInn 16 = .ok (.ireturn, 1) := by decide +kernel
theorem dX12_isHour_0 : decode cX12_isHour 0 = .ok (.iload_n 1, 1) := by decide +kernel
theorem dX12_isHour_1 : decode cX12_isHour 1 = .ok (.i2l, 1) := by decide +kernel
theorem dX12_isHour_2 : decode cX12_isHour 2 = .ok (.lconst 0, 1) := by decide +kernel
theorem dX12_isHour_3 : decode cX12_isHour 3 = .ok (.aload_n 0, 1) := by decide +kernel
theorem dX12_isHour_4 : decode cX12_isHour 4 = .ok (.getfield 7, 3) := by decide +kernel
theorem dX12_isHour_7 : decode cX12_isHour 7 = .ok (.iconst 0, 1) := by decide +kernel
theorem dX12_isHour_8 : decode cX12_isHour 8 = .ok (.iaload, 1) := by decide +kernel
theorem dX12_isHour_9 : decode cX12_isHour 9 = .ok (.iconst 1, 1) := by decide +kernel
theorem dX12_isHour_10 : decode cX12_isHour 10 = .ok (.isub, 1) := by decide +kernel
theorem dX12_isHour_11 : decode cX12_isHour 11 = .ok (.i2l, 1) := by decide +kernel
theorem dX12_isHour_12 : decode cX12_isHour 12 = .ok (.invokestatic 79, 3) := by decide +kernel
theorem dX12_isHour_15 : decode cX12_isHour 15 = .ok (.ireturn, 1) := by decide +kernel
theorem dX12_isRider_0 : decode cX12_isRider 0 = .ok (.iload_n 1, 1) := by decide +kernel
theorem dX12_isRider_1 : decode cX12_isRider 1 = .ok (.i2l, 1) := by decide +kernel
theorem dX12_isRider_2 : decode cX12_isRider 2 = .ok (.lconst 0, 1) := by decide +kernel
theorem dX12_isRider_3 : decode cX12_isRider 3 = .ok (.aload_n 0, 1) := by decide +kernel
theorem dX12_isRider_4 : decode cX12_isRider 4 = .ok (.getfield 7, 3) := by decide +kernel
theorem dX12_isRider_7 : decode cX12_isRider 7 = .ok (.iconst 1, 1) := by decide +kernel
theorem dX12_isRider_8 : decode cX12_isRider 8 = .ok (.iaload, 1) := by decide +kernel
theorem dX12_isRider_9 : decode cX12_isRider 9 = .ok (.iconst 1, 1) := by decide +kernel
theorem dX12_isRider_10 : decode cX12_isRider 10 = .ok (.isub, 1) := by decide +kernel
theorem dX12_isRider_11 : decode cX12_isRider 11 = .ok (.i2l, 1) := by decide +kernel
theorem dX12_isRider_12 : decode cX12_isRider 12 = .ok (.invokestatic 79, 3) := by decide +kernel
theorem dX12_isRider_15 : decode cX12_isRider 15 = .ok (.ireturn, 1) := by decide +kernel
theorem dX12_takes_0 : decode cX12_takes 0 = .ok (.iload_n 0, 1) := by decide +kernel
theorem dX12_takes_1 : decode cX12_takes 1 = .ok (.iconst 2, 1) := by decide +kernel
theorem dX12_takes_2 : decode cX12_takes 2 = .ok (.if_icmp .ne 11, 3) := by decide +kernel
theorem dX12_takes_5 : decode cX12_takes 5 = .ok (.iload_n 1, 1) := by decide +kernel
theorem dX12_takes_6 : decode cX12_takes 6 = .ok (.iconst 2, 1) := by decide +kernel
theorem dX12_takes_7 : decode cX12_takes 7 = .ok (.idiv, 1) := by decide +kernel
theorem dX12_takes_8 : decode cX12_takes 8 = .ok (.iconst 1, 1) := by decide +kernel
theorem dX12_takes_9 : decode cX12_takes 9 = .ok (.iadd, 1) := by decide +kernel
theorem dX12_takes_10 : decode cX12_takes 10 = .ok (.goto 20, 3) := by decide +kernel
theorem dX12_takes_13 : decode cX12_takes 13 = .ok (.iload_n 0, 1) := by decide +kernel
theorem dX12_takes_14 : decode cX12_takes 14 = .ok (.iconst 3, 1) := by decide +kernel
theorem dX12_takes_15 : decode cX12_takes 15 = .ok (.if_icmp .eq 8, 3) := by decide +kernel
theorem dX12_takes_18 : decode cX12_takes 18 = .ok (.iload_n 0, 1) := by decide +kernel
theorem dX12_takes_19 : decode cX12_takes 19 = .ok (.iconst 4, 1) := by decide +kernel
theorem dX12_takes_20 : decode cX12_takes 20 = .ok (.if_icmp .ne 9, 3) := by decide +kernel
theorem dX12_takes_23 : decode cX12_takes 23 = .ok (.iconst 2, 1) := by decide +kernel
theorem dX12_takes_24 : decode cX12_takes 24 = .ok (.iload_n 1, 1) := by decide +kernel
theorem dX12_takes_25 : decode cX12_takes 25 = .ok (.imul, 1) := by decide +kernel
theorem dX12_takes_26 : decode cX12_takes 26 = .ok (.goto 4, 3) := by decide +kernel
theorem dX12_takes_29 : decode cX12_takes 29 = .ok (.iload_n 1, 1) := by decide +kernel
theorem dX12_takes_30 : decode cX12_takes 30 = .ok (.ireturn, 1) := by decide +kernel
theorem dX12_tires_0 : decode cX12_tires 0 = .ok (.iload_n 0, 1) := by decide +kernel
theorem dX12_tires_1 : decode cX12_tires 1 = .ok (.iconst 2, 1) := by decide +kernel
theorem dX12_tires_2 : decode cX12_tires 2 = .ok (.if_icmp .ne 9, 3) := by decide +kernel
theorem dX12_tires_5 : decode cX12_tires 5 = .ok (.iconst 2, 1) := by decide +kernel
theorem dX12_tires_6 : decode cX12_tires 6 = .ok (.iload_n 1, 1) := by decide +kernel
theorem dX12_tires_7 : decode cX12_tires 7 = .ok (.imul, 1) := by decide +kernel
theorem dX12_tires_8 : decode cX12_tires 8 = .ok (.goto 22, 3) := by decide +kernel
theorem dX12_tires_11 : decode cX12_tires 11 = .ok (.iload_n 0, 1) := by decide +kernel
theorem dX12_tires_12 : decode cX12_tires 12 = .ok (.iconst 3, 1) := by decide +kernel
theorem dX12_tires_13 : decode cX12_tires 13 = .ok (.if_icmp .ne 7, 3) := by decide +kernel
theorem dX12_tires_16 : decode cX12_tires 16 = .ok (.iconst 0, 1) := by decide +kernel
theorem dX12_tires_17 : decode cX12_tires 17 = .ok (.goto 13, 3) := by decide +kernel
theorem dX12_tires_20 : decode cX12_tires 20 = .ok (.iload_n 0, 1) := by decide +kernel
theorem dX12_tires_21 : decode cX12_tires 21 = .ok (.iconst 4, 1) := by decide +kernel
theorem dX12_tires_22 : decode cX12_tires 22 = .ok (.if_icmp .ne 7, 3) := by decide +kernel
theorem dX12_tires_25 : decode cX12_tires 25 = .ok (.iconst 1, 1) := by decide +kernel
theorem dX12_tires_26 : decode cX12_tires 26 = .ok (.goto 4, 3) := by decide +kernel
theorem dX12_tires_29 : decode cX12_tires 29 = .ok (.iload_n 1, 1) := by decide +kernel
theorem dX12_tires_30 : decode cX12_tires 30 = .ok (.ireturn, 1) := by decide +kernel
theorem dX12_rests_0 : decode cX12_rests 0 = .ok (.iload_n 0, 1) := by decide +kernel
theorem dX12_rests_1 : decode cX12_rests 1 = .ok (.iconst 1, 1) := by decide +kernel
theorem dX12_rests_2 : decode cX12_rests 2 = .ok (.if_icmp .ne 7, 3) := by decide +kernel
theorem dX12_rests_5 : decode cX12_rests 5 = .ok (.iconst 3, 1) := by decide +kernel
theorem dX12_rests_6 : decode cX12_rests 6 = .ok (.goto 18, 3) := by decide +kernel
theorem dX12_rests_9 : decode cX12_rests 9 = .ok (.iload_n 0, 1) := by decide +kernel
theorem dX12_rests_10 : decode cX12_rests 10 = .ok (.iconst 3, 1) := by decide +kernel
theorem dX12_rests_11 : decode cX12_rests 11 = .ok (.if_icmp .eq 8, 3) := by decide +kernel
theorem dX12_rests_14 : decode cX12_rests 14 = .ok (.iload_n 0, 1) := by decide +kernel
theorem dX12_rests_15 : decode cX12_rests 15 = .ok (.iconst 4, 1) := by decide +kernel
theorem dX12_rests_16 : decode cX12_rests 16 = .ok (.if_icmp .ne 7, 3) := by decide +kernel
theorem dX12_rests_19 : decode cX12_rests 19 = .ok (.iconst 1, 1) := by decide +kernel
theorem dX12_rests_20 : decode cX12_rests 20 = .ok (.goto 4, 3) := by decide +kernel
theorem dX12_rests_23 : decode cX12_rests 23 = .ok (.iconst 2, 1) := by decide +kernel
theorem dX12_rests_24 : decode cX12_rests 24 = .ok (.ireturn, 1) := by decide +kernel
theorem dX12_hour_0 : decode cX12_hour 0 = .ok (.aload_n 0, 1) := by decide +kernel
theorem dX12_hour_1 : decode cX12_hour 1 = .ok (.iload_n 1, 1) := by decide +kernel
theorem dX12_hour_2 : decode cX12_hour 2 = .ok (.invokevirtual 169, 3) := by decide +kernel
theorem dX12_hour_5 : decode cX12_hour 5 = .ok (.ifCond .ne 6, 3) := by decide +kernel
theorem dX12_hour_8 : decode cX12_hour 8 = .ok (.bipush (-2), 2) := by decide +kernel
theorem dX12_hour_10 : decode cX12_hour 10 = .ok (.ireturn, 1) := by decide +kernel
theorem dX12_hour_11 : decode cX12_hour 11 = .ok (.iload_n 2, 1) := by decide +kernel
theorem dX12_hour_12 : decode cX12_hour 12 = .ok (.tableswitch 99 0 5 #[40, 49, 59, 69, 79, 89], 40) := by decide +kernel
theorem dX12_hour_52 : decode cX12_hour 52 = .ok (.aload_n 0, 1) := by decide +kernel
theorem dX12_hour_53 : decode cX12_hour 53 = .ok (.getfield 7, 3) := by decide +kernel
theorem dX12_hour_56 : decode cX12_hour 56 = .ok (.iconst 3, 1) := by decide +kernel
theorem dX12_hour_57 : decode cX12_hour 57 = .ok (.iload_n 1, 1) := by decide +kernel
theorem dX12_hour_58 : decode cX12_hour 58 = .ok (.iadd, 1) := by decide +kernel
theorem dX12_hour_59 : decode cX12_hour 59 = .ok (.iaload, 1) := by decide +kernel
theorem dX12_hour_60 : decode cX12_hour 60 = .ok (.ireturn, 1) := by decide +kernel
theorem dX12_hour_61 : decode cX12_hour 61 = .ok (.aload_n 0, 1) := by decide +kernel
theorem dX12_hour_62 : decode cX12_hour 62 = .ok (.getfield 7, 3) := by decide +kernel
theorem dX12_hour_65 : decode cX12_hour 65 = .ok (.bipush 11, 2) := by decide +kernel
theorem dX12_hour_67 : decode cX12_hour 67 = .ok (.iload_n 1, 1) := by decide +kernel
theorem dX12_hour_68 : decode cX12_hour 68 = .ok (.iadd, 1) := by decide +kernel
theorem dX12_hour_69 : decode cX12_hour 69 = .ok (.iaload, 1) := by decide +kernel
theorem dX12_hour_70 : decode cX12_hour 70 = .ok (.ireturn, 1) := by decide +kernel
theorem dX12_hour_71 : decode cX12_hour 71 = .ok (.aload_n 0, 1) := by decide +kernel
theorem dX12_hour_72 : decode cX12_hour 72 = .ok (.getfield 7, 3) := by decide +kernel
theorem dX12_hour_75 : decode cX12_hour 75 = .ok (.bipush 19, 2) := by decide +kernel
theorem dX12_hour_77 : decode cX12_hour 77 = .ok (.iload_n 1, 1) := by decide +kernel
theorem dX12_hour_78 : decode cX12_hour 78 = .ok (.iadd, 1) := by decide +kernel
theorem dX12_hour_79 : decode cX12_hour 79 = .ok (.iaload, 1) := by decide +kernel
theorem dX12_hour_80 : decode cX12_hour 80 = .ok (.ireturn, 1) := by decide +kernel
theorem dX12_hour_81 : decode cX12_hour 81 = .ok (.aload_n 0, 1) := by decide +kernel
theorem dX12_hour_82 : decode cX12_hour 82 = .ok (.getfield 7, 3) := by decide +kernel
theorem dX12_hour_85 : decode cX12_hour 85 = .ok (.bipush 27, 2) := by decide +kernel
theorem dX12_hour_87 : decode cX12_hour 87 = .ok (.iload_n 1, 1) := by decide +kernel
theorem dX12_hour_88 : decode cX12_hour 88 = .ok (.iadd, 1) := by decide +kernel
theorem dX12_hour_89 : decode cX12_hour 89 = .ok (.iaload, 1) := by decide +kernel
theorem dX12_hour_90 : decode cX12_hour 90 = .ok (.ireturn, 1) := by decide +kernel
theorem dX12_hour_91 : decode cX12_hour 91 = .ok (.aload_n 0, 1) := by decide +kernel
theorem dX12_hour_92 : decode cX12_hour 92 = .ok (.getfield 7, 3) := by decide +kernel
theorem dX12_hour_95 : decode cX12_hour 95 = .ok (.bipush 35, 2) := by decide +kernel
theorem dX12_hour_97 : decode cX12_hour 97 = .ok (.iload_n 1, 1) := by decide +kernel
theorem dX12_hour_98 : decode cX12_hour 98 = .ok (.iadd, 1) := by decide +kernel
theorem dX12_hour_99 : decode cX12_hour 99 = .ok (.iaload, 1) := by decide +kernel
theorem dX12_hour_100 : decode cX12_hour 100 = .ok (.ireturn, 1) := by decide +kernel
theorem dX12_hour_101 : decode cX12_hour 101 = .ok (.aload_n 0, 1) := by decide +kernel
theorem dX12_hour_102 : decode cX12_hour 102 = .ok (.getfield 7, 3) := by decide +kernel
theorem dX12_hour_105 : decode cX12_hour 105 = .ok (.bipush 43, 2) := by decide +kernel
theorem dX12_hour_107 : decode cX12_hour 107 = .ok (.iload_n 1, 1) := by decide +kernel
theorem dX12_hour_108 : decode cX12_hour 108 = .ok (.iadd, 1) := by decide +kernel
theorem dX12_hour_109 : decode cX12_hour 109 = .ok (.iaload, 1) := by decide +kernel
theorem dX12_hour_110 : decode cX12_hour 110 = .ok (.ireturn, 1) := by decide +kernel
theorem dX12_hour_111 : decode cX12_hour 111 = .ok (.bipush (-3), 2) := by decide +kernel
theorem dX12_hour_113 : decode cX12_hour 113 = .ok (.ireturn, 1) := by decide +kernel
theorem dX12_rider_0 : decode cX12_rider 0 = .ok (.aload_n 0, 1) := by decide +kernel
theorem dX12_rider_1 : decode cX12_rider 1 = .ok (.iload_n 1, 1) := by decide +kernel
theorem dX12_rider_2 : decode cX12_rider 2 = .ok (.invokevirtual 172, 3) := by decide +kernel
theorem dX12_rider_5 : decode cX12_rider 5 = .ok (.ifCond .ne 6, 3) := by decide +kernel
theorem dX12_rider_8 : decode cX12_rider 8 = .ok (.bipush (-2), 2) := by decide +kernel
theorem dX12_rider_10 : decode cX12_rider 10 = .ok (.ireturn, 1) := by decide +kernel
theorem dX12_rider_11 : decode cX12_rider 11 = .ok (.iload_n 2, 1) := by decide +kernel
theorem dX12_rider_12 : decode cX12_rider 12 = .ok (.ifCond .ne 15, 3) := by decide +kernel
theorem dX12_rider_15 : decode cX12_rider 15 = .ok (.aload_n 0, 1) := by decide +kernel
theorem dX12_rider_16 : decode cX12_rider 16 = .ok (.getfield 7, 3) := by decide +kernel
theorem dX12_rider_19 : decode cX12_rider 19 = .ok (.bipush 51, 2) := by decide +kernel
theorem dX12_rider_21 : decode cX12_rider 21 = .ok (.iload_n 1, 1) := by decide +kernel
theorem dX12_rider_22 : decode cX12_rider 22 = .ok (.iadd, 1) := by decide +kernel
theorem dX12_rider_23 : decode cX12_rider 23 = .ok (.iaload, 1) := by decide +kernel
theorem dX12_rider_24 : decode cX12_rider 24 = .ok (.goto 39, 3) := by decide +kernel
theorem dX12_rider_27 : decode cX12_rider 27 = .ok (.iload_n 2, 1) := by decide +kernel
theorem dX12_rider_28 : decode cX12_rider 28 = .ok (.iconst 1, 1) := by decide +kernel
theorem dX12_rider_29 : decode cX12_rider 29 = .ok (.if_icmp .ne 15, 3) := by decide +kernel
theorem dX12_rider_32 : decode cX12_rider 32 = .ok (.aload_n 0, 1) := by decide +kernel
theorem dX12_rider_33 : decode cX12_rider 33 = .ok (.getfield 7, 3) := by decide +kernel
theorem dX12_rider_36 : decode cX12_rider 36 = .ok (.bipush 55, 2) := by decide +kernel
theorem dX12_rider_38 : decode cX12_rider 38 = .ok (.iload_n 1, 1) := by decide +kernel
theorem dX12_rider_39 : decode cX12_rider 39 = .ok (.iadd, 1) := by decide +kernel
theorem dX12_rider_40 : decode cX12_rider 40 = .ok (.iaload, 1) := by decide +kernel
theorem dX12_rider_41 : decode cX12_rider 41 = .ok (.goto 22, 3) := by decide +kernel
theorem dX12_rider_44 : decode cX12_rider 44 = .ok (.iload_n 2, 1) := by decide +kernel
theorem dX12_rider_45 : decode cX12_rider 45 = .ok (.iconst 2, 1) := by decide +kernel
theorem dX12_rider_46 : decode cX12_rider 46 = .ok (.if_icmp .ne 15, 3) := by decide +kernel
theorem dX12_rider_49 : decode cX12_rider 49 = .ok (.aload_n 0, 1) := by decide +kernel
theorem dX12_rider_50 : decode cX12_rider 50 = .ok (.getfield 7, 3) := by decide +kernel
theorem dX12_rider_53 : decode cX12_rider 53 = .ok (.bipush 59, 2) := by decide +kernel
theorem dX12_rider_55 : decode cX12_rider 55 = .ok (.iload_n 1, 1) := by decide +kernel
theorem dX12_rider_56 : decode cX12_rider 56 = .ok (.iadd, 1) := by decide +kernel
theorem dX12_rider_57 : decode cX12_rider 57 = .ok (.iaload, 1) := by decide +kernel
theorem dX12_rider_58 : decode cX12_rider 58 = .ok (.goto 5, 3) := by decide +kernel
theorem dX12_rider_61 : decode cX12_rider 61 = .ok (.bipush (-3), 2) := by decide +kernel
theorem dX12_rider_63 : decode cX12_rider 63 = .ok (.ireturn, 1) := by decide +kernel
theorem dX12_inn_0 : decode cX12_inn 0 = .ok (.aload_n 0, 1) := by decide +kernel
theorem dX12_inn_1 : decode cX12_inn 1 = .ok (.iload_n 1, 1) := by decide +kernel
theorem dX12_inn_2 : decode cX12_inn 2 = .ok (.invokevirtual 175, 3) := by decide +kernel
theorem dX12_inn_5 : decode cX12_inn 5 = .ok (.ifCond .eq 15, 3) := by decide +kernel
theorem dX12_inn_8 : decode cX12_inn 8 = .ok (.aload_n 0, 1) := by decide +kernel
theorem dX12_inn_9 : decode cX12_inn 9 = .ok (.getfield 7, 3) := by decide +kernel
theorem dX12_inn_12 : decode cX12_inn 12 = .ok (.bipush 64, 2) := by decide +kernel
theorem dX12_inn_14 : decode cX12_inn 14 = .ok (.iload_n 1, 1) := by decide +kernel
theorem dX12_inn_15 : decode cX12_inn 15 = .ok (.iadd, 1) := by decide +kernel
theorem dX12_inn_16 : decode cX12_inn 16 = .ok (.iaload, 1) := by decide +kernel
theorem dX12_inn_17 : decode cX12_inn 17 = .ok (.goto 5, 3) := by decide +kernel
theorem dX12_inn_20 : decode cX12_inn 20 = .ok (.bipush (-2), 2) := by decide +kernel
theorem dX12_inn_22 : decode cX12_inn 22 = .ok (.ireturn, 1) := by decide +kernel
theorem dX12_as_0 : decode cX12_as 0 = .ok (.aload_n 0, 1) := by decide +kernel
theorem dX12_as_1 : decode cX12_as 1 = .ok (.iload_n 1, 1) := by decide +kernel
theorem dX12_as_2 : decode cX12_as 2 = .ok (.invokevirtual 169, 3) := by decide +kernel
theorem dX12_as_5 : decode cX12_as 5 = .ok (.ifCond .ne 6, 3) := by decide +kernel
theorem dX12_as_8 : decode cX12_as 8 = .ok (.bipush (-2), 2) := by decide +kernel
theorem dX12_as_10 : decode cX12_as 10 = .ok (.ireturn, 1) := by decide +kernel
theorem dX12_as_11 : decode cX12_as 11 = .ok (.iload_n 2, 1) := by decide +kernel
theorem dX12_as_12 : decode cX12_as 12 = .ok (.i2l, 1) := by decide +kernel
theorem dX12_as_13 : decode cX12_as 13 = .ok (.lconst 0, 1) := by decide +kernel
theorem dX12_as_14 : decode cX12_as 14 = .ok (.ldc2_w 178, 3) := by decide +kernel
theorem dX12_as_17 : decode cX12_as 17 = .ok (.invokestatic 79, 3) := by decide +kernel
theorem dX12_as_20 : decode cX12_as 20 = .ok (.ifCond .ne 6, 3) := by decide +kernel
theorem dX12_as_23 : decode cX12_as 23 = .ok (.bipush (-3), 2) := by decide +kernel
theorem dX12_as_25 : decode cX12_as 25 = .ok (.ireturn, 1) := by decide +kernel
theorem dX12_as_26 : decode cX12_as 26 = .ok (.aload_n 0, 1) := by decide +kernel
theorem dX12_as_27 : decode cX12_as 27 = .ok (.getfield 7, 3) := by decide +kernel
theorem dX12_as_30 : decode cX12_as 30 = .ok (.iconst 3, 1) := by decide +kernel
theorem dX12_as_31 : decode cX12_as 31 = .ok (.iload_n 1, 1) := by decide +kernel
theorem dX12_as_32 : decode cX12_as 32 = .ok (.iadd, 1) := by decide +kernel
theorem dX12_as_33 : decode cX12_as 33 = .ok (.iaload, 1) := by decide +kernel
theorem dX12_as_34 : decode cX12_as 34 = .ok (.istore_n 3, 1) := by decide +kernel
theorem dX12_as_35 : decode cX12_as 35 = .ok (.iload_n 2, 1) := by decide +kernel
theorem dX12_as_36 : decode cX12_as 36 = .ok (.ifCond .eq 30, 3) := by decide +kernel
theorem dX12_as_39 : decode cX12_as 39 = .ok (.iload_n 2, 1) := by decide +kernel
theorem dX12_as_40 : decode cX12_as 40 = .ok (.iload_n 3, 1) := by decide +kernel
theorem dX12_as_41 : decode cX12_as 41 = .ok (.iconst 1, 1) := by decide +kernel
theorem dX12_as_42 : decode cX12_as 42 = .ok (.iadd, 1) := by decide +kernel
theorem dX12_as_43 : decode cX12_as 43 = .ok (.if_icmp .eq 23, 3) := by decide +kernel
theorem dX12_as_46 : decode cX12_as 46 = .ok (.iload_n 2, 1) := by decide +kernel
theorem dX12_as_47 : decode cX12_as 47 = .ok (.iconst 1, 1) := by decide +kernel
theorem dX12_as_48 : decode cX12_as 48 = .ok (.if_icmp .ne 8, 3) := by decide +kernel
theorem dX12_as_51 : decode cX12_as 51 = .ok (.iload_n 3, 1) := by decide +kernel
theorem dX12_as_52 : decode cX12_as 52 = .ok (.iconst 3, 1) := by decide +kernel
theorem dX12_as_53 : decode cX12_as 53 = .ok (.if_icmp .lt 13, 3) := by decide +kernel
theorem dX12_as_56 : decode cX12_as 56 = .ok (.iload_n 2, 1) := by decide +kernel
theorem dX12_as_57 : decode cX12_as 57 = .ok (.iconst 4, 1) := by decide +kernel
theorem dX12_as_58 : decode cX12_as 58 = .ok (.if_icmp .ne 12, 3) := by decide +kernel
theorem dX12_as_61 : decode cX12_as 61 = .ok (.iload_n 3, 1) := by decide +kernel
theorem dX12_as_62 : decode cX12_as 62 = .ok (.iconst 4, 1) := by decide +kernel
theorem dX12_as_63 : decode cX12_as 63 = .ok (.if_icmp .ne 7, 3) := by decide +kernel
theorem dX12_as_66 : decode cX12_as 66 = .ok (.iconst 1, 1) := by decide +kernel
theorem dX12_as_67 : decode cX12_as 67 = .ok (.goto 4, 3) := by decide +kernel
theorem dX12_as_70 : decode cX12_as 70 = .ok (.iconst 0, 1) := by decide +kernel
theorem dX12_as_71 : decode cX12_as 71 = .ok (.istore 4, 2) := by decide +kernel
theorem dX12_as_73 : decode cX12_as 73 = .ok (.iload 4, 2) := by decide +kernel
theorem dX12_as_75 : decode cX12_as 75 = .ok (.ifCond .eq 11, 3) := by decide +kernel
theorem dX12_as_78 : decode cX12_as 78 = .ok (.iload_n 3, 1) := by decide +kernel
theorem dX12_as_79 : decode cX12_as 79 = .ok (.iconst 5, 1) := by decide +kernel
theorem dX12_as_80 : decode cX12_as 80 = .ok (.invokestatic 180, 3) := by decide +kernel
theorem dX12_as_83 : decode cX12_as 83 = .ok (.goto 5, 3) := by decide +kernel
theorem dX12_as_86 : decode cX12_as 86 = .ok (.bipush (-4), 2) := by decide +kernel
theorem dX12_as_88 : decode cX12_as 88 = .ok (.ireturn, 1) := by decide +kernel
theorem dX12_givenIn_0 : decode cX12_givenIn 0 = .ok (.iconst (-1), 1) := by decide +kernel
theorem dX12_givenIn_1 : decode cX12_givenIn 1 = .ok (.istore_n 3, 1) := by decide +kernel
theorem dX12_givenIn_2 : decode cX12_givenIn 2 = .ok (.ldc 184, 2) := by decide +kernel
theorem dX12_givenIn_4 : decode cX12_givenIn 4 = .ok (.istore 4, 2) := by decide +kernel
theorem dX12_givenIn_6 : decode cX12_givenIn 6 = .ok (.iconst 0, 1) := by decide +kernel
theorem dX12_givenIn_7 : decode cX12_givenIn 7 = .ok (.istore 5, 2) := by decide +kernel
theorem dX12_givenIn_9 : decode cX12_givenIn 9 = .ok (.iload 5, 2) := by decide +kernel
theorem dX12_givenIn_11 : decode cX12_givenIn 11 = .ok (.aload_n 0, 1) := by decide +kernel
theorem dX12_givenIn_12 : decode cX12_givenIn 12 = .ok (.getfield 7, 3) := by decide +kernel
theorem dX12_givenIn_15 : decode cX12_givenIn 15 = .ok (.iload_n 1, 1) := by decide +kernel
theorem dX12_givenIn_16 : decode cX12_givenIn 16 = .ok (.iconst 0, 1) := by decide +kernel
theorem dX12_givenIn_17 : decode cX12_givenIn 17 = .ok (.iadd, 1) := by decide +kernel
theorem dX12_givenIn_18 : decode cX12_givenIn 18 = .ok (.iaload, 1) := by decide +kernel
theorem dX12_givenIn_19 : decode cX12_givenIn 19 = .ok (.if_icmp .ge 124, 3) := by decide +kernel
theorem dX12_givenIn_22 : decode cX12_givenIn 22 = .ok (.aload_n 0, 1) := by decide +kernel
theorem dX12_givenIn_23 : decode cX12_givenIn 23 = .ok (.getfield 7, 3) := by decide +kernel
theorem dX12_givenIn_26 : decode cX12_givenIn 26 = .ok (.iload_n 1, 1) := by decide +kernel
theorem dX12_givenIn_27 : decode cX12_givenIn 27 = .ok (.bipush 19, 2) := by decide +kernel
theorem dX12_givenIn_29 : decode cX12_givenIn 29 = .ok (.iadd, 1) := by decide +kernel
theorem dX12_givenIn_30 : decode cX12_givenIn 30 = .ok (.iload 5, 2) := by decide +kernel
theorem dX12_givenIn_32 : decode cX12_givenIn 32 = .ok (.iadd, 1) := by decide +kernel
theorem dX12_givenIn_33 : decode cX12_givenIn 33 = .ok (.iaload, 1) := by decide +kernel
theorem dX12_givenIn_34 : decode cX12_givenIn 34 = .ok (.aload_n 0, 1) := by decide +kernel
theorem dX12_givenIn_35 : decode cX12_givenIn 35 = .ok (.getfield 7, 3) := by decide +kernel
theorem dX12_givenIn_38 : decode cX12_givenIn 38 = .ok (.iload_n 1, 1) := by decide +kernel
theorem dX12_givenIn_39 : decode cX12_givenIn 39 = .ok (.bipush 51, 2) := by decide +kernel
theorem dX12_givenIn_41 : decode cX12_givenIn 41 = .ok (.iadd, 1) := by decide +kernel
theorem dX12_givenIn_42 : decode cX12_givenIn 42 = .ok (.iload_n 2, 1) := by decide +kernel
theorem dX12_givenIn_43 : decode cX12_givenIn 43 = .ok (.iadd, 1) := by decide +kernel
theorem dX12_givenIn_44 : decode cX12_givenIn 44 = .ok (.iaload, 1) := by decide +kernel
theorem dX12_givenIn_45 : decode cX12_givenIn 45 = .ok (.if_icmp .ne 34, 3) := by decide +kernel
theorem dX12_givenIn_48 : decode cX12_givenIn 48 = .ok (.aload_n 0, 1) := by decide +kernel
theorem dX12_givenIn_49 : decode cX12_givenIn 49 = .ok (.getfield 7, 3) := by decide +kernel
theorem dX12_givenIn_52 : decode cX12_givenIn 52 = .ok (.iload_n 1, 1) := by decide +kernel
theorem dX12_givenIn_53 : decode cX12_givenIn 53 = .ok (.bipush 35, 2) := by decide +kernel
theorem dX12_givenIn_55 : decode cX12_givenIn 55 = .ok (.iadd, 1) := by decide +kernel
theorem dX12_givenIn_56 : decode cX12_givenIn 56 = .ok (.iload 5, 2) := by decide +kernel
theorem dX12_givenIn_58 : decode cX12_givenIn 58 = .ok (.iadd, 1) := by decide +kernel
theorem dX12_givenIn_59 : decode cX12_givenIn 59 = .ok (.iaload, 1) := by decide +kernel
theorem dX12_givenIn_60 : decode cX12_givenIn 60 = .ok (.ifCond .ne 19, 3) := by decide +kernel
theorem dX12_givenIn_63 : decode cX12_givenIn 63 = .ok (.aload_n 0, 1) := by decide +kernel
theorem dX12_givenIn_64 : decode cX12_givenIn 64 = .ok (.getfield 185, 3) := by decide +kernel
theorem dX12_givenIn_67 : decode cX12_givenIn 67 = .ok (.iload 5, 2) := by decide +kernel
theorem dX12_givenIn_69 : decode cX12_givenIn 69 = .ok (.invokestatic 188, 3) := by decide +kernel
theorem dX12_givenIn_72 : decode cX12_givenIn 72 = .ok (.ifCond .ne 7, 3) := by decide +kernel
theorem dX12_givenIn_75 : decode cX12_givenIn 75 = .ok (.iconst 1, 1) := by decide +kernel
theorem dX12_givenIn_76 : decode cX12_givenIn 76 = .ok (.goto 4, 3) := by decide +kernel
theorem dX12_givenIn_79 : decode cX12_givenIn 79 = .ok (.iconst 0, 1) := by decide +kernel
theorem dX12_givenIn_80 : decode cX12_givenIn 80 = .ok (.istore 6, 2) := by decide +kernel
theorem dX12_givenIn_82 : decode cX12_givenIn 82 = .ok (.aload_n 0, 1) := by decide +kernel
theorem dX12_givenIn_83 : decode cX12_givenIn 83 = .ok (.getfield 7, 3) := by decide +kernel
theorem dX12_givenIn_86 : decode cX12_givenIn 86 = .ok (.iload_n 1, 1) := by decide +kernel
theorem dX12_givenIn_87 : decode cX12_givenIn 87 = .ok (.bipush 27, 2) := by decide +kernel
theorem dX12_givenIn_89 : decode cX12_givenIn 89 = .ok (.iadd, 1) := by decide +kernel
theorem dX12_givenIn_90 : decode cX12_givenIn 90 = .ok (.iload 5, 2) := by decide +kernel
theorem dX12_givenIn_92 : decode cX12_givenIn 92 = .ok (.iadd, 1) := by decide +kernel
theorem dX12_givenIn_93 : decode cX12_givenIn 93 = .ok (.iaload, 1) := by decide +kernel
theorem dX12_givenIn_94 : decode cX12_givenIn 94 = .ok (.aload_n 0, 1) := by decide +kernel
theorem dX12_givenIn_95 : decode cX12_givenIn 95 = .ok (.getfield 7, 3) := by decide +kernel
theorem dX12_givenIn_98 : decode cX12_givenIn 98 = .ok (.iload_n 1, 1) := by decide +kernel
theorem dX12_givenIn_99 : decode cX12_givenIn 99 = .ok (.iconst 3, 1) := by decide +kernel
theorem dX12_givenIn_100 : decode cX12_givenIn 100 = .ok (.iadd, 1) := by decide +kernel
theorem dX12_givenIn_101 : decode cX12_givenIn 101 = .ok (.iload 5, 2) := by decide +kernel
theorem dX12_givenIn_103 : decode cX12_givenIn 103 = .ok (.iadd, 1) := by decide +kernel
theorem dX12_givenIn_104 : decode cX12_givenIn 104 = .ok (.iaload, 1) := by decide +kernel
theorem dX12_givenIn_105 : decode cX12_givenIn 105 = .ok (.iconst 4, 1) := by decide +kernel
theorem dX12_givenIn_106 : decode cX12_givenIn 106 = .ok (.if_icmp .ne 8, 3) := by decide +kernel
theorem dX12_givenIn_109 : decode cX12_givenIn 109 = .ok (.bipush 100, 2) := by decide +kernel
theorem dX12_givenIn_111 : decode cX12_givenIn 111 = .ok (.goto 4, 3) := by decide +kernel
theorem dX12_givenIn_114 : decode cX12_givenIn 114 = .ok (.iconst 0, 1) := by decide +kernel
theorem dX12_givenIn_115 : decode cX12_givenIn 115 = .ok (.iadd, 1) := by decide +kernel
theorem dX12_givenIn_116 : decode cX12_givenIn 116 = .ok (.istore 7, 2) := by decide +kernel
theorem dX12_givenIn_118 : decode cX12_givenIn 118 = .ok (.iload 6, 2) := by decide +kernel
theorem dX12_givenIn_120 : decode cX12_givenIn 120 = .ok (.ifCond .eq 17, 3) := by decide +kernel
theorem dX12_givenIn_123 : decode cX12_givenIn 123 = .ok (.iload 7, 2) := by decide +kernel
theorem dX12_givenIn_125 : decode cX12_givenIn 125 = .ok (.iload 4, 2) := by decide +kernel
theorem dX12_givenIn_127 : decode cX12_givenIn 127 = .ok (.if_icmp .ge 10, 3) := by decide +kernel
theorem dX12_givenIn_130 : decode cX12_givenIn 130 = .ok (.iload 5, 2) := by decide +kernel
theorem dX12_givenIn_132 : decode cX12_givenIn 132 = .ok (.istore_n 3, 1) := by decide +kernel
theorem dX12_givenIn_133 : decode cX12_givenIn 133 = .ok (.iload 7, 2) := by decide +kernel
theorem dX12_givenIn_135 : decode cX12_givenIn 135 = .ok (.istore 4, 2) := by decide +kernel
theorem dX12_givenIn_137 : decode cX12_givenIn 137 = .ok (.iinc 5 1, 3) := by decide +kernel
theorem dX12_givenIn_140 : decode cX12_givenIn 140 = .ok (.goto (-131), 3) := by decide +kernel
theorem dX12_givenIn_143 : decode cX12_givenIn 143 = .ok (.iload_n 3, 1) := by decide +kernel
theorem dX12_givenIn_144 : decode cX12_givenIn 144 = .ok (.ireturn, 1) := by decide +kernel
theorem dX12_next_0 : decode cX12_next 0 = .ok (.iload_n 1, 1) := by decide +kernel
theorem dX12_next_1 : decode cX12_next 1 = .ok (.iload_n 0, 1) := by decide +kernel
theorem dX12_next_2 : decode cX12_next 2 = .ok (.if_icmp .le 9, 3) := by decide +kernel
theorem dX12_next_5 : decode cX12_next 5 = .ok (.iload_n 0, 1) := by decide +kernel
theorem dX12_next_6 : decode cX12_next 6 = .ok (.iconst 1, 1) := by decide +kernel
theorem dX12_next_7 : decode cX12_next 7 = .ok (.iadd, 1) := by decide +kernel
theorem dX12_next_8 : decode cX12_next 8 = .ok (.goto 15, 3) := by decide +kernel
theorem dX12_next_11 : decode cX12_next 11 = .ok (.iload_n 1, 1) := by decide +kernel
theorem dX12_next_12 : decode cX12_next 12 = .ok (.iload_n 0, 1) := by decide +kernel
theorem dX12_next_13 : decode cX12_next 13 = .ok (.if_icmp .ge 9, 3) := by decide +kernel
theorem dX12_next_16 : decode cX12_next 16 = .ok (.iload_n 0, 1) := by decide +kernel
theorem dX12_next_17 : decode cX12_next 17 = .ok (.iconst 1, 1) := by decide +kernel
theorem dX12_next_18 : decode cX12_next 18 = .ok (.isub, 1) := by decide +kernel
theorem dX12_next_19 : decode cX12_next 19 = .ok (.goto 4, 3) := by decide +kernel
theorem dX12_next_22 : decode cX12_next 22 = .ok (.iload_n 0, 1) := by decide +kernel
theorem dX12_next_23 : decode cX12_next 23 = .ok (.ireturn, 1) := by decide +kernel
theorem dX12_milesOn_0 : decode cX12_milesOn 0 = .ok (.aload_n 0, 1) := by decide +kernel
theorem dX12_milesOn_1 : decode cX12_milesOn 1 = .ok (.getfield 7, 3) := by decide +kernel
theorem dX12_milesOn_4 : decode cX12_milesOn 4 = .ok (.iload_n 1, 1) := by decide +kernel
theorem dX12_milesOn_5 : decode cX12_milesOn 5 = .ok (.bipush 64, 2) := by decide +kernel
theorem dX12_milesOn_7 : decode cX12_milesOn 7 = .ok (.iadd, 1) := by decide +kernel
theorem dX12_milesOn_8 : decode cX12_milesOn 8 = .ok (.iload_n 3, 1) := by decide +kernel
theorem dX12_milesOn_9 : decode cX12_milesOn 9 = .ok (.iload_n 2, 1) := by decide +kernel
theorem dX12_milesOn_10 : decode cX12_milesOn 10 = .ok (.if_icmp .le 9, 3) := by decide +kernel
theorem dX12_milesOn_13 : decode cX12_milesOn 13 = .ok (.iload_n 2, 1) := by decide +kernel
theorem dX12_milesOn_14 : decode cX12_milesOn 14 = .ok (.iconst 1, 1) := by decide +kernel
theorem dX12_milesOn_15 : decode cX12_milesOn 15 = .ok (.iadd, 1) := by decide +kernel
theorem dX12_milesOn_16 : decode cX12_milesOn 16 = .ok (.goto 4, 3) := by decide +kernel
theorem dX12_milesOn_19 : decode cX12_milesOn 19 = .ok (.iload_n 2, 1) := by decide +kernel
theorem dX12_milesOn_20 : decode cX12_milesOn 20 = .ok (.iadd, 1) := by decide +kernel
theorem dX12_milesOn_21 : decode cX12_milesOn 21 = .ok (.iaload, 1) := by decide +kernel
theorem dX12_milesOn_22 : decode cX12_milesOn 22 = .ok (.ireturn, 1) := by decide +kernel
theorem dX12_tire_0 : decode cX12_tire 0 = .ok (.aload_n 0, 1) := by decide +kernel
theorem dX12_tire_1 : decode cX12_tire 1 = .ok (.getfield 7, 3) := by decide +kernel
theorem dX12_tire_4 : decode cX12_tire 4 = .ok (.iload_n 1, 1) := by decide +kernel
theorem dX12_tire_5 : decode cX12_tire 5 = .ok (.bipush 27, 2) := by decide +kernel
theorem dX12_tire_7 : decode cX12_tire 7 = .ok (.iadd, 1) := by decide +kernel
theorem dX12_tire_8 : decode cX12_tire 8 = .ok (.iload_n 2, 1) := by decide +kernel
theorem dX12_tire_9 : decode cX12_tire 9 = .ok (.iadd, 1) := by decide +kernel
theorem dX12_tire_10 : decode cX12_tire 10 = .ok (.dup2, 1) := by decide +kernel
theorem dX12_tire_11 : decode cX12_tire 11 = .ok (.iaload, 1) := by decide +kernel
theorem dX12_tire_12 : decode cX12_tire 12 = .ok (.iload_n 3, 1) := by decide +kernel
theorem dX12_tire_13 : decode cX12_tire 13 = .ok (.iadd, 1) := by decide +kernel
theorem dX12_tire_14 : decode cX12_tire 14 = .ok (.iastore, 1) := by decide +kernel
theorem dX12_tire_15 : decode cX12_tire 15 = .ok (.aload_n 0, 1) := by decide +kernel
theorem dX12_tire_16 : decode cX12_tire 16 = .ok (.getfield 7, 3) := by decide +kernel
theorem dX12_tire_19 : decode cX12_tire 19 = .ok (.iload_n 1, 1) := by decide +kernel
theorem dX12_tire_20 : decode cX12_tire 20 = .ok (.bipush 27, 2) := by decide +kernel
theorem dX12_tire_22 : decode cX12_tire 22 = .ok (.iadd, 1) := by decide +kernel
theorem dX12_tire_23 : decode cX12_tire 23 = .ok (.iload_n 2, 1) := by decide +kernel
theorem dX12_tire_24 : decode cX12_tire 24 = .ok (.iadd, 1) := by decide +kernel
theorem dX12_tire_25 : decode cX12_tire 25 = .ok (.iaload, 1) := by decide +kernel
theorem dX12_tire_26 : decode cX12_tire 26 = .ok (.bipush 9, 2) := by decide +kernel
theorem dX12_tire_28 : decode cX12_tire 28 = .ok (.if_icmp .le 28, 3) := by decide +kernel
theorem dX12_tire_31 : decode cX12_tire 31 = .ok (.aload_n 0, 1) := by decide +kernel
theorem dX12_tire_32 : decode cX12_tire 32 = .ok (.getfield 7, 3) := by decide +kernel
theorem dX12_tire_35 : decode cX12_tire 35 = .ok (.iload_n 1, 1) := by decide +kernel
theorem dX12_tire_36 : decode cX12_tire 36 = .ok (.bipush 27, 2) := by decide +kernel
theorem dX12_tire_38 : decode cX12_tire 38 = .ok (.iadd, 1) := by decide +kernel
theorem dX12_tire_39 : decode cX12_tire 39 = .ok (.iload_n 2, 1) := by decide +kernel
theorem dX12_tire_40 : decode cX12_tire 40 = .ok (.iadd, 1) := by decide +kernel
theorem dX12_tire_41 : decode cX12_tire 41 = .ok (.bipush 10, 2) := by decide +kernel
theorem dX12_tire_43 : decode cX12_tire 43 = .ok (.iastore, 1) := by decide +kernel
theorem dX12_tire_44 : decode cX12_tire 44 = .ok (.aload_n 0, 1) := by decide +kernel
theorem dX12_tire_45 : decode cX12_tire 45 = .ok (.getfield 7, 3) := by decide +kernel
theorem dX12_tire_48 : decode cX12_tire 48 = .ok (.iload_n 1, 1) := by decide +kernel
theorem dX12_tire_49 : decode cX12_tire 49 = .ok (.bipush 35, 2) := by decide +kernel
theorem dX12_tire_51 : decode cX12_tire 51 = .ok (.iadd, 1) := by decide +kernel
theorem dX12_tire_52 : decode cX12_tire 52 = .ok (.iload_n 2, 1) := by decide +kernel
theorem dX12_tire_53 : decode cX12_tire 53 = .ok (.iadd, 1) := by decide +kernel
theorem dX12_tire_54 : decode cX12_tire 54 = .ok (.iconst 1, 1) := by decide +kernel
theorem dX12_tire_55 : decode cX12_tire 55 = .ok (.iastore, 1) := by decide +kernel
theorem dX12_tire_56 : decode cX12_tire 56 = .ok (.return_, 1) := by decide +kernel
theorem dX12_rides_0 : decode cX12_rides 0 = .ok (.aload_n 0, 1) := by decide +kernel
theorem dX12_rides_1 : decode cX12_rides 1 = .ok (.iload_n 1, 1) := by decide +kernel
theorem dX12_rides_2 : decode cX12_rides 2 = .ok (.iload_n 2, 1) := by decide +kernel
theorem dX12_rides_3 : decode cX12_rides 3 = .ok (.invokevirtual 192, 3) := by decide +kernel
theorem dX12_rides_6 : decode cX12_rides 6 = .ok (.istore_n 3, 1) := by decide +kernel
theorem dX12_rides_7 : decode cX12_rides 7 = .ok (.iload_n 3, 1) := by decide +kernel
theorem dX12_rides_8 : decode cX12_rides 8 = .ok (.iconst (-1), 1) := by decide +kernel
theorem dX12_rides_9 : decode cX12_rides 9 = .ok (.if_icmp .ne 19, 3) := by decide +kernel
theorem dX12_rides_12 : decode cX12_rides 12 = .ok (.aload_n 0, 1) := by decide +kernel
theorem dX12_rides_13 : decode cX12_rides 13 = .ok (.getfield 7, 3) := by decide +kernel
theorem dX12_rides_16 : decode cX12_rides 16 = .ok (.iload_n 1, 1) := by decide +kernel
theorem dX12_rides_17 : decode cX12_rides 17 = .ok (.bipush 59, 2) := by decide +kernel
theorem dX12_rides_19 : decode cX12_rides 19 = .ok (.iadd, 1) := by decide +kernel
theorem dX12_rides_20 : decode cX12_rides 20 = .ok (.iload_n 2, 1) := by decide +kernel
theorem dX12_rides_21 : decode cX12_rides 21 = .ok (.iadd, 1) := by decide +kernel
theorem dX12_rides_22 : decode cX12_rides 22 = .ok (.dup2, 1) := by decide +kernel
theorem dX12_rides_23 : decode cX12_rides 23 = .ok (.iaload, 1) := by decide +kernel
theorem dX12_rides_24 : decode cX12_rides 24 = .ok (.iconst 1, 1) := by decide +kernel
theorem dX12_rides_25 : decode cX12_rides 25 = .ok (.iadd, 1) := by decide +kernel
theorem dX12_rides_26 : decode cX12_rides 26 = .ok (.iastore, 1) := by decide +kernel
theorem dX12_rides_27 : decode cX12_rides 27 = .ok (.return_, 1) := by decide +kernel
theorem dX12_rides_28 : decode cX12_rides 28 = .ok (.aload_n 0, 1) := by decide +kernel
theorem dX12_rides_29 : decode cX12_rides 29 = .ok (.getfield 7, 3) := by decide +kernel
theorem dX12_rides_32 : decode cX12_rides 32 = .ok (.iload_n 1, 1) := by decide +kernel
theorem dX12_rides_33 : decode cX12_rides 33 = .ok (.iconst 3, 1) := by decide +kernel
theorem dX12_rides_34 : decode cX12_rides 34 = .ok (.iadd, 1) := by decide +kernel
theorem dX12_rides_35 : decode cX12_rides 35 = .ok (.iload_n 3, 1) := by decide +kernel
theorem dX12_rides_36 : decode cX12_rides 36 = .ok (.iadd, 1) := by decide +kernel
theorem dX12_rides_37 : decode cX12_rides 37 = .ok (.iaload, 1) := by decide +kernel
theorem dX12_rides_38 : decode cX12_rides 38 = .ok (.istore 4, 2) := by decide +kernel
theorem dX12_rides_40 : decode cX12_rides 40 = .ok (.aload_n 0, 1) := by decide +kernel
theorem dX12_rides_41 : decode cX12_rides 41 = .ok (.dup, 1) := by decide +kernel
theorem dX12_rides_42 : decode cX12_rides 42 = .ok (.getfield 185, 3) := by decide +kernel
theorem dX12_rides_45 : decode cX12_rides 45 = .ok (.iconst 1, 1) := by decide +kernel
theorem dX12_rides_46 : decode cX12_rides 46 = .ok (.iload_n 3, 1) := by decide +kernel
theorem dX12_rides_47 : decode cX12_rides 47 = .ok (.ishl, 1) := by decide +kernel
theorem dX12_rides_48 : decode cX12_rides 48 = .ok (.ior, 1) := by decide +kernel
theorem dX12_rides_49 : decode cX12_rides 49 = .ok (.putfield 185, 3) := by decide +kernel
theorem dX12_rides_52 : decode cX12_rides 52 = .ok (.aload_n 0, 1) := by decide +kernel
theorem dX12_rides_53 : decode cX12_rides 53 = .ok (.getfield 7, 3) := by decide +kernel
theorem dX12_rides_56 : decode cX12_rides 56 = .ok (.iload_n 1, 1) := by decide +kernel
theorem dX12_rides_57 : decode cX12_rides 57 = .ok (.bipush 43, 2) := by decide +kernel
theorem dX12_rides_59 : decode cX12_rides 59 = .ok (.iadd, 1) := by decide +kernel
theorem dX12_rides_60 : decode cX12_rides 60 = .ok (.iload_n 3, 1) := by decide +kernel
theorem dX12_rides_61 : decode cX12_rides 61 = .ok (.iadd, 1) := by decide +kernel
theorem dX12_rides_62 : decode cX12_rides 62 = .ok (.dup2, 1) := by decide +kernel
theorem dX12_rides_63 : decode cX12_rides 63 = .ok (.iaload, 1) := by decide +kernel
theorem dX12_rides_64 : decode cX12_rides 64 = .ok (.iconst 1, 1) := by decide +kernel
theorem dX12_rides_65 : decode cX12_rides 65 = .ok (.iadd, 1) := by decide +kernel
theorem dX12_rides_66 : decode cX12_rides 66 = .ok (.iastore, 1) := by decide +kernel
theorem dX12_rides_67 : decode cX12_rides 67 = .ok (.iload 4, 2) := by decide +kernel
theorem dX12_rides_69 : decode cX12_rides 69 = .ok (.iconst 1, 1) := by decide +kernel
theorem dX12_rides_70 : decode cX12_rides 70 = .ok (.if_icmp .ne 42, 3) := by decide +kernel
theorem dX12_rides_73 : decode cX12_rides 73 = .ok (.aload_n 0, 1) := by decide +kernel
theorem dX12_rides_74 : decode cX12_rides 74 = .ok (.getfield 7, 3) := by decide +kernel
theorem dX12_rides_77 : decode cX12_rides 77 = .ok (.iload_n 1, 1) := by decide +kernel
theorem dX12_rides_78 : decode cX12_rides 78 = .ok (.bipush 43, 2) := by decide +kernel
theorem dX12_rides_80 : decode cX12_rides 80 = .ok (.iadd, 1) := by decide +kernel
theorem dX12_rides_81 : decode cX12_rides 81 = .ok (.iload_n 3, 1) := by decide +kernel
theorem dX12_rides_82 : decode cX12_rides 82 = .ok (.iadd, 1) := by decide +kernel
theorem dX12_rides_83 : decode cX12_rides 83 = .ok (.iaload, 1) := by decide +kernel
theorem dX12_rides_84 : decode cX12_rides 84 = .ok (.iconst 3, 1) := by decide +kernel
theorem dX12_rides_85 : decode cX12_rides 85 = .ok (.irem, 1) := by decide +kernel
theorem dX12_rides_86 : decode cX12_rides 86 = .ok (.ifCond .ne 26, 3) := by decide +kernel
theorem dX12_rides_89 : decode cX12_rides 89 = .ok (.aload_n 0, 1) := by decide +kernel
theorem dX12_rides_90 : decode cX12_rides 90 = .ok (.getfield 7, 3) := by decide +kernel
theorem dX12_rides_93 : decode cX12_rides 93 = .ok (.iload_n 1, 1) := by decide +kernel
theorem dX12_rides_94 : decode cX12_rides 94 = .ok (.bipush 59, 2) := by decide +kernel
theorem dX12_rides_96 : decode cX12_rides 96 = .ok (.iadd, 1) := by decide +kernel
theorem dX12_rides_97 : decode cX12_rides 97 = .ok (.iload_n 2, 1) := by decide +kernel
theorem dX12_rides_98 : decode cX12_rides 98 = .ok (.iadd, 1) := by decide +kernel
theorem dX12_rides_99 : decode cX12_rides 99 = .ok (.dup2, 1) := by decide +kernel
theorem dX12_rides_100 : decode cX12_rides 100 = .ok (.iaload, 1) := by decide +kernel
theorem dX12_rides_101 : decode cX12_rides 101 = .ok (.iconst 2, 1) := by decide +kernel
theorem dX12_rides_102 : decode cX12_rides 102 = .ok (.iadd, 1) := by decide +kernel
theorem dX12_rides_103 : decode cX12_rides 103 = .ok (.iastore, 1) := by decide +kernel
theorem dX12_rides_104 : decode cX12_rides 104 = .ok (.aload_n 0, 1) := by decide +kernel
theorem dX12_rides_105 : decode cX12_rides 105 = .ok (.iload_n 1, 1) := by decide +kernel
theorem dX12_rides_106 : decode cX12_rides 106 = .ok (.iload_n 3, 1) := by decide +kernel
theorem dX12_rides_107 : decode cX12_rides 107 = .ok (.iconst 1, 1) := by decide +kernel
theorem dX12_rides_108 : decode cX12_rides 108 = .ok (.invokevirtual 195, 3) := by decide +kernel
theorem dX12_rides_111 : decode cX12_rides 111 = .ok (.return_, 1) := by decide +kernel
theorem dX12_rides_112 : decode cX12_rides 112 = .ok (.aload_n 0, 1) := by decide +kernel
theorem dX12_rides_113 : decode cX12_rides 113 = .ok (.getfield 7, 3) := by decide +kernel
theorem dX12_rides_116 : decode cX12_rides 116 = .ok (.iload_n 1, 1) := by decide +kernel
theorem dX12_rides_117 : decode cX12_rides 117 = .ok (.bipush 51, 2) := by decide +kernel
theorem dX12_rides_119 : decode cX12_rides 119 = .ok (.iadd, 1) := by decide +kernel
theorem dX12_rides_120 : decode cX12_rides 120 = .ok (.iload_n 2, 1) := by decide +kernel
theorem dX12_rides_121 : decode cX12_rides 121 = .ok (.iadd, 1) := by decide +kernel
theorem dX12_rides_122 : decode cX12_rides 122 = .ok (.iaload, 1) := by decide +kernel
theorem dX12_rides_123 : decode cX12_rides 123 = .ok (.istore 5, 2) := by decide +kernel
theorem dX12_rides_125 : decode cX12_rides 125 = .ok (.aload_n 0, 1) := by decide +kernel
theorem dX12_rides_126 : decode cX12_rides 126 = .ok (.iload_n 1, 1) := by decide +kernel
theorem dX12_rides_127 : decode cX12_rides 127 = .ok (.iload 5, 2) := by decide +kernel
theorem dX12_rides_129 : decode cX12_rides 129 = .ok (.aload_n 0, 1) := by decide +kernel
theorem dX12_rides_130 : decode cX12_rides 130 = .ok (.getfield 7, 3) := by decide +kernel
theorem dX12_rides_133 : decode cX12_rides 133 = .ok (.iload_n 1, 1) := by decide +kernel
theorem dX12_rides_134 : decode cX12_rides 134 = .ok (.bipush 55, 2) := by decide +kernel
theorem dX12_rides_136 : decode cX12_rides 136 = .ok (.iadd, 1) := by decide +kernel
theorem dX12_rides_137 : decode cX12_rides 137 = .ok (.iload_n 2, 1) := by decide +kernel
theorem dX12_rides_138 : decode cX12_rides 138 = .ok (.iadd, 1) := by decide +kernel
theorem dX12_rides_139 : decode cX12_rides 139 = .ok (.iaload, 1) := by decide +kernel
theorem dX12_rides_140 : decode cX12_rides 140 = .ok (.invokevirtual 199, 3) := by decide +kernel
theorem dX12_rides_143 : decode cX12_rides 143 = .ok (.istore 6, 2) := by decide +kernel
theorem dX12_rides_145 : decode cX12_rides 145 = .ok (.aload_n 0, 1) := by decide +kernel
theorem dX12_rides_146 : decode cX12_rides 146 = .ok (.getfield 7, 3) := by decide +kernel
theorem dX12_rides_149 : decode cX12_rides 149 = .ok (.iload_n 1, 1) := by decide +kernel
theorem dX12_rides_150 : decode cX12_rides 150 = .ok (.bipush 51, 2) := by decide +kernel
theorem dX12_rides_152 : decode cX12_rides 152 = .ok (.iadd, 1) := by decide +kernel
theorem dX12_rides_153 : decode cX12_rides 153 = .ok (.iload_n 2, 1) := by decide +kernel
theorem dX12_rides_154 : decode cX12_rides 154 = .ok (.iadd, 1) := by decide +kernel
theorem dX12_rides_155 : decode cX12_rides 155 = .ok (.iload 5, 2) := by decide +kernel
theorem dX12_rides_157 : decode cX12_rides 157 = .ok (.aload_n 0, 1) := by decide +kernel
theorem dX12_rides_158 : decode cX12_rides 158 = .ok (.getfield 7, 3) := by decide +kernel
theorem dX12_rides_161 : decode cX12_rides 161 = .ok (.iload_n 1, 1) := by decide +kernel
theorem dX12_rides_162 : decode cX12_rides 162 = .ok (.bipush 55, 2) := by decide +kernel
theorem dX12_rides_164 : decode cX12_rides 164 = .ok (.iadd, 1) := by decide +kernel
theorem dX12_rides_165 : decode cX12_rides 165 = .ok (.iload_n 2, 1) := by decide +kernel
theorem dX12_rides_166 : decode cX12_rides 166 = .ok (.iadd, 1) := by decide +kernel
theorem dX12_rides_167 : decode cX12_rides 167 = .ok (.iaload, 1) := by decide +kernel
theorem dX12_rides_168 : decode cX12_rides 168 = .ok (.invokestatic 203, 3) := by decide +kernel
theorem dX12_rides_171 : decode cX12_rides 171 = .ok (.iastore, 1) := by decide +kernel
theorem dX12_rides_172 : decode cX12_rides 172 = .ok (.aload_n 0, 1) := by decide +kernel
theorem dX12_rides_173 : decode cX12_rides 173 = .ok (.getfield 7, 3) := by decide +kernel
theorem dX12_rides_176 : decode cX12_rides 176 = .ok (.iload_n 1, 1) := by decide +kernel
theorem dX12_rides_177 : decode cX12_rides 177 = .ok (.bipush 19, 2) := by decide +kernel
theorem dX12_rides_179 : decode cX12_rides 179 = .ok (.iadd, 1) := by decide +kernel
theorem dX12_rides_180 : decode cX12_rides 180 = .ok (.iload_n 3, 1) := by decide +kernel
theorem dX12_rides_181 : decode cX12_rides 181 = .ok (.iadd, 1) := by decide +kernel
theorem dX12_rides_182 : decode cX12_rides 182 = .ok (.aload_n 0, 1) := by decide +kernel
theorem dX12_rides_183 : decode cX12_rides 183 = .ok (.getfield 7, 3) := by decide +kernel
theorem dX12_rides_186 : decode cX12_rides 186 = .ok (.iload_n 1, 1) := by decide +kernel
theorem dX12_rides_187 : decode cX12_rides 187 = .ok (.bipush 51, 2) := by decide +kernel
theorem dX12_rides_189 : decode cX12_rides 189 = .ok (.iadd, 1) := by decide +kernel
theorem dX12_rides_190 : decode cX12_rides 190 = .ok (.iload_n 2, 1) := by decide +kernel
theorem dX12_rides_191 : decode cX12_rides 191 = .ok (.iadd, 1) := by decide +kernel
theorem dX12_rides_192 : decode cX12_rides 192 = .ok (.iaload, 1) := by decide +kernel
theorem dX12_rides_193 : decode cX12_rides 193 = .ok (.iastore, 1) := by decide +kernel
theorem dX12_rides_194 : decode cX12_rides 194 = .ok (.aload_n 0, 1) := by decide +kernel
theorem dX12_rides_195 : decode cX12_rides 195 = .ok (.getfield 7, 3) := by decide +kernel
theorem dX12_rides_198 : decode cX12_rides 198 = .ok (.iload_n 1, 1) := by decide +kernel
theorem dX12_rides_199 : decode cX12_rides 199 = .ok (.bipush 59, 2) := by decide +kernel
theorem dX12_rides_201 : decode cX12_rides 201 = .ok (.iadd, 1) := by decide +kernel
theorem dX12_rides_202 : decode cX12_rides 202 = .ok (.iload_n 2, 1) := by decide +kernel
theorem dX12_rides_203 : decode cX12_rides 203 = .ok (.iadd, 1) := by decide +kernel
theorem dX12_rides_204 : decode cX12_rides 204 = .ok (.dup2, 1) := by decide +kernel
theorem dX12_rides_205 : decode cX12_rides 205 = .ok (.iaload, 1) := by decide +kernel
theorem dX12_rides_206 : decode cX12_rides 206 = .ok (.iload 4, 2) := by decide +kernel
theorem dX12_rides_208 : decode cX12_rides 208 = .ok (.iload 6, 2) := by decide +kernel
theorem dX12_rides_210 : decode cX12_rides 210 = .ok (.invokestatic 180, 3) := by decide +kernel
theorem dX12_rides_213 : decode cX12_rides 213 = .ok (.iadd, 1) := by decide +kernel
theorem dX12_rides_214 : decode cX12_rides 214 = .ok (.iastore, 1) := by decide +kernel
theorem dX12_rides_215 : decode cX12_rides 215 = .ok (.aload_n 0, 1) := by decide +kernel
theorem dX12_rides_216 : decode cX12_rides 216 = .ok (.iload_n 1, 1) := by decide +kernel
theorem dX12_rides_217 : decode cX12_rides 217 = .ok (.iload_n 3, 1) := by decide +kernel
theorem dX12_rides_218 : decode cX12_rides 218 = .ok (.iload 4, 2) := by decide +kernel
theorem dX12_rides_220 : decode cX12_rides 220 = .ok (.iload 6, 2) := by decide +kernel
theorem dX12_rides_222 : decode cX12_rides 222 = .ok (.invokestatic 206, 3) := by decide +kernel
theorem dX12_rides_225 : decode cX12_rides 225 = .ok (.invokevirtual 195, 3) := by decide +kernel
theorem dX12_rides_228 : decode cX12_rides 228 = .ok (.return_, 1) := by decide +kernel
theorem dX12_leads_0 : decode cX12_leads 0 = .ok (.iconst (-1), 1) := by decide +kernel
theorem dX12_leads_1 : decode cX12_leads 1 = .ok (.istore_n 3, 1) := by decide +kernel
theorem dX12_leads_2 : decode cX12_leads 2 = .ok (.aload_n 0, 1) := by decide +kernel
theorem dX12_leads_3 : decode cX12_leads 3 = .ok (.getfield 7, 3) := by decide +kernel
theorem dX12_leads_6 : decode cX12_leads 6 = .ok (.iload_n 1, 1) := by decide +kernel
theorem dX12_leads_7 : decode cX12_leads 7 = .ok (.iconst 0, 1) := by decide +kernel
theorem dX12_leads_8 : decode cX12_leads 8 = .ok (.iadd, 1) := by decide +kernel
theorem dX12_leads_9 : decode cX12_leads 9 = .ok (.iaload, 1) := by decide +kernel
theorem dX12_leads_10 : decode cX12_leads 10 = .ok (.iconst 1, 1) := by decide +kernel
theorem dX12_leads_11 : decode cX12_leads 11 = .ok (.isub, 1) := by decide +kernel
theorem dX12_leads_12 : decode cX12_leads 12 = .ok (.istore 4, 2) := by decide +kernel
theorem dX12_leads_14 : decode cX12_leads 14 = .ok (.iload 4, 2) := by decide +kernel
theorem dX12_leads_16 : decode cX12_leads 16 = .ok (.ifCond .lt 92, 3) := by decide +kernel
theorem dX12_leads_19 : decode cX12_leads 19 = .ok (.aload_n 0, 1) := by decide +kernel
theorem dX12_leads_20 : decode cX12_leads 20 = .ok (.getfield 7, 3) := by decide +kernel
theorem dX12_leads_23 : decode cX12_leads 23 = .ok (.iload_n 1, 1) := by decide +kernel
theorem dX12_leads_24 : decode cX12_leads 24 = .ok (.bipush 19, 2) := by decide +kernel
theorem dX12_leads_26 : decode cX12_leads 26 = .ok (.iadd, 1) := by decide +kernel
theorem dX12_leads_27 : decode cX12_leads 27 = .ok (.iload 4, 2) := by decide +kernel
theorem dX12_leads_29 : decode cX12_leads 29 = .ok (.iadd, 1) := by decide +kernel
theorem dX12_leads_30 : decode cX12_leads 30 = .ok (.iaload, 1) := by decide +kernel
theorem dX12_leads_31 : decode cX12_leads 31 = .ok (.iload_n 2, 1) := by decide +kernel
theorem dX12_leads_32 : decode cX12_leads 32 = .ok (.if_icmp .ne 55, 3) := by decide +kernel
theorem dX12_leads_35 : decode cX12_leads 35 = .ok (.aload_n 0, 1) := by decide +kernel
theorem dX12_leads_36 : decode cX12_leads 36 = .ok (.getfield 7, 3) := by decide +kernel
theorem dX12_leads_39 : decode cX12_leads 39 = .ok (.iload_n 1, 1) := by decide +kernel
theorem dX12_leads_40 : decode cX12_leads 40 = .ok (.bipush 11, 2) := by decide +kernel
theorem dX12_leads_42 : decode cX12_leads 42 = .ok (.iadd, 1) := by decide +kernel
theorem dX12_leads_43 : decode cX12_leads 43 = .ok (.iload 4, 2) := by decide +kernel
theorem dX12_leads_45 : decode cX12_leads 45 = .ok (.iadd, 1) := by decide +kernel
theorem dX12_leads_46 : decode cX12_leads 46 = .ok (.iaload, 1) := by decide +kernel
theorem dX12_leads_47 : decode cX12_leads 47 = .ok (.iload_n 2, 1) := by decide +kernel
theorem dX12_leads_48 : decode cX12_leads 48 = .ok (.if_icmp .eq 39, 3) := by decide +kernel
theorem dX12_leads_51 : decode cX12_leads 51 = .ok (.aload_n 0, 1) := by decide +kernel
theorem dX12_leads_52 : decode cX12_leads 52 = .ok (.getfield 7, 3) := by decide +kernel
theorem dX12_leads_55 : decode cX12_leads 55 = .ok (.iload_n 1, 1) := by decide +kernel
theorem dX12_leads_56 : decode cX12_leads 56 = .ok (.bipush 35, 2) := by decide +kernel
theorem dX12_leads_58 : decode cX12_leads 58 = .ok (.iadd, 1) := by decide +kernel
theorem dX12_leads_59 : decode cX12_leads 59 = .ok (.iload 4, 2) := by decide +kernel
theorem dX12_leads_61 : decode cX12_leads 61 = .ok (.iadd, 1) := by decide +kernel
theorem dX12_leads_62 : decode cX12_leads 62 = .ok (.iaload, 1) := by decide +kernel
theorem dX12_leads_63 : decode cX12_leads 63 = .ok (.ifCond .ne 24, 3) := by decide +kernel
theorem dX12_leads_66 : decode cX12_leads 66 = .ok (.aload_n 0, 1) := by decide +kernel
theorem dX12_leads_67 : decode cX12_leads 67 = .ok (.getfield 185, 3) := by decide +kernel
theorem dX12_leads_70 : decode cX12_leads 70 = .ok (.aload_n 0, 1) := by decide +kernel
theorem dX12_leads_71 : decode cX12_leads 71 = .ok (.getfield 209, 3) := by decide +kernel
theorem dX12_leads_74 : decode cX12_leads 74 = .ok (.ior, 1) := by decide +kernel
theorem dX12_leads_75 : decode cX12_leads 75 = .ok (.iload 4, 2) := by decide +kernel
theorem dX12_leads_77 : decode cX12_leads 77 = .ok (.invokestatic 188, 3) := by decide +kernel
theorem dX12_leads_80 : decode cX12_leads 80 = .ok (.ifCond .ne 7, 3) := by decide +kernel
theorem dX12_leads_83 : decode cX12_leads 83 = .ok (.iconst 1, 1) := by decide +kernel
theorem dX12_leads_84 : decode cX12_leads 84 = .ok (.goto 4, 3) := by decide +kernel
theorem dX12_leads_87 : decode cX12_leads 87 = .ok (.iconst 0, 1) := by decide +kernel
theorem dX12_leads_88 : decode cX12_leads 88 = .ok (.istore 5, 2) := by decide +kernel
theorem dX12_leads_90 : decode cX12_leads 90 = .ok (.iload 5, 2) := by decide +kernel
theorem dX12_leads_92 : decode cX12_leads 92 = .ok (.ifCond .eq 8, 3) := by decide +kernel
theorem dX12_leads_95 : decode cX12_leads 95 = .ok (.iload 4, 2) := by decide +kernel
theorem dX12_leads_97 : decode cX12_leads 97 = .ok (.goto 4, 3) := by decide +kernel
theorem dX12_leads_100 : decode cX12_leads 100 = .ok (.iload_n 3, 1) := by decide +kernel
theorem dX12_leads_101 : decode cX12_leads 101 = .ok (.istore_n 3, 1) := by decide +kernel
theorem dX12_leads_102 : decode cX12_leads 102 = .ok (.iinc 4 (-1), 3) := by decide +kernel
theorem dX12_leads_105 : decode cX12_leads 105 = .ok (.goto (-91), 3) := by decide +kernel
theorem dX12_leads_108 : decode cX12_leads 108 = .ok (.iload_n 3, 1) := by decide +kernel
theorem dX12_leads_109 : decode cX12_leads 109 = .ok (.iconst (-1), 1) := by decide +kernel
theorem dX12_leads_110 : decode cX12_leads 110 = .ok (.if_icmp .eq 41, 3) := by decide +kernel
theorem dX12_leads_113 : decode cX12_leads 113 = .ok (.aload_n 0, 1) := by decide +kernel
theorem dX12_leads_114 : decode cX12_leads 114 = .ok (.dup, 1) := by decide +kernel
theorem dX12_leads_115 : decode cX12_leads 115 = .ok (.getfield 209, 3) := by decide +kernel
theorem dX12_leads_118 : decode cX12_leads 118 = .ok (.iconst 1, 1) := by decide +kernel
theorem dX12_leads_119 : decode cX12_leads 119 = .ok (.iload_n 3, 1) := by decide +kernel
theorem dX12_leads_120 : decode cX12_leads 120 = .ok (.ishl, 1) := by decide +kernel
theorem dX12_leads_121 : decode cX12_leads 121 = .ok (.ior, 1) := by decide +kernel
theorem dX12_leads_122 : decode cX12_leads 122 = .ok (.putfield 209, 3) := by decide +kernel
theorem dX12_leads_125 : decode cX12_leads 125 = .ok (.aload_n 0, 1) := by decide +kernel
theorem dX12_leads_126 : decode cX12_leads 126 = .ok (.getfield 7, 3) := by decide +kernel
theorem dX12_leads_129 : decode cX12_leads 129 = .ok (.iload_n 1, 1) := by decide +kernel
theorem dX12_leads_130 : decode cX12_leads 130 = .ok (.bipush 19, 2) := by decide +kernel
theorem dX12_leads_132 : decode cX12_leads 132 = .ok (.iadd, 1) := by decide +kernel
theorem dX12_leads_133 : decode cX12_leads 133 = .ok (.iload_n 3, 1) := by decide +kernel
theorem dX12_leads_134 : decode cX12_leads 134 = .ok (.iadd, 1) := by decide +kernel
theorem dX12_leads_135 : decode cX12_leads 135 = .ok (.iload_n 2, 1) := by decide +kernel
theorem dX12_leads_136 : decode cX12_leads 136 = .ok (.aload_n 0, 1) := by decide +kernel
theorem dX12_leads_137 : decode cX12_leads 137 = .ok (.getfield 7, 3) := by decide +kernel
theorem dX12_leads_140 : decode cX12_leads 140 = .ok (.iload_n 1, 1) := by decide +kernel
theorem dX12_leads_141 : decode cX12_leads 141 = .ok (.bipush 11, 2) := by decide +kernel
theorem dX12_leads_143 : decode cX12_leads 143 = .ok (.iadd, 1) := by decide +kernel
theorem dX12_leads_144 : decode cX12_leads 144 = .ok (.iload_n 3, 1) := by decide +kernel
theorem dX12_leads_145 : decode cX12_leads 145 = .ok (.iadd, 1) := by decide +kernel
theorem dX12_leads_146 : decode cX12_leads 146 = .ok (.iaload, 1) := by decide +kernel
theorem dX12_leads_147 : decode cX12_leads 147 = .ok (.invokestatic 203, 3) := by decide +kernel
theorem dX12_leads_150 : decode cX12_leads 150 = .ok (.iastore, 1) := by decide +kernel
theorem dX12_leads_151 : decode cX12_leads 151 = .ok (.return_, 1) := by decide +kernel
theorem dX12_restAll_0 : decode cX12_restAll 0 = .ok (.iconst 0, 1) := by decide +kernel
theorem dX12_restAll_1 : decode cX12_restAll 1 = .ok (.istore_n 2, 1) := by decide +kernel
theorem dX12_restAll_2 : decode cX12_restAll 2 = .ok (.iload_n 2, 1) := by decide +kernel
theorem dX12_restAll_3 : decode cX12_restAll 3 = .ok (.aload_n 0, 1) := by decide +kernel
theorem dX12_restAll_4 : decode cX12_restAll 4 = .ok (.getfield 7, 3) := by decide +kernel
theorem dX12_restAll_7 : decode cX12_restAll 7 = .ok (.iload_n 1, 1) := by decide +kernel
theorem dX12_restAll_8 : decode cX12_restAll 8 = .ok (.iconst 0, 1) := by decide +kernel
theorem dX12_restAll_9 : decode cX12_restAll 9 = .ok (.iadd, 1) := by decide +kernel
theorem dX12_restAll_10 : decode cX12_restAll 10 = .ok (.iaload, 1) := by decide +kernel
theorem dX12_restAll_11 : decode cX12_restAll 11 = .ok (.if_icmp .ge 115, 3) := by decide +kernel
theorem dX12_restAll_14 : decode cX12_restAll 14 = .ok (.aload_n 0, 1) := by decide +kernel
theorem dX12_restAll_15 : decode cX12_restAll 15 = .ok (.getfield 185, 3) := by decide +kernel
theorem dX12_restAll_18 : decode cX12_restAll 18 = .ok (.iload_n 2, 1) := by decide +kernel
theorem dX12_restAll_19 : decode cX12_restAll 19 = .ok (.invokestatic 188, 3) := by decide +kernel
theorem dX12_restAll_22 : decode cX12_restAll 22 = .ok (.ifCond .ne 98, 3) := by decide +kernel
theorem dX12_restAll_25 : decode cX12_restAll 25 = .ok (.aload_n 0, 1) := by decide +kernel
theorem dX12_restAll_26 : decode cX12_restAll 26 = .ok (.getfield 7, 3) := by decide +kernel
theorem dX12_restAll_29 : decode cX12_restAll 29 = .ok (.iload_n 1, 1) := by decide +kernel
theorem dX12_restAll_30 : decode cX12_restAll 30 = .ok (.bipush 27, 2) := by decide +kernel
theorem dX12_restAll_32 : decode cX12_restAll 32 = .ok (.iadd, 1) := by decide +kernel
theorem dX12_restAll_33 : decode cX12_restAll 33 = .ok (.iload_n 2, 1) := by decide +kernel
theorem dX12_restAll_34 : decode cX12_restAll 34 = .ok (.iadd, 1) := by decide +kernel
theorem dX12_restAll_35 : decode cX12_restAll 35 = .ok (.iaload, 1) := by decide +kernel
theorem dX12_restAll_36 : decode cX12_restAll 36 = .ok (.aload_n 0, 1) := by decide +kernel
theorem dX12_restAll_37 : decode cX12_restAll 37 = .ok (.getfield 7, 3) := by decide +kernel
theorem dX12_restAll_40 : decode cX12_restAll 40 = .ok (.iload_n 1, 1) := by decide +kernel
theorem dX12_restAll_41 : decode cX12_restAll 41 = .ok (.bipush 35, 2) := by decide +kernel
theorem dX12_restAll_43 : decode cX12_restAll 43 = .ok (.iadd, 1) := by decide +kernel
theorem dX12_restAll_44 : decode cX12_restAll 44 = .ok (.iload_n 2, 1) := by decide +kernel
theorem dX12_restAll_45 : decode cX12_restAll 45 = .ok (.iadd, 1) := by decide +kernel
theorem dX12_restAll_46 : decode cX12_restAll 46 = .ok (.iaload, 1) := by decide +kernel
theorem dX12_restAll_47 : decode cX12_restAll 47 = .ok (.iconst 1, 1) := by decide +kernel
theorem dX12_restAll_48 : decode cX12_restAll 48 = .ok (.if_icmp .ne 7, 3) := by decide +kernel
theorem dX12_restAll_51 : decode cX12_restAll 51 = .ok (.iconst 1, 1) := by decide +kernel
theorem dX12_restAll_52 : decode cX12_restAll 52 = .ok (.goto 16, 3) := by decide +kernel
theorem dX12_restAll_55 : decode cX12_restAll 55 = .ok (.aload_n 0, 1) := by decide +kernel
theorem dX12_restAll_56 : decode cX12_restAll 56 = .ok (.getfield 7, 3) := by decide +kernel
theorem dX12_restAll_59 : decode cX12_restAll 59 = .ok (.iload_n 1, 1) := by decide +kernel
theorem dX12_restAll_60 : decode cX12_restAll 60 = .ok (.iconst 3, 1) := by decide +kernel
theorem dX12_restAll_61 : decode cX12_restAll 61 = .ok (.iadd, 1) := by decide +kernel
theorem dX12_restAll_62 : decode cX12_restAll 62 = .ok (.iload_n 2, 1) := by decide +kernel
theorem dX12_restAll_63 : decode cX12_restAll 63 = .ok (.iadd, 1) := by decide +kernel
theorem dX12_restAll_64 : decode cX12_restAll 64 = .ok (.iaload, 1) := by decide +kernel
theorem dX12_restAll_65 : decode cX12_restAll 65 = .ok (.invokestatic 212, 3) := by decide +kernel
theorem dX12_restAll_68 : decode cX12_restAll 68 = .ok (.isub, 1) := by decide +kernel
theorem dX12_restAll_69 : decode cX12_restAll 69 = .ok (.istore_n 3, 1) := by decide +kernel
theorem dX12_restAll_70 : decode cX12_restAll 70 = .ok (.aload_n 0, 1) := by decide +kernel
theorem dX12_restAll_71 : decode cX12_restAll 71 = .ok (.getfield 7, 3) := by decide +kernel
theorem dX12_restAll_74 : decode cX12_restAll 74 = .ok (.iload_n 1, 1) := by decide +kernel
theorem dX12_restAll_75 : decode cX12_restAll 75 = .ok (.bipush 27, 2) := by decide +kernel
theorem dX12_restAll_77 : decode cX12_restAll 77 = .ok (.iadd, 1) := by decide +kernel
theorem dX12_restAll_78 : decode cX12_restAll 78 = .ok (.iload_n 2, 1) := by decide +kernel
theorem dX12_restAll_79 : decode cX12_restAll 79 = .ok (.iadd, 1) := by decide +kernel
theorem dX12_restAll_80 : decode cX12_restAll 80 = .ok (.iload_n 3, 1) := by decide +kernel
theorem dX12_restAll_81 : decode cX12_restAll 81 = .ok (.ifCond .ge 7, 3) := by decide +kernel
theorem dX12_restAll_84 : decode cX12_restAll 84 = .ok (.iconst 0, 1) := by decide +kernel
theorem dX12_restAll_85 : decode cX12_restAll 85 = .ok (.goto 4, 3) := by decide +kernel
theorem dX12_restAll_88 : decode cX12_restAll 88 = .ok (.iload_n 3, 1) := by decide +kernel
theorem dX12_restAll_89 : decode cX12_restAll 89 = .ok (.iastore, 1) := by decide +kernel
theorem dX12_restAll_90 : decode cX12_restAll 90 = .ok (.aload_n 0, 1) := by decide +kernel
theorem dX12_restAll_91 : decode cX12_restAll 91 = .ok (.getfield 7, 3) := by decide +kernel
theorem dX12_restAll_94 : decode cX12_restAll 94 = .ok (.iload_n 1, 1) := by decide +kernel
theorem dX12_restAll_95 : decode cX12_restAll 95 = .ok (.bipush 35, 2) := by decide +kernel
theorem dX12_restAll_97 : decode cX12_restAll 97 = .ok (.iadd, 1) := by decide +kernel
theorem dX12_restAll_98 : decode cX12_restAll 98 = .ok (.iload_n 2, 1) := by decide +kernel
theorem dX12_restAll_99 : decode cX12_restAll 99 = .ok (.iadd, 1) := by decide +kernel
theorem dX12_restAll_100 : decode cX12_restAll 100 = .ok (.iload_n 3, 1) := by decide +kernel
theorem dX12_restAll_101 : decode cX12_restAll 101 = .ok (.ifCond .le 17, 3) := by decide +kernel
theorem dX12_restAll_104 : decode cX12_restAll 104 = .ok (.aload_n 0, 1) := by decide +kernel
theorem dX12_restAll_105 : decode cX12_restAll 105 = .ok (.getfield 7, 3) := by decide +kernel
theorem dX12_restAll_108 : decode cX12_restAll 108 = .ok (.iload_n 1, 1) := by decide +kernel
theorem dX12_restAll_109 : decode cX12_restAll 109 = .ok (.bipush 35, 2) := by decide +kernel
theorem dX12_restAll_111 : decode cX12_restAll 111 = .ok (.iadd, 1) := by decide +kernel
theorem dX12_restAll_112 : decode cX12_restAll 112 = .ok (.iload_n 2, 1) := by decide +kernel
theorem dX12_restAll_113 : decode cX12_restAll 113 = .ok (.iadd, 1) := by decide +kernel
theorem dX12_restAll_114 : decode cX12_restAll 114 = .ok (.iaload, 1) := by decide +kernel
theorem dX12_restAll_115 : decode cX12_restAll 115 = .ok (.goto 4, 3) := by decide +kernel
theorem dX12_restAll_118 : decode cX12_restAll 118 = .ok (.iconst 0, 1) := by decide +kernel
theorem dX12_restAll_119 : decode cX12_restAll 119 = .ok (.iastore, 1) := by decide +kernel
theorem dX12_restAll_120 : decode cX12_restAll 120 = .ok (.iinc 2 1, 3) := by decide +kernel
theorem dX12_restAll_123 : decode cX12_restAll 123 = .ok (.goto (-121), 3) := by decide +kernel
theorem dX12_restAll_126 : decode cX12_restAll 126 = .ok (.return_, 1) := by decide +kernel
theorem dX12_passes_0 : decode cX12_passes 0 = .ok (.aload_n 0, 1) := by decide +kernel
theorem dX12_passes_1 : decode cX12_passes 1 = .ok (.iconst 0, 1) := by decide +kernel
theorem dX12_passes_2 : decode cX12_passes 2 = .ok (.putfield 185, 3) := by decide +kernel
theorem dX12_passes_5 : decode cX12_passes 5 = .ok (.aload_n 0, 1) := by decide +kernel
theorem dX12_passes_6 : decode cX12_passes 6 = .ok (.iconst 0, 1) := by decide +kernel
theorem dX12_passes_7 : decode cX12_passes 7 = .ok (.putfield 209, 3) := by decide +kernel
theorem dX12_passes_10 : decode cX12_passes 10 = .ok (.iconst 0, 1) := by decide +kernel
theorem dX12_passes_11 : decode cX12_passes 11 = .ok (.istore_n 2, 1) := by decide +kernel
theorem dX12_passes_12 : decode cX12_passes 12 = .ok (.iload_n 2, 1) := by decide +kernel
theorem dX12_passes_13 : decode cX12_passes 13 = .ok (.aload_n 0, 1) := by decide +kernel
theorem dX12_passes_14 : decode cX12_passes 14 = .ok (.getfield 7, 3) := by decide +kernel
theorem dX12_passes_17 : decode cX12_passes 17 = .ok (.iload_n 1, 1) := by decide +kernel
theorem dX12_passes_18 : decode cX12_passes 18 = .ok (.iconst 1, 1) := by decide +kernel
theorem dX12_passes_19 : decode cX12_passes 19 = .ok (.iadd, 1) := by decide +kernel
theorem dX12_passes_20 : decode cX12_passes 20 = .ok (.iaload, 1) := by decide +kernel
theorem dX12_passes_21 : decode cX12_passes 21 = .ok (.if_icmp .ge 40, 3) := by decide +kernel
theorem dX12_passes_24 : decode cX12_passes 24 = .ok (.aload_n 0, 1) := by decide +kernel
theorem dX12_passes_25 : decode cX12_passes 25 = .ok (.getfield 7, 3) := by decide +kernel
theorem dX12_passes_28 : decode cX12_passes 28 = .ok (.iload_n 1, 1) := by decide +kernel
theorem dX12_passes_29 : decode cX12_passes 29 = .ok (.bipush 51, 2) := by decide +kernel
theorem dX12_passes_31 : decode cX12_passes 31 = .ok (.iadd, 1) := by decide +kernel
theorem dX12_passes_32 : decode cX12_passes 32 = .ok (.iload_n 2, 1) := by decide +kernel
theorem dX12_passes_33 : decode cX12_passes 33 = .ok (.iadd, 1) := by decide +kernel
theorem dX12_passes_34 : decode cX12_passes 34 = .ok (.iaload, 1) := by decide +kernel
theorem dX12_passes_35 : decode cX12_passes 35 = .ok (.aload_n 0, 1) := by decide +kernel
theorem dX12_passes_36 : decode cX12_passes 36 = .ok (.getfield 7, 3) := by decide +kernel
theorem dX12_passes_39 : decode cX12_passes 39 = .ok (.iload_n 1, 1) := by decide +kernel
theorem dX12_passes_40 : decode cX12_passes 40 = .ok (.bipush 55, 2) := by decide +kernel
theorem dX12_passes_42 : decode cX12_passes 42 = .ok (.iadd, 1) := by decide +kernel
theorem dX12_passes_43 : decode cX12_passes 43 = .ok (.iload_n 2, 1) := by decide +kernel
theorem dX12_passes_44 : decode cX12_passes 44 = .ok (.iadd, 1) := by decide +kernel
theorem dX12_passes_45 : decode cX12_passes 45 = .ok (.iaload, 1) := by decide +kernel
theorem dX12_passes_46 : decode cX12_passes 46 = .ok (.if_icmp .eq 9, 3) := by decide +kernel
theorem dX12_passes_49 : decode cX12_passes 49 = .ok (.aload_n 0, 1) := by decide +kernel
theorem dX12_passes_50 : decode cX12_passes 50 = .ok (.iload_n 1, 1) := by decide +kernel
theorem dX12_passes_51 : decode cX12_passes 51 = .ok (.iload_n 2, 1) := by decide +kernel
theorem dX12_passes_52 : decode cX12_passes 52 = .ok (.invokevirtual 216, 3) := by decide +kernel
theorem dX12_passes_55 : decode cX12_passes 55 = .ok (.iinc 2 1, 3) := by decide +kernel
theorem dX12_passes_58 : decode cX12_passes 58 = .ok (.goto (-46), 3) := by decide +kernel
theorem dX12_passes_61 : decode cX12_passes 61 = .ok (.iconst 0, 1) := by decide +kernel
theorem dX12_passes_62 : decode cX12_passes 62 = .ok (.istore_n 2, 1) := by decide +kernel
theorem dX12_passes_63 : decode cX12_passes 63 = .ok (.iload_n 2, 1) := by decide +kernel
theorem dX12_passes_64 : decode cX12_passes 64 = .ok (.aload_n 0, 1) := by decide +kernel
theorem dX12_passes_65 : decode cX12_passes 65 = .ok (.getfield 7, 3) := by decide +kernel
theorem dX12_passes_68 : decode cX12_passes 68 = .ok (.iload_n 1, 1) := by decide +kernel
theorem dX12_passes_69 : decode cX12_passes 69 = .ok (.bipush 63, 2) := by decide +kernel
theorem dX12_passes_71 : decode cX12_passes 71 = .ok (.iadd, 1) := by decide +kernel
theorem dX12_passes_72 : decode cX12_passes 72 = .ok (.iaload, 1) := by decide +kernel
theorem dX12_passes_73 : decode cX12_passes 73 = .ok (.if_icmp .ge 15, 3) := by decide +kernel
theorem dX12_passes_76 : decode cX12_passes 76 = .ok (.aload_n 0, 1) := by decide +kernel
theorem dX12_passes_77 : decode cX12_passes 77 = .ok (.iload_n 1, 1) := by decide +kernel
theorem dX12_passes_78 : decode cX12_passes 78 = .ok (.iload_n 2, 1) := by decide +kernel
theorem dX12_passes_79 : decode cX12_passes 79 = .ok (.invokevirtual 219, 3) := by decide +kernel
theorem dX12_passes_82 : decode cX12_passes 82 = .ok (.iinc 2 1, 3) := by decide +kernel
theorem dX12_passes_85 : decode cX12_passes 85 = .ok (.goto (-22), 3) := by decide +kernel
theorem dX12_passes_88 : decode cX12_passes 88 = .ok (.aload_n 0, 1) := by decide +kernel
theorem dX12_passes_89 : decode cX12_passes 89 = .ok (.iload_n 1, 1) := by decide +kernel
theorem dX12_passes_90 : decode cX12_passes 90 = .ok (.invokevirtual 222, 3) := by decide +kernel
theorem dX12_passes_93 : decode cX12_passes 93 = .ok (.aload_n 0, 1) := by decide +kernel
theorem dX12_passes_94 : decode cX12_passes 94 = .ok (.getfield 7, 3) := by decide +kernel
theorem dX12_passes_97 : decode cX12_passes 97 = .ok (.iload_n 1, 1) := by decide +kernel
theorem dX12_passes_98 : decode cX12_passes 98 = .ok (.iconst 2, 1) := by decide +kernel
theorem dX12_passes_99 : decode cX12_passes 99 = .ok (.iadd, 1) := by decide +kernel
theorem dX12_passes_100 : decode cX12_passes 100 = .ok (.dup2, 1) := by decide +kernel
theorem dX12_passes_101 : decode cX12_passes 101 = .ok (.iaload, 1) := by decide +kernel
theorem dX12_passes_102 : decode cX12_passes 102 = .ok (.iconst 1, 1) := by decide +kernel
theorem dX12_passes_103 : decode cX12_passes 103 = .ok (.iadd, 1) := by decide +kernel
theorem dX12_passes_104 : decode cX12_passes 104 = .ok (.iastore, 1) := by decide +kernel
theorem dX12_passes_105 : decode cX12_passes 105 = .ok (.return_, 1) := by decide +kernel
theorem dX12_keepPast_0 : decode cX12_keepPast 0 = .ok (.aload_n 0, 1) := by decide +kernel
theorem dX12_keepPast_1 : decode cX12_keepPast 1 = .ok (.getfield 163, 3) := by decide +kernel
theorem dX12_keepPast_4 : decode cX12_keepPast 4 = .ok (.bipush 8, 2) := by decide +kernel
theorem dX12_keepPast_6 : decode cX12_keepPast 6 = .ok (.if_icmp .ne 48, 3) := by decide +kernel
theorem dX12_keepPast_9 : decode cX12_keepPast 9 = .ok (.iconst 0, 1) := by decide +kernel
theorem dX12_keepPast_10 : decode cX12_keepPast 10 = .ok (.istore_n 1, 1) := by decide +kernel
theorem dX12_keepPast_11 : decode cX12_keepPast 11 = .ok (.iload_n 1, 1) := by decide +kernel
theorem dX12_keepPast_12 : decode cX12_keepPast 12 = .ok (.sipush 490, 3) := by decide +kernel
theorem dX12_keepPast_15 : decode cX12_keepPast 15 = .ok (.if_icmp .ge 29, 3) := by decide +kernel
theorem dX12_keepPast_18 : decode cX12_keepPast 18 = .ok (.aload_n 0, 1) := by decide +kernel
theorem dX12_keepPast_19 : decode cX12_keepPast 19 = .ok (.getfield 7, 3) := by decide +kernel
theorem dX12_keepPast_22 : decode cX12_keepPast 22 = .ok (.sipush 140, 3) := by decide +kernel
theorem dX12_keepPast_25 : decode cX12_keepPast 25 = .ok (.iload_n 1, 1) := by decide +kernel
theorem dX12_keepPast_26 : decode cX12_keepPast 26 = .ok (.iadd, 1) := by decide +kernel
theorem dX12_keepPast_27 : decode cX12_keepPast 27 = .ok (.aload_n 0, 1) := by decide +kernel
theorem dX12_keepPast_28 : decode cX12_keepPast 28 = .ok (.getfield 7, 3) := by decide +kernel
theorem dX12_keepPast_31 : decode cX12_keepPast 31 = .ok (.sipush 210, 3) := by decide +kernel
theorem dX12_keepPast_34 : decode cX12_keepPast 34 = .ok (.iload_n 1, 1) := by decide +kernel
theorem dX12_keepPast_35 : decode cX12_keepPast 35 = .ok (.iadd, 1) := by decide +kernel
theorem dX12_keepPast_36 : decode cX12_keepPast 36 = .ok (.iaload, 1) := by decide +kernel
theorem dX12_keepPast_37 : decode cX12_keepPast 37 = .ok (.iastore, 1) := by decide +kernel
theorem dX12_keepPast_38 : decode cX12_keepPast 38 = .ok (.iinc 1 1, 3) := by decide +kernel
theorem dX12_keepPast_41 : decode cX12_keepPast 41 = .ok (.goto (-30), 3) := by decide +kernel
theorem dX12_keepPast_44 : decode cX12_keepPast 44 = .ok (.aload_n 0, 1) := by decide +kernel
theorem dX12_keepPast_45 : decode cX12_keepPast 45 = .ok (.dup, 1) := by decide +kernel
theorem dX12_keepPast_46 : decode cX12_keepPast 46 = .ok (.getfield 163, 3) := by decide +kernel
theorem dX12_keepPast_49 : decode cX12_keepPast 49 = .ok (.iconst 1, 1) := by decide +kernel
theorem dX12_keepPast_50 : decode cX12_keepPast 50 = .ok (.isub, 1) := by decide +kernel
theorem dX12_keepPast_51 : decode cX12_keepPast 51 = .ok (.putfield 163, 3) := by decide +kernel
theorem dX12_keepPast_54 : decode cX12_keepPast 54 = .ok (.aload_n 0, 1) := by decide +kernel
theorem dX12_keepPast_55 : decode cX12_keepPast 55 = .ok (.iconst 0, 1) := by decide +kernel
theorem dX12_keepPast_56 : decode cX12_keepPast 56 = .ok (.sipush 140, 3) := by decide +kernel
theorem dX12_keepPast_59 : decode cX12_keepPast 59 = .ok (.bipush 70, 2) := by decide +kernel
theorem dX12_keepPast_61 : decode cX12_keepPast 61 = .ok (.aload_n 0, 1) := by decide +kernel
theorem dX12_keepPast_62 : decode cX12_keepPast 62 = .ok (.getfield 163, 3) := by decide +kernel
theorem dX12_keepPast_65 : decode cX12_keepPast 65 = .ok (.imul, 1) := by decide +kernel
theorem dX12_keepPast_66 : decode cX12_keepPast 66 = .ok (.iadd, 1) := by decide +kernel
theorem dX12_keepPast_67 : decode cX12_keepPast 67 = .ok (.invokevirtual 159, 3) := by decide +kernel
theorem dX12_keepPast_70 : decode cX12_keepPast 70 = .ok (.aload_n 0, 1) := by decide +kernel
theorem dX12_keepPast_71 : decode cX12_keepPast 71 = .ok (.dup, 1) := by decide +kernel
theorem dX12_keepPast_72 : decode cX12_keepPast 72 = .ok (.getfield 163, 3) := by decide +kernel
theorem dX12_keepPast_75 : decode cX12_keepPast 75 = .ok (.iconst 1, 1) := by decide +kernel
theorem dX12_keepPast_76 : decode cX12_keepPast 76 = .ok (.iadd, 1) := by decide +kernel
theorem dX12_keepPast_77 : decode cX12_keepPast 77 = .ok (.putfield 163, 3) := by decide +kernel
theorem dX12_keepPast_80 : decode cX12_keepPast 80 = .ok (.return_, 1) := by decide +kernel
theorem dX12_stage_0 : decode cX12_stage 0 = .ok (.iload_n 1, 1) := by decide +kernel
theorem dX12_stage_1 : decode cX12_stage 1 = .ok (.i2l, 1) := by decide +kernel
theorem dX12_stage_2 : decode cX12_stage 2 = .ok (.lconst 1, 1) := by decide +kernel
theorem dX12_stage_3 : decode cX12_stage 3 = .ok (.ldc2_w 226, 3) := by decide +kernel
theorem dX12_stage_6 : decode cX12_stage 6 = .ok (.invokestatic 79, 3) := by decide +kernel
theorem dX12_stage_9 : decode cX12_stage 9 = .ok (.ifCond .ne 6, 3) := by decide +kernel
theorem dX12_stage_12 : decode cX12_stage 12 = .ok (.bipush (-3), 2) := by decide +kernel
theorem dX12_stage_14 : decode cX12_stage 14 = .ok (.ireturn, 1) := by decide +kernel
theorem dX12_stage_15 : decode cX12_stage 15 = .ok (.aload_n 0, 1) := by decide +kernel
theorem dX12_stage_16 : decode cX12_stage 16 = .ok (.getfield 7, 3) := by decide +kernel
theorem dX12_stage_19 : decode cX12_stage 19 = .ok (.iconst 2, 1) := by decide +kernel
theorem dX12_stage_20 : decode cX12_stage 20 = .ok (.iaload, 1) := by decide +kernel
theorem dX12_stage_21 : decode cX12_stage 21 = .ok (.iload_n 1, 1) := by decide +kernel
theorem dX12_stage_22 : decode cX12_stage 22 = .ok (.iadd, 1) := by decide +kernel
theorem dX12_stage_23 : decode cX12_stage 23 = .ok (.sipush 999, 3) := by decide +kernel
theorem dX12_stage_26 : decode cX12_stage 26 = .ok (.if_icmp .le 6, 3) := by decide +kernel
theorem dX12_stage_29 : decode cX12_stage 29 = .ok (.bipush (-5), 2) := by decide +kernel
theorem dX12_stage_31 : decode cX12_stage 31 = .ok (.ireturn, 1) := by decide +kernel
theorem dX12_stage_32 : decode cX12_stage 32 = .ok (.aload_n 0, 1) := by decide +kernel
theorem dX12_stage_33 : decode cX12_stage 33 = .ok (.invokevirtual 228, 3) := by decide +kernel
theorem dX12_stage_36 : decode cX12_stage 36 = .ok (.iconst 0, 1) := by decide +kernel
theorem dX12_stage_37 : decode cX12_stage 37 = .ok (.istore_n 2, 1) := by decide +kernel
theorem dX12_stage_38 : decode cX12_stage 38 = .ok (.iload_n 2, 1) := by decide +kernel
theorem dX12_stage_39 : decode cX12_stage 39 = .ok (.iload_n 1, 1) := by decide +kernel
theorem dX12_stage_40 : decode cX12_stage 40 = .ok (.if_icmp .ge 14, 3) := by decide +kernel
theorem dX12_stage_43 : decode cX12_stage 43 = .ok (.aload_n 0, 1) := by decide +kernel
theorem dX12_stage_44 : decode cX12_stage 44 = .ok (.iconst 0, 1) := by decide +kernel
theorem dX12_stage_45 : decode cX12_stage 45 = .ok (.invokevirtual 231, 3) := by decide +kernel
theorem dX12_stage_48 : decode cX12_stage 48 = .ok (.iinc 2 1, 3) := by decide +kernel
theorem dX12_stage_51 : decode cX12_stage 51 = .ok (.goto (-13), 3) := by decide +kernel
theorem dX12_stage_54 : decode cX12_stage 54 = .ok (.aload_n 0, 1) := by decide +kernel
theorem dX12_stage_55 : decode cX12_stage 55 = .ok (.getfield 7, 3) := by decide +kernel
theorem dX12_stage_58 : decode cX12_stage 58 = .ok (.iconst 2, 1) := by decide +kernel
theorem dX12_stage_59 : decode cX12_stage 59 = .ok (.iaload, 1) := by decide +kernel
theorem dX12_stage_60 : decode cX12_stage 60 = .ok (.ireturn, 1) := by decide +kernel
theorem dX12_oat_0 : decode cX12_oat 0 = .ok (.aload_n 0, 1) := by decide +kernel
theorem dX12_oat_1 : decode cX12_oat 1 = .ok (.getfield 7, 3) := by decide +kernel
theorem dX12_oat_4 : decode cX12_oat 4 = .ok (.iload_n 1, 1) := by decide +kernel
theorem dX12_oat_5 : decode cX12_oat 5 = .ok (.bipush 27, 2) := by decide +kernel
theorem dX12_oat_7 : decode cX12_oat 7 = .ok (.iadd, 1) := by decide +kernel
theorem dX12_oat_8 : decode cX12_oat 8 = .ok (.iload_n 2, 1) := by decide +kernel
theorem dX12_oat_9 : decode cX12_oat 9 = .ok (.iadd, 1) := by decide +kernel
theorem dX12_oat_10 : decode cX12_oat 10 = .ok (.iaload, 1) := by decide +kernel
theorem dX12_oat_11 : decode cX12_oat 11 = .ok (.iconst 3, 1) := by decide +kernel
theorem dX12_oat_12 : decode cX12_oat 12 = .ok (.isub, 1) := by decide +kernel
theorem dX12_oat_13 : decode cX12_oat 13 = .ok (.istore_n 3, 1) := by decide +kernel
theorem dX12_oat_14 : decode cX12_oat 14 = .ok (.aload_n 0, 1) := by decide +kernel
theorem dX12_oat_15 : decode cX12_oat 15 = .ok (.getfield 7, 3) := by decide +kernel
theorem dX12_oat_18 : decode cX12_oat 18 = .ok (.iload_n 1, 1) := by decide +kernel
theorem dX12_oat_19 : decode cX12_oat 19 = .ok (.bipush 27, 2) := by decide +kernel
theorem dX12_oat_21 : decode cX12_oat 21 = .ok (.iadd, 1) := by decide +kernel
theorem dX12_oat_22 : decode cX12_oat 22 = .ok (.iload_n 2, 1) := by decide +kernel
theorem dX12_oat_23 : decode cX12_oat 23 = .ok (.iadd, 1) := by decide +kernel
theorem dX12_oat_24 : decode cX12_oat 24 = .ok (.iload_n 3, 1) := by decide +kernel
theorem dX12_oat_25 : decode cX12_oat 25 = .ok (.ifCond .ge 7, 3) := by decide +kernel
theorem dX12_oat_28 : decode cX12_oat 28 = .ok (.iconst 0, 1) := by decide +kernel
theorem dX12_oat_29 : decode cX12_oat 29 = .ok (.goto 4, 3) := by decide +kernel
theorem dX12_oat_32 : decode cX12_oat 32 = .ok (.iload_n 3, 1) := by decide +kernel
theorem dX12_oat_33 : decode cX12_oat 33 = .ok (.iastore, 1) := by decide +kernel
theorem dX12_oat_34 : decode cX12_oat 34 = .ok (.aload_n 0, 1) := by decide +kernel
theorem dX12_oat_35 : decode cX12_oat 35 = .ok (.getfield 7, 3) := by decide +kernel
theorem dX12_oat_38 : decode cX12_oat 38 = .ok (.iload_n 1, 1) := by decide +kernel
theorem dX12_oat_39 : decode cX12_oat 39 = .ok (.bipush 35, 2) := by decide +kernel
theorem dX12_oat_41 : decode cX12_oat 41 = .ok (.iadd, 1) := by decide +kernel
theorem dX12_oat_42 : decode cX12_oat 42 = .ok (.iload_n 2, 1) := by decide +kernel
theorem dX12_oat_43 : decode cX12_oat 43 = .ok (.iadd, 1) := by decide +kernel
theorem dX12_oat_44 : decode cX12_oat 44 = .ok (.iload_n 3, 1) := by decide +kernel
theorem dX12_oat_45 : decode cX12_oat 45 = .ok (.ifCond .le 17, 3) := by decide +kernel
theorem dX12_oat_48 : decode cX12_oat 48 = .ok (.aload_n 0, 1) := by decide +kernel
theorem dX12_oat_49 : decode cX12_oat 49 = .ok (.getfield 7, 3) := by decide +kernel
theorem dX12_oat_52 : decode cX12_oat 52 = .ok (.iload_n 1, 1) := by decide +kernel
theorem dX12_oat_53 : decode cX12_oat 53 = .ok (.bipush 35, 2) := by decide +kernel
theorem dX12_oat_55 : decode cX12_oat 55 = .ok (.iadd, 1) := by decide +kernel
theorem dX12_oat_56 : decode cX12_oat 56 = .ok (.iload_n 2, 1) := by decide +kernel
theorem dX12_oat_57 : decode cX12_oat 57 = .ok (.iadd, 1) := by decide +kernel
theorem dX12_oat_58 : decode cX12_oat 58 = .ok (.iaload, 1) := by decide +kernel
theorem dX12_oat_59 : decode cX12_oat 59 = .ok (.goto 4, 3) := by decide +kernel
theorem dX12_oat_62 : decode cX12_oat 62 = .ok (.iconst 0, 1) := by decide +kernel
theorem dX12_oat_63 : decode cX12_oat 63 = .ok (.iastore, 1) := by decide +kernel
theorem dX12_oat_64 : decode cX12_oat 64 = .ok (.return_, 1) := by decide +kernel
theorem dX12_oats_0 : decode cX12_oats 0 = .ok (.aload_n 0, 1) := by decide +kernel
theorem dX12_oats_1 : decode cX12_oats 1 = .ok (.iload_n 1, 1) := by decide +kernel
theorem dX12_oats_2 : decode cX12_oats 2 = .ok (.invokevirtual 169, 3) := by decide +kernel
theorem dX12_oats_5 : decode cX12_oats 5 = .ok (.ifCond .ne 6, 3) := by decide +kernel
theorem dX12_oats_8 : decode cX12_oats 8 = .ok (.bipush (-2), 2) := by decide +kernel
theorem dX12_oats_10 : decode cX12_oats 10 = .ok (.ireturn, 1) := by decide +kernel
theorem dX12_oats_11 : decode cX12_oats 11 = .ok (.aload_n 0, 1) := by decide +kernel
theorem dX12_oats_12 : decode cX12_oats 12 = .ok (.getfield 7, 3) := by decide +kernel
theorem dX12_oats_15 : decode cX12_oats 15 = .ok (.bipush 27, 2) := by decide +kernel
theorem dX12_oats_17 : decode cX12_oats 17 = .ok (.iload_n 1, 1) := by decide +kernel
theorem dX12_oats_18 : decode cX12_oats 18 = .ok (.iadd, 1) := by decide +kernel
theorem dX12_oats_19 : decode cX12_oats 19 = .ok (.iaload, 1) := by decide +kernel
theorem dX12_oats_20 : decode cX12_oats 20 = .ok (.ifCond .ne 6, 3) := by decide +kernel
theorem dX12_oats_23 : decode cX12_oats 23 = .ok (.bipush (-4), 2) := by decide +kernel
theorem dX12_oats_25 : decode cX12_oats 25 = .ok (.ireturn, 1) := by decide +kernel
theorem dX12_oats_26 : decode cX12_oats 26 = .ok (.aload_n 0, 1) := by decide +kernel
theorem dX12_oats_27 : decode cX12_oats 27 = .ok (.invokevirtual 228, 3) := by decide +kernel
theorem dX12_oats_30 : decode cX12_oats 30 = .ok (.aload_n 0, 1) := by decide +kernel
theorem dX12_oats_31 : decode cX12_oats 31 = .ok (.iconst 0, 1) := by decide +kernel
theorem dX12_oats_32 : decode cX12_oats 32 = .ok (.iload_n 1, 1) := by decide +kernel
theorem dX12_oats_33 : decode cX12_oats 33 = .ok (.invokevirtual 234, 3) := by decide +kernel
theorem dX12_oats_36 : decode cX12_oats 36 = .ok (.aload_n 0, 1) := by decide +kernel
theorem dX12_oats_37 : decode cX12_oats 37 = .ok (.getfield 7, 3) := by decide +kernel
theorem dX12_oats_40 : decode cX12_oats 40 = .ok (.bipush 27, 2) := by decide +kernel
theorem dX12_oats_42 : decode cX12_oats 42 = .ok (.iload_n 1, 1) := by decide +kernel
theorem dX12_oats_43 : decode cX12_oats 43 = .ok (.iadd, 1) := by decide +kernel
theorem dX12_oats_44 : decode cX12_oats 44 = .ok (.iaload, 1) := by decide +kernel
theorem dX12_oats_45 : decode cX12_oats 45 = .ok (.ireturn, 1) := by decide +kernel
theorem dX12_shoe_0 : decode cX12_shoe 0 = .ok (.aload_n 0, 1) := by decide +kernel
theorem dX12_shoe_1 : decode cX12_shoe 1 = .ok (.iload_n 1, 1) := by decide +kernel
theorem dX12_shoe_2 : decode cX12_shoe 2 = .ok (.invokevirtual 169, 3) := by decide +kernel
theorem dX12_shoe_5 : decode cX12_shoe 5 = .ok (.ifCond .ne 6, 3) := by decide +kernel
theorem dX12_shoe_8 : decode cX12_shoe 8 = .ok (.bipush (-2), 2) := by decide +kernel
theorem dX12_shoe_10 : decode cX12_shoe 10 = .ok (.ireturn, 1) := by decide +kernel
theorem dX12_shoe_11 : decode cX12_shoe 11 = .ok (.aload_n 0, 1) := by decide +kernel
theorem dX12_shoe_12 : decode cX12_shoe 12 = .ok (.getfield 7, 3) := by decide +kernel
theorem dX12_shoe_15 : decode cX12_shoe 15 = .ok (.bipush 35, 2) := by decide +kernel
theorem dX12_shoe_17 : decode cX12_shoe 17 = .ok (.iload_n 1, 1) := by decide +kernel
theorem dX12_shoe_18 : decode cX12_shoe 18 = .ok (.iadd, 1) := by decide +kernel
theorem dX12_shoe_19 : decode cX12_shoe 19 = .ok (.iaload, 1) := by decide +kernel
theorem dX12_shoe_20 : decode cX12_shoe 20 = .ok (.ifCond .ne 6, 3) := by decide +kernel
theorem dX12_shoe_23 : decode cX12_shoe 23 = .ok (.bipush (-4), 2) := by decide +kernel
theorem dX12_shoe_25 : decode cX12_shoe 25 = .ok (.ireturn, 1) := by decide +kernel
theorem dX12_shoe_26 : decode cX12_shoe 26 = .ok (.aload_n 0, 1) := by decide +kernel
theorem dX12_shoe_27 : decode cX12_shoe 27 = .ok (.invokevirtual 228, 3) := by decide +kernel
theorem dX12_shoe_30 : decode cX12_shoe 30 = .ok (.aload_n 0, 1) := by decide +kernel
theorem dX12_shoe_31 : decode cX12_shoe 31 = .ok (.getfield 7, 3) := by decide +kernel
theorem dX12_shoe_34 : decode cX12_shoe 34 = .ok (.bipush 27, 2) := by decide +kernel
theorem dX12_shoe_36 : decode cX12_shoe 36 = .ok (.iload_n 1, 1) := by decide +kernel
theorem dX12_shoe_37 : decode cX12_shoe 37 = .ok (.iadd, 1) := by decide +kernel
theorem dX12_shoe_38 : decode cX12_shoe 38 = .ok (.iaload, 1) := by decide +kernel
theorem dX12_shoe_39 : decode cX12_shoe 39 = .ok (.istore_n 2, 1) := by decide +kernel
theorem dX12_shoe_40 : decode cX12_shoe 40 = .ok (.aload_n 0, 1) := by decide +kernel
theorem dX12_shoe_41 : decode cX12_shoe 41 = .ok (.getfield 7, 3) := by decide +kernel
theorem dX12_shoe_44 : decode cX12_shoe 44 = .ok (.bipush 35, 2) := by decide +kernel
theorem dX12_shoe_46 : decode cX12_shoe 46 = .ok (.iload_n 1, 1) := by decide +kernel
theorem dX12_shoe_47 : decode cX12_shoe 47 = .ok (.iadd, 1) := by decide +kernel
theorem dX12_shoe_48 : decode cX12_shoe 48 = .ok (.iconst 0, 1) := by decide +kernel
theorem dX12_shoe_49 : decode cX12_shoe 49 = .ok (.iastore, 1) := by decide +kernel
theorem dX12_shoe_50 : decode cX12_shoe 50 = .ok (.aload_n 0, 1) := by decide +kernel
theorem dX12_shoe_51 : decode cX12_shoe 51 = .ok (.getfield 7, 3) := by decide +kernel
theorem dX12_shoe_54 : decode cX12_shoe 54 = .ok (.bipush 27, 2) := by decide +kernel
theorem dX12_shoe_56 : decode cX12_shoe 56 = .ok (.iload_n 1, 1) := by decide +kernel
theorem dX12_shoe_57 : decode cX12_shoe 57 = .ok (.iadd, 1) := by decide +kernel
theorem dX12_shoe_58 : decode cX12_shoe 58 = .ok (.iconst 5, 1) := by decide +kernel
theorem dX12_shoe_59 : decode cX12_shoe 59 = .ok (.iastore, 1) := by decide +kernel
theorem dX12_shoe_60 : decode cX12_shoe 60 = .ok (.iload_n 2, 1) := by decide +kernel
theorem dX12_shoe_61 : decode cX12_shoe 61 = .ok (.ireturn, 1) := by decide +kernel
theorem dX12_lead_0 : decode cX12_lead 0 = .ok (.aload_n 0, 1) := by decide +kernel
theorem dX12_lead_1 : decode cX12_lead 1 = .ok (.iload_n 1, 1) := by decide +kernel
theorem dX12_lead_2 : decode cX12_lead 2 = .ok (.invokevirtual 169, 3) := by decide +kernel
theorem dX12_lead_5 : decode cX12_lead 5 = .ok (.ifCond .eq 11, 3) := by decide +kernel
end
section
theorem dX12_lead_8 : decode cX12_lead 8 = .ok (.aload_n 0, 1) := by decide +kernel
theorem dX12_lead_9 : decode cX12_lead 9 = .ok (.iload_n 2, 1) := by decide +kernel
theorem dX12_lead_10 : decode cX12_lead 10 = .ok (.invokevirtual 175, 3) := by decide +kernel
theorem dX12_lead_13 : decode cX12_lead 13 = .ok (.ifCond .ne 6, 3) := by decide +kernel
theorem dX12_lead_16 : decode cX12_lead 16 = .ok (.bipush (-2), 2) := by decide +kernel
theorem dX12_lead_18 : decode cX12_lead 18 = .ok (.ireturn, 1) := by decide +kernel
theorem dX12_lead_19 : decode cX12_lead 19 = .ok (.aload_n 0, 1) := by decide +kernel
theorem dX12_lead_20 : decode cX12_lead 20 = .ok (.getfield 7, 3) := by decide +kernel
theorem dX12_lead_23 : decode cX12_lead 23 = .ok (.bipush 19, 2) := by decide +kernel
theorem dX12_lead_25 : decode cX12_lead 25 = .ok (.iload_n 1, 1) := by decide +kernel
theorem dX12_lead_26 : decode cX12_lead 26 = .ok (.iadd, 1) := by decide +kernel
theorem dX12_lead_27 : decode cX12_lead 27 = .ok (.iaload, 1) := by decide +kernel
theorem dX12_lead_28 : decode cX12_lead 28 = .ok (.istore_n 3, 1) := by decide +kernel
theorem dX12_lead_29 : decode cX12_lead 29 = .ok (.iload_n 3, 1) := by decide +kernel
theorem dX12_lead_30 : decode cX12_lead 30 = .ok (.iload_n 2, 1) := by decide +kernel
theorem dX12_lead_31 : decode cX12_lead 31 = .ok (.if_icmp .ne 6, 3) := by decide +kernel
theorem dX12_lead_34 : decode cX12_lead 34 = .ok (.bipush (-4), 2) := by decide +kernel
theorem dX12_lead_36 : decode cX12_lead 36 = .ok (.ireturn, 1) := by decide +kernel
theorem dX12_lead_37 : decode cX12_lead 37 = .ok (.aload_n 0, 1) := by decide +kernel
theorem dX12_lead_38 : decode cX12_lead 38 = .ok (.invokevirtual 228, 3) := by decide +kernel
theorem dX12_lead_41 : decode cX12_lead 41 = .ok (.aload_n 0, 1) := by decide +kernel
theorem dX12_lead_42 : decode cX12_lead 42 = .ok (.getfield 7, 3) := by decide +kernel
theorem dX12_lead_45 : decode cX12_lead 45 = .ok (.bipush 19, 2) := by decide +kernel
theorem dX12_lead_47 : decode cX12_lead 47 = .ok (.iload_n 1, 1) := by decide +kernel
theorem dX12_lead_48 : decode cX12_lead 48 = .ok (.iadd, 1) := by decide +kernel
theorem dX12_lead_49 : decode cX12_lead 49 = .ok (.iload_n 2, 1) := by decide +kernel
theorem dX12_lead_50 : decode cX12_lead 50 = .ok (.iastore, 1) := by decide +kernel
theorem dX12_lead_51 : decode cX12_lead 51 = .ok (.iload_n 3, 1) := by decide +kernel
theorem dX12_lead_52 : decode cX12_lead 52 = .ok (.ireturn, 1) := by decide +kernel
theorem dX12_turn_0 : decode cX12_turn 0 = .ok (.aload_n 0, 1) := by decide +kernel
theorem dX12_turn_1 : decode cX12_turn 1 = .ok (.iload_n 1, 1) := by decide +kernel
theorem dX12_turn_2 : decode cX12_turn 2 = .ok (.invokevirtual 172, 3) := by decide +kernel
theorem dX12_turn_5 : decode cX12_turn 5 = .ok (.ifCond .eq 11, 3) := by decide +kernel
theorem dX12_turn_8 : decode cX12_turn 8 = .ok (.aload_n 0, 1) := by decide +kernel
theorem dX12_turn_9 : decode cX12_turn 9 = .ok (.iload_n 2, 1) := by decide +kernel
theorem dX12_turn_10 : decode cX12_turn 10 = .ok (.invokevirtual 175, 3) := by decide +kernel
theorem dX12_turn_13 : decode cX12_turn 13 = .ok (.ifCond .ne 6, 3) := by decide +kernel
theorem dX12_turn_16 : decode cX12_turn 16 = .ok (.bipush (-2), 2) := by decide +kernel
theorem dX12_turn_18 : decode cX12_turn 18 = .ok (.ireturn, 1) := by decide +kernel
theorem dX12_turn_19 : decode cX12_turn 19 = .ok (.aload_n 0, 1) := by decide +kernel
theorem dX12_turn_20 : decode cX12_turn 20 = .ok (.getfield 7, 3) := by decide +kernel
theorem dX12_turn_23 : decode cX12_turn 23 = .ok (.bipush 55, 2) := by decide +kernel
theorem dX12_turn_25 : decode cX12_turn 25 = .ok (.iload_n 1, 1) := by decide +kernel
theorem dX12_turn_26 : decode cX12_turn 26 = .ok (.iadd, 1) := by decide +kernel
theorem dX12_turn_27 : decode cX12_turn 27 = .ok (.iaload, 1) := by decide +kernel
theorem dX12_turn_28 : decode cX12_turn 28 = .ok (.istore_n 3, 1) := by decide +kernel
theorem dX12_turn_29 : decode cX12_turn 29 = .ok (.iload_n 3, 1) := by decide +kernel
theorem dX12_turn_30 : decode cX12_turn 30 = .ok (.iload_n 2, 1) := by decide +kernel
theorem dX12_turn_31 : decode cX12_turn 31 = .ok (.if_icmp .ne 6, 3) := by decide +kernel
theorem dX12_turn_34 : decode cX12_turn 34 = .ok (.bipush (-4), 2) := by decide +kernel
theorem dX12_turn_36 : decode cX12_turn 36 = .ok (.ireturn, 1) := by decide +kernel
theorem dX12_turn_37 : decode cX12_turn 37 = .ok (.aload_n 0, 1) := by decide +kernel
theorem dX12_turn_38 : decode cX12_turn 38 = .ok (.invokevirtual 228, 3) := by decide +kernel
theorem dX12_turn_41 : decode cX12_turn 41 = .ok (.aload_n 0, 1) := by decide +kernel
theorem dX12_turn_42 : decode cX12_turn 42 = .ok (.getfield 7, 3) := by decide +kernel
theorem dX12_turn_45 : decode cX12_turn 45 = .ok (.bipush 55, 2) := by decide +kernel
theorem dX12_turn_47 : decode cX12_turn 47 = .ok (.iload_n 1, 1) := by decide +kernel
theorem dX12_turn_48 : decode cX12_turn 48 = .ok (.iadd, 1) := by decide +kernel
theorem dX12_turn_49 : decode cX12_turn 49 = .ok (.iload_n 2, 1) := by decide +kernel
theorem dX12_turn_50 : decode cX12_turn 50 = .ok (.iastore, 1) := by decide +kernel
theorem dX12_turn_51 : decode cX12_turn 51 = .ok (.iload_n 3, 1) := by decide +kernel
theorem dX12_turn_52 : decode cX12_turn 52 = .ok (.ireturn, 1) := by decide +kernel
theorem dX12_undo_0 : decode cX12_undo 0 = .ok (.aload_n 0, 1) := by decide +kernel
theorem dX12_undo_1 : decode cX12_undo 1 = .ok (.getfield 163, 3) := by decide +kernel
theorem dX12_undo_4 : decode cX12_undo 4 = .ok (.ifCond .ne 6, 3) := by decide +kernel
theorem dX12_undo_7 : decode cX12_undo 7 = .ok (.bipush (-4), 2) := by decide +kernel
theorem dX12_undo_9 : decode cX12_undo 9 = .ok (.ireturn, 1) := by decide +kernel
theorem dX12_undo_10 : decode cX12_undo 10 = .ok (.aload_n 0, 1) := by decide +kernel
theorem dX12_undo_11 : decode cX12_undo 11 = .ok (.dup, 1) := by decide +kernel
theorem dX12_undo_12 : decode cX12_undo 12 = .ok (.getfield 163, 3) := by decide +kernel
theorem dX12_undo_15 : decode cX12_undo 15 = .ok (.iconst 1, 1) := by decide +kernel
theorem dX12_undo_16 : decode cX12_undo 16 = .ok (.isub, 1) := by decide +kernel
theorem dX12_undo_17 : decode cX12_undo 17 = .ok (.putfield 163, 3) := by decide +kernel
theorem dX12_undo_20 : decode cX12_undo 20 = .ok (.aload_n 0, 1) := by decide +kernel
theorem dX12_undo_21 : decode cX12_undo 21 = .ok (.sipush 140, 3) := by decide +kernel
theorem dX12_undo_24 : decode cX12_undo 24 = .ok (.bipush 70, 2) := by decide +kernel
theorem dX12_undo_26 : decode cX12_undo 26 = .ok (.aload_n 0, 1) := by decide +kernel
theorem dX12_undo_27 : decode cX12_undo 27 = .ok (.getfield 163, 3) := by decide +kernel
theorem dX12_undo_30 : decode cX12_undo 30 = .ok (.imul, 1) := by decide +kernel
theorem dX12_undo_31 : decode cX12_undo 31 = .ok (.iadd, 1) := by decide +kernel
theorem dX12_undo_32 : decode cX12_undo 32 = .ok (.iconst 0, 1) := by decide +kernel
theorem dX12_undo_33 : decode cX12_undo 33 = .ok (.invokevirtual 159, 3) := by decide +kernel
theorem dX12_undo_36 : decode cX12_undo 36 = .ok (.aload_n 0, 1) := by decide +kernel
theorem dX12_undo_37 : decode cX12_undo 37 = .ok (.getfield 163, 3) := by decide +kernel
theorem dX12_undo_40 : decode cX12_undo 40 = .ok (.ireturn, 1) := by decide +kernel
theorem dX12_keep_0 : decode cX12_keep 0 = .ok (.iload_n 1, 1) := by decide +kernel
theorem dX12_keep_1 : decode cX12_keep 1 = .ok (.i2l, 1) := by decide +kernel
theorem dX12_keep_2 : decode cX12_keep 2 = .ok (.lconst 0, 1) := by decide +kernel
theorem dX12_keep_3 : decode cX12_keep 3 = .ok (.lconst 1, 1) := by decide +kernel
theorem dX12_keep_4 : decode cX12_keep 4 = .ok (.invokestatic 79, 3) := by decide +kernel
theorem dX12_keep_7 : decode cX12_keep 7 = .ok (.ifCond .ne 6, 3) := by decide +kernel
theorem dX12_keep_10 : decode cX12_keep 10 = .ok (.bipush (-2), 2) := by decide +kernel
theorem dX12_keep_12 : decode cX12_keep 12 = .ok (.ireturn, 1) := by decide +kernel
theorem dX12_keep_13 : decode cX12_keep 13 = .ok (.aload_n 0, 1) := by decide +kernel
theorem dX12_keep_14 : decode cX12_keep 14 = .ok (.iconst 0, 1) := by decide +kernel
theorem dX12_keep_15 : decode cX12_keep 15 = .ok (.sipush 700, 3) := by decide +kernel
theorem dX12_keep_18 : decode cX12_keep 18 = .ok (.bipush 70, 2) := by decide +kernel
theorem dX12_keep_20 : decode cX12_keep 20 = .ok (.iload_n 1, 1) := by decide +kernel
theorem dX12_keep_21 : decode cX12_keep 21 = .ok (.imul, 1) := by decide +kernel
theorem dX12_keep_22 : decode cX12_keep 22 = .ok (.iadd, 1) := by decide +kernel
theorem dX12_keep_23 : decode cX12_keep 23 = .ok (.invokevirtual 159, 3) := by decide +kernel
theorem dX12_keep_26 : decode cX12_keep 26 = .ok (.aload_n 0, 1) := by decide +kernel
theorem dX12_keep_27 : decode cX12_keep 27 = .ok (.getfield 13, 3) := by decide +kernel
theorem dX12_keep_30 : decode cX12_keep 30 = .ok (.iload_n 1, 1) := by decide +kernel
theorem dX12_keep_31 : decode cX12_keep 31 = .ok (.iconst 1, 1) := by decide +kernel
theorem dX12_keep_32 : decode cX12_keep 32 = .ok (.bastore, 1) := by decide +kernel
theorem dX12_keep_33 : decode cX12_keep 33 = .ok (.aload_n 0, 1) := by decide +kernel
theorem dX12_keep_34 : decode cX12_keep 34 = .ok (.getfield 7, 3) := by decide +kernel
theorem dX12_keep_37 : decode cX12_keep 37 = .ok (.iconst 2, 1) := by decide +kernel
theorem dX12_keep_38 : decode cX12_keep 38 = .ok (.iaload, 1) := by decide +kernel
theorem dX12_keep_39 : decode cX12_keep 39 = .ok (.ireturn, 1) := by decide +kernel
theorem dX12_back_0 : decode cX12_back 0 = .ok (.iload_n 1, 1) := by decide +kernel
theorem dX12_back_1 : decode cX12_back 1 = .ok (.i2l, 1) := by decide +kernel
theorem dX12_back_2 : decode cX12_back 2 = .ok (.lconst 0, 1) := by decide +kernel
theorem dX12_back_3 : decode cX12_back 3 = .ok (.lconst 1, 1) := by decide +kernel
theorem dX12_back_4 : decode cX12_back 4 = .ok (.invokestatic 79, 3) := by decide +kernel
theorem dX12_back_7 : decode cX12_back 7 = .ok (.ifCond .ne 6, 3) := by decide +kernel
theorem dX12_back_10 : decode cX12_back 10 = .ok (.bipush (-2), 2) := by decide +kernel
theorem dX12_back_12 : decode cX12_back 12 = .ok (.ireturn, 1) := by decide +kernel
theorem dX12_back_13 : decode cX12_back 13 = .ok (.aload_n 0, 1) := by decide +kernel
theorem dX12_back_14 : decode cX12_back 14 = .ok (.getfield 13, 3) := by decide +kernel
theorem dX12_back_17 : decode cX12_back 17 = .ok (.iload_n 1, 1) := by decide +kernel
theorem dX12_back_18 : decode cX12_back 18 = .ok (.baload, 1) := by decide +kernel
theorem dX12_back_19 : decode cX12_back 19 = .ok (.ifCond .ne 6, 3) := by decide +kernel
theorem dX12_back_22 : decode cX12_back 22 = .ok (.bipush (-4), 2) := by decide +kernel
theorem dX12_back_24 : decode cX12_back 24 = .ok (.ireturn, 1) := by decide +kernel
theorem dX12_back_25 : decode cX12_back 25 = .ok (.aload_n 0, 1) := by decide +kernel
theorem dX12_back_26 : decode cX12_back 26 = .ok (.sipush 700, 3) := by decide +kernel
theorem dX12_back_29 : decode cX12_back 29 = .ok (.bipush 70, 2) := by decide +kernel
theorem dX12_back_31 : decode cX12_back 31 = .ok (.iload_n 1, 1) := by decide +kernel
theorem dX12_back_32 : decode cX12_back 32 = .ok (.imul, 1) := by decide +kernel
theorem dX12_back_33 : decode cX12_back 33 = .ok (.iadd, 1) := by decide +kernel
theorem dX12_back_34 : decode cX12_back 34 = .ok (.iconst 0, 1) := by decide +kernel
theorem dX12_back_35 : decode cX12_back 35 = .ok (.invokevirtual 159, 3) := by decide +kernel
theorem dX12_back_38 : decode cX12_back 38 = .ok (.aload_n 0, 1) := by decide +kernel
theorem dX12_back_39 : decode cX12_back 39 = .ok (.iconst 0, 1) := by decide +kernel
theorem dX12_back_40 : decode cX12_back 40 = .ok (.putfield 163, 3) := by decide +kernel
theorem dX12_back_43 : decode cX12_back 43 = .ok (.aload_n 0, 1) := by decide +kernel
theorem dX12_back_44 : decode cX12_back 44 = .ok (.getfield 7, 3) := by decide +kernel
theorem dX12_back_47 : decode cX12_back 47 = .ok (.iconst 2, 1) := by decide +kernel
theorem dX12_back_48 : decode cX12_back 48 = .ok (.iaload, 1) := by decide +kernel
theorem dX12_back_49 : decode cX12_back 49 = .ok (.ireturn, 1) := by decide +kernel
theorem dX12_isRiding_0 : decode cX12_isRiding 0 = .ok (.aload_n 0, 1) := by decide +kernel
theorem dX12_isRiding_1 : decode cX12_isRiding 1 = .ok (.getfield 7, 3) := by decide +kernel
theorem dX12_isRiding_4 : decode cX12_isRiding 4 = .ok (.bipush 51, 2) := by decide +kernel
theorem dX12_isRiding_6 : decode cX12_isRiding 6 = .ok (.iload_n 1, 1) := by decide +kernel
theorem dX12_isRiding_7 : decode cX12_isRiding 7 = .ok (.iadd, 1) := by decide +kernel
theorem dX12_isRiding_8 : decode cX12_isRiding 8 = .ok (.iaload, 1) := by decide +kernel
theorem dX12_isRiding_9 : decode cX12_isRiding 9 = .ok (.aload_n 0, 1) := by decide +kernel
theorem dX12_isRiding_10 : decode cX12_isRiding 10 = .ok (.getfield 7, 3) := by decide +kernel
theorem dX12_isRiding_13 : decode cX12_isRiding 13 = .ok (.bipush 55, 2) := by decide +kernel
theorem dX12_isRiding_15 : decode cX12_isRiding 15 = .ok (.iload_n 1, 1) := by decide +kernel
theorem dX12_isRiding_16 : decode cX12_isRiding 16 = .ok (.iadd, 1) := by decide +kernel
theorem dX12_isRiding_17 : decode cX12_isRiding 17 = .ok (.iaload, 1) := by decide +kernel
theorem dX12_isRiding_18 : decode cX12_isRiding 18 = .ok (.if_icmp .eq 7, 3) := by decide +kernel
theorem dX12_isRiding_21 : decode cX12_isRiding 21 = .ok (.iconst 1, 1) := by decide +kernel
theorem dX12_isRiding_22 : decode cX12_isRiding 22 = .ok (.goto 4, 3) := by decide +kernel
theorem dX12_isRiding_25 : decode cX12_isRiding 25 = .ok (.iconst 0, 1) := by decide +kernel
theorem dX12_isRiding_26 : decode cX12_isRiding 26 = .ok (.ireturn, 1) := by decide +kernel
theorem dX12_given_0 : decode cX12_given 0 = .ok (.aload_n 0, 1) := by decide +kernel
theorem dX12_given_1 : decode cX12_given 1 = .ok (.iload_n 1, 1) := by decide +kernel
theorem dX12_given_2 : decode cX12_given 2 = .ok (.invokevirtual 172, 3) := by decide +kernel
theorem dX12_given_5 : decode cX12_given 5 = .ok (.ifCond .ne 6, 3) := by decide +kernel
theorem dX12_given_8 : decode cX12_given 8 = .ok (.bipush (-2), 2) := by decide +kernel
theorem dX12_given_10 : decode cX12_given 10 = .ok (.ireturn, 1) := by decide +kernel
theorem dX12_given_11 : decode cX12_given 11 = .ok (.aload_n 0, 1) := by decide +kernel
theorem dX12_given_12 : decode cX12_given 12 = .ok (.iconst 0, 1) := by decide +kernel
theorem dX12_given_13 : decode cX12_given 13 = .ok (.putfield 185, 3) := by decide +kernel
theorem dX12_given_16 : decode cX12_given 16 = .ok (.aload_n 0, 1) := by decide +kernel
theorem dX12_given_17 : decode cX12_given 17 = .ok (.iload_n 1, 1) := by decide +kernel
theorem dX12_given_18 : decode cX12_given 18 = .ok (.invokevirtual 237, 3) := by decide +kernel
theorem dX12_given_21 : decode cX12_given 21 = .ok (.ifCond .eq 12, 3) := by decide +kernel
theorem dX12_given_24 : decode cX12_given 24 = .ok (.aload_n 0, 1) := by decide +kernel
theorem dX12_given_25 : decode cX12_given 25 = .ok (.iconst 0, 1) := by decide +kernel
theorem dX12_given_26 : decode cX12_given 26 = .ok (.iload_n 1, 1) := by decide +kernel
theorem dX12_given_27 : decode cX12_given 27 = .ok (.invokevirtual 192, 3) := by decide +kernel
theorem dX12_given_30 : decode cX12_given 30 = .ok (.goto 4, 3) := by decide +kernel
theorem dX12_given_33 : decode cX12_given 33 = .ok (.iconst (-1), 1) := by decide +kernel
theorem dX12_given_34 : decode cX12_given 34 = .ok (.ireturn, 1) := by decide +kernel
theorem dX12_layTried_0 : decode cX12_layTried 0 = .ok (.aload_n 0, 1) := by decide +kernel
theorem dX12_layTried_1 : decode cX12_layTried 1 = .ok (.iconst 0, 1) := by decide +kernel
theorem dX12_layTried_2 : decode cX12_layTried 2 = .ok (.sipush 840, 3) := by decide +kernel
theorem dX12_layTried_5 : decode cX12_layTried 5 = .ok (.invokevirtual 159, 3) := by decide +kernel
theorem dX12_layTried_8 : decode cX12_layTried 8 = .ok (.return_, 1) := by decide +kernel
theorem dX12_ahead_0 : decode cX12_ahead 0 = .ok (.aload_n 0, 1) := by decide +kernel
theorem dX12_ahead_1 : decode cX12_ahead 1 = .ok (.iload_n 1, 1) := by decide +kernel
theorem dX12_ahead_2 : decode cX12_ahead 2 = .ok (.invokevirtual 169, 3) := by decide +kernel
theorem dX12_ahead_5 : decode cX12_ahead 5 = .ok (.ifCond .ne 6, 3) := by decide +kernel
theorem dX12_ahead_8 : decode cX12_ahead 8 = .ok (.bipush (-2), 2) := by decide +kernel
theorem dX12_ahead_10 : decode cX12_ahead 10 = .ok (.ireturn, 1) := by decide +kernel
theorem dX12_ahead_11 : decode cX12_ahead 11 = .ok (.iload_n 2, 1) := by decide +kernel
theorem dX12_ahead_12 : decode cX12_ahead 12 = .ok (.i2l, 1) := by decide +kernel
theorem dX12_ahead_13 : decode cX12_ahead 13 = .ok (.lconst 0, 1) := by decide +kernel
theorem dX12_ahead_14 : decode cX12_ahead 14 = .ok (.ldc2_w 240, 3) := by decide +kernel
theorem dX12_ahead_17 : decode cX12_ahead 17 = .ok (.invokestatic 79, 3) := by decide +kernel
theorem dX12_ahead_20 : decode cX12_ahead 20 = .ok (.ifCond .eq 15, 3) := by decide +kernel
theorem dX12_ahead_23 : decode cX12_ahead 23 = .ok (.iload_n 3, 1) := by decide +kernel
theorem dX12_ahead_24 : decode cX12_ahead 24 = .ok (.i2l, 1) := by decide +kernel
theorem dX12_ahead_25 : decode cX12_ahead 25 = .ok (.lconst 0, 1) := by decide +kernel
theorem dX12_ahead_26 : decode cX12_ahead 26 = .ok (.ldc2_w 242, 3) := by decide +kernel
theorem dX12_ahead_29 : decode cX12_ahead 29 = .ok (.invokestatic 79, 3) := by decide +kernel
theorem dX12_ahead_32 : decode cX12_ahead 32 = .ok (.ifCond .ne 6, 3) := by decide +kernel
theorem dX12_ahead_35 : decode cX12_ahead 35 = .ok (.bipush (-3), 2) := by decide +kernel
theorem dX12_ahead_37 : decode cX12_ahead 37 = .ok (.ireturn, 1) := by decide +kernel
theorem dX12_ahead_38 : decode cX12_ahead 38 = .ok (.aload_n 0, 1) := by decide +kernel
theorem dX12_ahead_39 : decode cX12_ahead 39 = .ok (.invokevirtual 244, 3) := by decide +kernel
theorem dX12_ahead_42 : decode cX12_ahead 42 = .ok (.iconst 0, 1) := by decide +kernel
theorem dX12_ahead_43 : decode cX12_ahead 43 = .ok (.istore 4, 2) := by decide +kernel
theorem dX12_ahead_45 : decode cX12_ahead 45 = .ok (.iload 4, 2) := by decide +kernel
theorem dX12_ahead_47 : decode cX12_ahead 47 = .ok (.iload_n 2, 1) := by decide +kernel
theorem dX12_ahead_48 : decode cX12_ahead 48 = .ok (.if_icmp .ge 16, 3) := by decide +kernel
theorem dX12_ahead_51 : decode cX12_ahead 51 = .ok (.aload_n 0, 1) := by decide +kernel
theorem dX12_ahead_52 : decode cX12_ahead 52 = .ok (.sipush 840, 3) := by decide +kernel
theorem dX12_ahead_55 : decode cX12_ahead 55 = .ok (.invokevirtual 231, 3) := by decide +kernel
theorem dX12_ahead_58 : decode cX12_ahead 58 = .ok (.iinc 4 1, 3) := by decide +kernel
theorem dX12_ahead_61 : decode cX12_ahead 61 = .ok (.goto (-16), 3) := by decide +kernel
theorem dX12_ahead_64 : decode cX12_ahead 64 = .ok (.aload_n 0, 1) := by decide +kernel
theorem dX12_ahead_65 : decode cX12_ahead 65 = .ok (.getfield 7, 3) := by decide +kernel
theorem dX12_ahead_68 : decode cX12_ahead 68 = .ok (.sipush 840, 3) := by decide +kernel
theorem dX12_ahead_71 : decode cX12_ahead 71 = .ok (.iload_n 3, 1) := by decide +kernel
theorem dX12_ahead_72 : decode cX12_ahead 72 = .ok (.ifCond .ne 8, 3) := by decide +kernel
theorem dX12_ahead_75 : decode cX12_ahead 75 = .ok (.bipush 19, 2) := by decide +kernel
theorem dX12_ahead_77 : decode cX12_ahead 77 = .ok (.goto 15, 3) := by decide +kernel
theorem dX12_ahead_80 : decode cX12_ahead 80 = .ok (.iload_n 3, 1) := by decide +kernel
theorem dX12_ahead_81 : decode cX12_ahead 81 = .ok (.iconst 1, 1) := by decide +kernel
theorem dX12_ahead_82 : decode cX12_ahead 82 = .ok (.if_icmp .ne 8, 3) := by decide +kernel
theorem dX12_ahead_85 : decode cX12_ahead 85 = .ok (.bipush 27, 2) := by decide +kernel
theorem dX12_ahead_87 : decode cX12_ahead 87 = .ok (.goto 5, 3) := by decide +kernel
theorem dX12_ahead_90 : decode cX12_ahead 90 = .ok (.bipush 35, 2) := by decide +kernel
theorem dX12_ahead_92 : decode cX12_ahead 92 = .ok (.iadd, 1) := by decide +kernel
theorem dX12_ahead_93 : decode cX12_ahead 93 = .ok (.iload_n 1, 1) := by decide +kernel
theorem dX12_ahead_94 : decode cX12_ahead 94 = .ok (.iadd, 1) := by decide +kernel
theorem dX12_ahead_95 : decode cX12_ahead 95 = .ok (.iaload, 1) := by decide +kernel
theorem dX12_ahead_96 : decode cX12_ahead 96 = .ok (.ireturn, 1) := by decide +kernel
theorem dX12_comesBy_0 : decode cX12_comesBy 0 = .ok (.iconst 0, 1) := by decide +kernel
theorem dX12_comesBy_1 : decode cX12_comesBy 1 = .ok (.istore_n 3, 1) := by decide +kernel
theorem dX12_comesBy_2 : decode cX12_comesBy 2 = .ok (.iload_n 3, 1) := by decide +kernel
theorem dX12_comesBy_3 : decode cX12_comesBy 3 = .ok (.iload_n 2, 1) := by decide +kernel
theorem dX12_comesBy_4 : decode cX12_comesBy 4 = .ok (.if_icmp .gt 41, 3) := by decide +kernel
theorem dX12_comesBy_7 : decode cX12_comesBy 7 = .ok (.aload_n 0, 1) := by decide +kernel
theorem dX12_comesBy_8 : decode cX12_comesBy 8 = .ok (.getfield 7, 3) := by decide +kernel
theorem dX12_comesBy_11 : decode cX12_comesBy 11 = .ok (.sipush 891, 3) := by decide +kernel
theorem dX12_comesBy_14 : decode cX12_comesBy 14 = .ok (.iload_n 1, 1) := by decide +kernel
theorem dX12_comesBy_15 : decode cX12_comesBy 15 = .ok (.iadd, 1) := by decide +kernel
theorem dX12_comesBy_16 : decode cX12_comesBy 16 = .ok (.iaload, 1) := by decide +kernel
theorem dX12_comesBy_17 : decode cX12_comesBy 17 = .ok (.aload_n 0, 1) := by decide +kernel
theorem dX12_comesBy_18 : decode cX12_comesBy 18 = .ok (.getfield 7, 3) := by decide +kernel
theorem dX12_comesBy_21 : decode cX12_comesBy 21 = .ok (.sipush 895, 3) := by decide +kernel
theorem dX12_comesBy_24 : decode cX12_comesBy 24 = .ok (.iload_n 1, 1) := by decide +kernel
theorem dX12_comesBy_25 : decode cX12_comesBy 25 = .ok (.iadd, 1) := by decide +kernel
theorem dX12_comesBy_26 : decode cX12_comesBy 26 = .ok (.iaload, 1) := by decide +kernel
theorem dX12_comesBy_27 : decode cX12_comesBy 27 = .ok (.if_icmp .ne 5, 3) := by decide +kernel
theorem dX12_comesBy_30 : decode cX12_comesBy 30 = .ok (.iload_n 3, 1) := by decide +kernel
theorem dX12_comesBy_31 : decode cX12_comesBy 31 = .ok (.ireturn, 1) := by decide +kernel
theorem dX12_comesBy_32 : decode cX12_comesBy 32 = .ok (.aload_n 0, 1) := by decide +kernel
theorem dX12_comesBy_33 : decode cX12_comesBy 33 = .ok (.sipush 840, 3) := by decide +kernel
theorem dX12_comesBy_36 : decode cX12_comesBy 36 = .ok (.invokevirtual 231, 3) := by decide +kernel
theorem dX12_comesBy_39 : decode cX12_comesBy 39 = .ok (.iinc 3 1, 3) := by decide +kernel
theorem dX12_comesBy_42 : decode cX12_comesBy 42 = .ok (.goto (-40), 3) := by decide +kernel
theorem dX12_comesBy_45 : decode cX12_comesBy 45 = .ok (.iconst (-1), 1) := by decide +kernel
theorem dX12_comesBy_46 : decode cX12_comesBy 46 = .ok (.ireturn, 1) := by decide +kernel
theorem dX12_comes_0 : decode cX12_comes 0 = .ok (.aload_n 0, 1) := by decide +kernel
theorem dX12_comes_1 : decode cX12_comes 1 = .ok (.iload_n 1, 1) := by decide +kernel
theorem dX12_comes_2 : decode cX12_comes 2 = .ok (.invokevirtual 172, 3) := by decide +kernel
theorem dX12_comes_5 : decode cX12_comes 5 = .ok (.ifCond .ne 6, 3) := by decide +kernel
theorem dX12_comes_8 : decode cX12_comes 8 = .ok (.bipush (-2), 2) := by decide +kernel
theorem dX12_comes_10 : decode cX12_comes 10 = .ok (.ireturn, 1) := by decide +kernel
theorem dX12_comes_11 : decode cX12_comes 11 = .ok (.iload_n 2, 1) := by decide +kernel
theorem dX12_comes_12 : decode cX12_comes 12 = .ok (.i2l, 1) := by decide +kernel
theorem dX12_comes_13 : decode cX12_comes 13 = .ok (.lconst 0, 1) := by decide +kernel
theorem dX12_comes_14 : decode cX12_comes 14 = .ok (.lconst 1, 1) := by decide +kernel
theorem dX12_comes_15 : decode cX12_comes 15 = .ok (.invokestatic 79, 3) := by decide +kernel
theorem dX12_comes_18 : decode cX12_comes 18 = .ok (.ifCond .ne 6, 3) := by decide +kernel
theorem dX12_comes_21 : decode cX12_comes 21 = .ok (.bipush (-3), 2) := by decide +kernel
theorem dX12_comes_23 : decode cX12_comes 23 = .ok (.ireturn, 1) := by decide +kernel
theorem dX12_comes_24 : decode cX12_comes 24 = .ok (.aload_n 0, 1) := by decide +kernel
theorem dX12_comes_25 : decode cX12_comes 25 = .ok (.invokevirtual 244, 3) := by decide +kernel
theorem dX12_comes_28 : decode cX12_comes 28 = .ok (.aload_n 0, 1) := by decide +kernel
theorem dX12_comes_29 : decode cX12_comes 29 = .ok (.iload_n 1, 1) := by decide +kernel
theorem dX12_comes_30 : decode cX12_comes 30 = .ok (.bipush 60, 2) := by decide +kernel
theorem dX12_comes_32 : decode cX12_comes 32 = .ok (.invokevirtual 247, 3) := by decide +kernel
theorem dX12_comes_35 : decode cX12_comes 35 = .ok (.istore_n 3, 1) := by decide +kernel
theorem dX12_comes_36 : decode cX12_comes 36 = .ok (.iload_n 2, 1) := by decide +kernel
theorem dX12_comes_37 : decode cX12_comes 37 = .ok (.ifCond .eq 8, 3) := by decide +kernel
theorem dX12_comes_40 : decode cX12_comes 40 = .ok (.iload_n 3, 1) := by decide +kernel
theorem dX12_comes_41 : decode cX12_comes 41 = .ok (.iconst (-1), 1) := by decide +kernel
theorem dX12_comes_42 : decode cX12_comes 42 = .ok (.if_icmp .ne 7, 3) := by decide +kernel
theorem dX12_comes_45 : decode cX12_comes 45 = .ok (.iload_n 3, 1) := by decide +kernel
theorem dX12_comes_46 : decode cX12_comes 46 = .ok (.goto 13, 3) := by decide +kernel
theorem dX12_comes_49 : decode cX12_comes 49 = .ok (.aload_n 0, 1) := by decide +kernel
theorem dX12_comes_50 : decode cX12_comes 50 = .ok (.getfield 7, 3) := by decide +kernel
theorem dX12_comes_53 : decode cX12_comes 53 = .ok (.sipush 899, 3) := by decide +kernel
theorem dX12_comes_56 : decode cX12_comes 56 = .ok (.iload_n 1, 1) := by decide +kernel
theorem dX12_comes_57 : decode cX12_comes 57 = .ok (.iadd, 1) := by decide +kernel
theorem dX12_comes_58 : decode cX12_comes 58 = .ok (.iaload, 1) := by decide +kernel
theorem dX12_comes_59 : decode cX12_comes 59 = .ok (.ireturn, 1) := by decide +kernel
theorem dX12_takenByLine_0 : decode cX12_takenByLine 0 = .ok (.iconst 0, 1) := by decide +kernel
theorem dX12_takenByLine_1 : decode cX12_takenByLine 1 = .ok (.istore_n 1, 1) := by decide +kernel
theorem dX12_takenByLine_2 : decode cX12_takenByLine 2 = .ok (.iconst 0, 1) := by decide +kernel
theorem dX12_takenByLine_3 : decode cX12_takenByLine 3 = .ok (.istore_n 2, 1) := by decide +kernel
theorem dX12_takenByLine_4 : decode cX12_takenByLine 4 = .ok (.iconst 1, 1) := by decide +kernel
theorem dX12_takenByLine_5 : decode cX12_takenByLine 5 = .ok (.istore_n 3, 1) := by decide +kernel
theorem dX12_takenByLine_6 : decode cX12_takenByLine 6 = .ok (.iconst 0, 1) := by decide +kernel
theorem dX12_takenByLine_7 : decode cX12_takenByLine 7 = .ok (.istore 4, 2) := by decide +kernel
theorem dX12_takenByLine_9 : decode cX12_takenByLine 9 = .ok (.iload 4, 2) := by decide +kernel
theorem dX12_takenByLine_11 : decode cX12_takenByLine 11 = .ok (.aload_n 0, 1) := by decide +kernel
theorem dX12_takenByLine_12 : decode cX12_takenByLine 12 = .ok (.getfield 7, 3) := by decide +kernel
theorem dX12_takenByLine_15 : decode cX12_takenByLine 15 = .ok (.iconst 1, 1) := by decide +kernel
theorem dX12_takenByLine_16 : decode cX12_takenByLine 16 = .ok (.iaload, 1) := by decide +kernel
theorem dX12_takenByLine_17 : decode cX12_takenByLine 17 = .ok (.if_icmp .ge 173, 3) := by decide +kernel
theorem dX12_takenByLine_20 : decode cX12_takenByLine 20 = .ok (.aload_n 0, 1) := by decide +kernel
theorem dX12_takenByLine_21 : decode cX12_takenByLine 21 = .ok (.getfield 65, 3) := by decide +kernel
theorem dX12_takenByLine_24 : decode cX12_takenByLine 24 = .ok (.iload 4, 2) := by decide +kernel
theorem dX12_takenByLine_26 : decode cX12_takenByLine 26 = .ok (.iaload, 1) := by decide +kernel
theorem dX12_takenByLine_27 : decode cX12_takenByLine 27 = .ok (.istore 5, 2) := by decide +kernel
theorem dX12_takenByLine_29 : decode cX12_takenByLine 29 = .ok (.iload 5, 2) := by decide +kernel
theorem dX12_takenByLine_31 : decode cX12_takenByLine 31 = .ok (.aload_n 0, 1) := by decide +kernel
theorem dX12_takenByLine_32 : decode cX12_takenByLine 32 = .ok (.getfield 7, 3) := by decide +kernel
theorem dX12_takenByLine_35 : decode cX12_takenByLine 35 = .ok (.iconst 0, 1) := by decide +kernel
theorem dX12_takenByLine_36 : decode cX12_takenByLine 36 = .ok (.iaload, 1) := by decide +kernel
theorem dX12_takenByLine_37 : decode cX12_takenByLine 37 = .ok (.if_icmp .ge 7, 3) := by decide +kernel
theorem dX12_takenByLine_40 : decode cX12_takenByLine 40 = .ok (.iconst 1, 1) := by decide +kernel
theorem dX12_takenByLine_41 : decode cX12_takenByLine 41 = .ok (.goto 4, 3) := by decide +kernel
theorem dX12_takenByLine_44 : decode cX12_takenByLine 44 = .ok (.iconst 0, 1) := by decide +kernel
theorem dX12_takenByLine_45 : decode cX12_takenByLine 45 = .ok (.istore 6, 2) := by decide +kernel
theorem dX12_takenByLine_47 : decode cX12_takenByLine 47 = .ok (.iload_n 3, 1) := by decide +kernel
theorem dX12_takenByLine_48 : decode cX12_takenByLine 48 = .ok (.ifCond .eq 69, 3) := by decide +kernel
theorem dX12_takenByLine_51 : decode cX12_takenByLine 51 = .ok (.iload 6, 2) := by decide +kernel
theorem dX12_takenByLine_53 : decode cX12_takenByLine 53 = .ok (.aload_n 0, 1) := by decide +kernel
theorem dX12_takenByLine_54 : decode cX12_takenByLine 54 = .ok (.iload 4, 2) := by decide +kernel
theorem dX12_takenByLine_56 : decode cX12_takenByLine 56 = .ok (.invokevirtual 237, 3) := by decide +kernel
theorem dX12_takenByLine_59 : decode cX12_takenByLine 59 = .ok (.if_icmp .ne 58, 3) := by decide +kernel
theorem dX12_takenByLine_62 : decode cX12_takenByLine 62 = .ok (.iload 6, 2) := by decide +kernel
theorem dX12_takenByLine_64 : decode cX12_takenByLine 64 = .ok (.ifCond .eq 49, 3) := by decide +kernel
theorem dX12_takenByLine_67 : decode cX12_takenByLine 67 = .ok (.iload_n 2, 1) := by decide +kernel
theorem dX12_takenByLine_68 : decode cX12_takenByLine 68 = .ok (.iload 5, 2) := by decide +kernel
theorem dX12_takenByLine_70 : decode cX12_takenByLine 70 = .ok (.invokestatic 188, 3) := by decide +kernel
theorem dX12_takenByLine_73 : decode cX12_takenByLine 73 = .ok (.ifCond .ne 44, 3) := by decide +kernel
theorem dX12_takenByLine_76 : decode cX12_takenByLine 76 = .ok (.aload_n 0, 1) := by decide +kernel
theorem dX12_takenByLine_77 : decode cX12_takenByLine 77 = .ok (.getfield 7, 3) := by decide +kernel
theorem dX12_takenByLine_80 : decode cX12_takenByLine 80 = .ok (.bipush 19, 2) := by decide +kernel
theorem dX12_takenByLine_82 : decode cX12_takenByLine 82 = .ok (.iload 5, 2) := by decide +kernel
theorem dX12_takenByLine_84 : decode cX12_takenByLine 84 = .ok (.iadd, 1) := by decide +kernel
theorem dX12_takenByLine_85 : decode cX12_takenByLine 85 = .ok (.iaload, 1) := by decide +kernel
theorem dX12_takenByLine_86 : decode cX12_takenByLine 86 = .ok (.aload_n 0, 1) := by decide +kernel
theorem dX12_takenByLine_87 : decode cX12_takenByLine 87 = .ok (.getfield 7, 3) := by decide +kernel
theorem dX12_takenByLine_90 : decode cX12_takenByLine 90 = .ok (.bipush 51, 2) := by decide +kernel
theorem dX12_takenByLine_92 : decode cX12_takenByLine 92 = .ok (.iload 4, 2) := by decide +kernel
theorem dX12_takenByLine_94 : decode cX12_takenByLine 94 = .ok (.iadd, 1) := by decide +kernel
theorem dX12_takenByLine_95 : decode cX12_takenByLine 95 = .ok (.iaload, 1) := by decide +kernel
theorem dX12_takenByLine_96 : decode cX12_takenByLine 96 = .ok (.if_icmp .ne 21, 3) := by decide +kernel
theorem dX12_takenByLine_99 : decode cX12_takenByLine 99 = .ok (.aload_n 0, 1) := by decide +kernel
theorem dX12_takenByLine_100 : decode cX12_takenByLine 100 = .ok (.getfield 7, 3) := by decide +kernel
theorem dX12_takenByLine_103 : decode cX12_takenByLine 103 = .ok (.bipush 35, 2) := by decide +kernel
theorem dX12_takenByLine_105 : decode cX12_takenByLine 105 = .ok (.iload 5, 2) := by decide +kernel
theorem dX12_takenByLine_107 : decode cX12_takenByLine 107 = .ok (.iadd, 1) := by decide +kernel
theorem dX12_takenByLine_108 : decode cX12_takenByLine 108 = .ok (.iaload, 1) := by decide +kernel
theorem dX12_takenByLine_109 : decode cX12_takenByLine 109 = .ok (.iconst 1, 1) := by decide +kernel
theorem dX12_takenByLine_110 : decode cX12_takenByLine 110 = .ok (.if_icmp .eq 7, 3) := by decide +kernel
theorem dX12_takenByLine_113 : decode cX12_takenByLine 113 = .ok (.iconst 1, 1) := by decide +kernel
theorem dX12_takenByLine_114 : decode cX12_takenByLine 114 = .ok (.goto 4, 3) := by decide +kernel
theorem dX12_takenByLine_117 : decode cX12_takenByLine 117 = .ok (.iconst 0, 1) := by decide +kernel
theorem dX12_takenByLine_118 : decode cX12_takenByLine 118 = .ok (.istore_n 3, 1) := by decide +kernel
theorem dX12_takenByLine_119 : decode cX12_takenByLine 119 = .ok (.iload_n 2, 1) := by decide +kernel
theorem dX12_takenByLine_120 : decode cX12_takenByLine 120 = .ok (.iload 6, 2) := by decide +kernel
theorem dX12_takenByLine_122 : decode cX12_takenByLine 122 = .ok (.ifCond .eq 10, 3) := by decide +kernel
theorem dX12_takenByLine_125 : decode cX12_takenByLine 125 = .ok (.iconst 1, 1) := by decide +kernel
theorem dX12_takenByLine_126 : decode cX12_takenByLine 126 = .ok (.iload 5, 2) := by decide +kernel
theorem dX12_takenByLine_128 : decode cX12_takenByLine 128 = .ok (.ishl, 1) := by decide +kernel
theorem dX12_takenByLine_129 : decode cX12_takenByLine 129 = .ok (.goto 4, 3) := by decide +kernel
theorem dX12_takenByLine_132 : decode cX12_takenByLine 132 = .ok (.iconst 0, 1) := by decide +kernel
theorem dX12_takenByLine_133 : decode cX12_takenByLine 133 = .ok (.ior, 1) := by decide +kernel
theorem dX12_takenByLine_134 : decode cX12_takenByLine 134 = .ok (.istore_n 2, 1) := by decide +kernel
theorem dX12_takenByLine_135 : decode cX12_takenByLine 135 = .ok (.iload_n 1, 1) := by decide +kernel
theorem dX12_takenByLine_136 : decode cX12_takenByLine 136 = .ok (.iload 6, 2) := by decide +kernel
theorem dX12_takenByLine_138 : decode cX12_takenByLine 138 = .ok (.ifCond .eq 43, 3) := by decide +kernel
theorem dX12_takenByLine_141 : decode cX12_takenByLine 141 = .ok (.aload_n 0, 1) := by decide +kernel
theorem dX12_takenByLine_142 : decode cX12_takenByLine 142 = .ok (.getfield 7, 3) := by decide +kernel
theorem dX12_takenByLine_145 : decode cX12_takenByLine 145 = .ok (.iconst 3, 1) := by decide +kernel
theorem dX12_takenByLine_146 : decode cX12_takenByLine 146 = .ok (.iload 5, 2) := by decide +kernel
theorem dX12_takenByLine_148 : decode cX12_takenByLine 148 = .ok (.iadd, 1) := by decide +kernel
theorem dX12_takenByLine_149 : decode cX12_takenByLine 149 = .ok (.iaload, 1) := by decide +kernel
theorem dX12_takenByLine_150 : decode cX12_takenByLine 150 = .ok (.aload_n 0, 1) := by decide +kernel
theorem dX12_takenByLine_151 : decode cX12_takenByLine 151 = .ok (.iconst 0, 1) := by decide +kernel
theorem dX12_takenByLine_152 : decode cX12_takenByLine 152 = .ok (.aload_n 0, 1) := by decide +kernel
theorem dX12_takenByLine_153 : decode cX12_takenByLine 153 = .ok (.getfield 7, 3) := by decide +kernel
theorem dX12_takenByLine_156 : decode cX12_takenByLine 156 = .ok (.bipush 51, 2) := by decide +kernel
theorem dX12_takenByLine_158 : decode cX12_takenByLine 158 = .ok (.iload 4, 2) := by decide +kernel
theorem dX12_takenByLine_160 : decode cX12_takenByLine 160 = .ok (.iadd, 1) := by decide +kernel
theorem dX12_takenByLine_161 : decode cX12_takenByLine 161 = .ok (.iaload, 1) := by decide +kernel
theorem dX12_takenByLine_162 : decode cX12_takenByLine 162 = .ok (.aload_n 0, 1) := by decide +kernel
theorem dX12_takenByLine_163 : decode cX12_takenByLine 163 = .ok (.getfield 7, 3) := by decide +kernel
theorem dX12_takenByLine_166 : decode cX12_takenByLine 166 = .ok (.bipush 55, 2) := by decide +kernel
theorem dX12_takenByLine_168 : decode cX12_takenByLine 168 = .ok (.iload 4, 2) := by decide +kernel
theorem dX12_takenByLine_170 : decode cX12_takenByLine 170 = .ok (.iadd, 1) := by decide +kernel
theorem dX12_takenByLine_171 : decode cX12_takenByLine 171 = .ok (.iaload, 1) := by decide +kernel
theorem dX12_takenByLine_172 : decode cX12_takenByLine 172 = .ok (.invokevirtual 199, 3) := by decide +kernel
theorem dX12_takenByLine_175 : decode cX12_takenByLine 175 = .ok (.invokestatic 180, 3) := by decide +kernel
theorem dX12_takenByLine_178 : decode cX12_takenByLine 178 = .ok (.goto 4, 3) := by decide +kernel
theorem dX12_takenByLine_181 : decode cX12_takenByLine 181 = .ok (.iconst 0, 1) := by decide +kernel
theorem dX12_takenByLine_182 : decode cX12_takenByLine 182 = .ok (.iadd, 1) := by decide +kernel
theorem dX12_takenByLine_183 : decode cX12_takenByLine 183 = .ok (.istore_n 1, 1) := by decide +kernel
theorem dX12_takenByLine_184 : decode cX12_takenByLine 184 = .ok (.iinc 4 1, 3) := by decide +kernel
theorem dX12_takenByLine_187 : decode cX12_takenByLine 187 = .ok (.goto (-178), 3) := by decide +kernel
theorem dX12_takenByLine_190 : decode cX12_takenByLine 190 = .ok (.iload_n 3, 1) := by decide +kernel
theorem dX12_takenByLine_191 : decode cX12_takenByLine 191 = .ok (.ifCond .eq 7, 3) := by decide +kernel
theorem dX12_takenByLine_194 : decode cX12_takenByLine 194 = .ok (.iload_n 1, 1) := by decide +kernel
theorem dX12_takenByLine_195 : decode cX12_takenByLine 195 = .ok (.goto 5, 3) := by decide +kernel
theorem dX12_takenByLine_198 : decode cX12_takenByLine 198 = .ok (.ldc 184, 2) := by decide +kernel
theorem dX12_takenByLine_200 : decode cX12_takenByLine 200 = .ok (.ireturn, 1) := by decide +kernel
theorem dX12_nextLine_0 : decode cX12_nextLine 0 = .ok (.aload_n 0, 1) := by decide +kernel
theorem dX12_nextLine_1 : decode cX12_nextLine 1 = .ok (.getfield 7, 3) := by decide +kernel
theorem dX12_nextLine_4 : decode cX12_nextLine 4 = .ok (.iconst 1, 1) := by decide +kernel
theorem dX12_nextLine_5 : decode cX12_nextLine 5 = .ok (.iaload, 1) := by decide +kernel
theorem dX12_nextLine_6 : decode cX12_nextLine 6 = .ok (.iconst 1, 1) := by decide +kernel
theorem dX12_nextLine_7 : decode cX12_nextLine 7 = .ok (.isub, 1) := by decide +kernel
theorem dX12_nextLine_8 : decode cX12_nextLine 8 = .ok (.istore_n 1, 1) := by decide +kernel
theorem dX12_nextLine_9 : decode cX12_nextLine 9 = .ok (.iload_n 1, 1) := by decide +kernel
theorem dX12_nextLine_10 : decode cX12_nextLine 10 = .ok (.ifCond .lt 31, 3) := by decide +kernel
theorem dX12_nextLine_13 : decode cX12_nextLine 13 = .ok (.aload_n 0, 1) := by decide +kernel
theorem dX12_nextLine_14 : decode cX12_nextLine 14 = .ok (.getfield 65, 3) := by decide +kernel
theorem dX12_nextLine_17 : decode cX12_nextLine 17 = .ok (.iload_n 1, 1) := by decide +kernel
theorem dX12_nextLine_18 : decode cX12_nextLine 18 = .ok (.iaload, 1) := by decide +kernel
theorem dX12_nextLine_19 : decode cX12_nextLine 19 = .ok (.aload_n 0, 1) := by decide +kernel
theorem dX12_nextLine_20 : decode cX12_nextLine 20 = .ok (.getfield 7, 3) := by decide +kernel
theorem dX12_nextLine_23 : decode cX12_nextLine 23 = .ok (.iconst 0, 1) := by decide +kernel
theorem dX12_nextLine_24 : decode cX12_nextLine 24 = .ok (.iaload, 1) := by decide +kernel
theorem dX12_nextLine_25 : decode cX12_nextLine 25 = .ok (.if_icmp .ne 16, 3) := by decide +kernel
theorem dX12_nextLine_28 : decode cX12_nextLine 28 = .ok (.aload_n 0, 1) := by decide +kernel
theorem dX12_nextLine_29 : decode cX12_nextLine 29 = .ok (.getfield 65, 3) := by decide +kernel
theorem dX12_nextLine_32 : decode cX12_nextLine 32 = .ok (.iload_n 1, 1) := by decide +kernel
theorem dX12_nextLine_33 : decode cX12_nextLine 33 = .ok (.iconst 0, 1) := by decide +kernel
theorem dX12_nextLine_34 : decode cX12_nextLine 34 = .ok (.iastore, 1) := by decide +kernel
theorem dX12_nextLine_35 : decode cX12_nextLine 35 = .ok (.iinc 1 (-1), 3) := by decide +kernel
theorem dX12_nextLine_38 : decode cX12_nextLine 38 = .ok (.goto (-29), 3) := by decide +kernel
theorem dX12_nextLine_41 : decode cX12_nextLine 41 = .ok (.iload_n 1, 1) := by decide +kernel
theorem dX12_nextLine_42 : decode cX12_nextLine 42 = .ok (.ifCond .lt 13, 3) := by decide +kernel
theorem dX12_nextLine_45 : decode cX12_nextLine 45 = .ok (.aload_n 0, 1) := by decide +kernel
theorem dX12_nextLine_46 : decode cX12_nextLine 46 = .ok (.getfield 65, 3) := by decide +kernel
theorem dX12_nextLine_49 : decode cX12_nextLine 49 = .ok (.iload_n 1, 1) := by decide +kernel
theorem dX12_nextLine_50 : decode cX12_nextLine 50 = .ok (.dup2, 1) := by decide +kernel
theorem dX12_nextLine_51 : decode cX12_nextLine 51 = .ok (.iaload, 1) := by decide +kernel
theorem dX12_nextLine_52 : decode cX12_nextLine 52 = .ok (.iconst 1, 1) := by decide +kernel
theorem dX12_nextLine_53 : decode cX12_nextLine 53 = .ok (.iadd, 1) := by decide +kernel
theorem dX12_nextLine_54 : decode cX12_nextLine 54 = .ok (.iastore, 1) := by decide +kernel
theorem dX12_nextLine_55 : decode cX12_nextLine 55 = .ok (.iload_n 1, 1) := by decide +kernel
theorem dX12_nextLine_56 : decode cX12_nextLine 56 = .ok (.ifCond .lt 7, 3) := by decide +kernel
theorem dX12_nextLine_59 : decode cX12_nextLine 59 = .ok (.iconst 1, 1) := by decide +kernel
theorem dX12_nextLine_60 : decode cX12_nextLine 60 = .ok (.goto 4, 3) := by decide +kernel
theorem dX12_nextLine_63 : decode cX12_nextLine 63 = .ok (.iconst 0, 1) := by decide +kernel
theorem dX12_nextLine_64 : decode cX12_nextLine 64 = .ok (.ireturn, 1) := by decide +kernel
theorem dX12_match_0 : decode cX12_match 0 = .ok (.iload_n 1, 1) := by decide +kernel
theorem dX12_match_1 : decode cX12_match 1 = .ok (.iconst (-1), 1) := by decide +kernel
theorem dX12_match_2 : decode cX12_match 2 = .ok (.if_icmp .eq 14, 3) := by decide +kernel
theorem dX12_match_5 : decode cX12_match 5 = .ok (.aload_n 0, 1) := by decide +kernel
theorem dX12_match_6 : decode cX12_match 6 = .ok (.iload_n 1, 1) := by decide +kernel
theorem dX12_match_7 : decode cX12_match 7 = .ok (.invokevirtual 172, 3) := by decide +kernel
theorem dX12_match_10 : decode cX12_match 10 = .ok (.ifCond .ne 6, 3) := by decide +kernel
theorem dX12_match_13 : decode cX12_match 13 = .ok (.bipush (-2), 2) := by decide +kernel
theorem dX12_match_15 : decode cX12_match 15 = .ok (.ireturn, 1) := by decide +kernel
theorem dX12_match_16 : decode cX12_match 16 = .ok (.iconst 0, 1) := by decide +kernel
theorem dX12_match_17 : decode cX12_match 17 = .ok (.istore_n 2, 1) := by decide +kernel
theorem dX12_match_18 : decode cX12_match 18 = .ok (.iload_n 2, 1) := by decide +kernel
theorem dX12_match_19 : decode cX12_match 19 = .ok (.iconst 4, 1) := by decide +kernel
theorem dX12_match_20 : decode cX12_match 20 = .ok (.if_icmp .ge 16, 3) := by decide +kernel
theorem dX12_match_23 : decode cX12_match 23 = .ok (.aload_n 0, 1) := by decide +kernel
theorem dX12_match_24 : decode cX12_match 24 = .ok (.getfield 65, 3) := by decide +kernel
theorem dX12_match_27 : decode cX12_match 27 = .ok (.iload_n 2, 1) := by decide +kernel
theorem dX12_match_28 : decode cX12_match 28 = .ok (.iconst 0, 1) := by decide +kernel
theorem dX12_match_29 : decode cX12_match 29 = .ok (.iastore, 1) := by decide +kernel
theorem dX12_match_30 : decode cX12_match 30 = .ok (.iinc 2 1, 3) := by decide +kernel
theorem dX12_match_33 : decode cX12_match 33 = .ok (.goto (-15), 3) := by decide +kernel
theorem dX12_match_36 : decode cX12_match 36 = .ok (.ldc 184, 2) := by decide +kernel
theorem dX12_match_38 : decode cX12_match 38 = .ok (.istore_n 2, 1) := by decide +kernel
theorem dX12_match_39 : decode cX12_match 39 = .ok (.iconst 1, 1) := by decide +kernel
theorem dX12_match_40 : decode cX12_match 40 = .ok (.istore_n 3, 1) := by decide +kernel
theorem dX12_match_41 : decode cX12_match 41 = .ok (.iload_n 3, 1) := by decide +kernel
theorem dX12_match_42 : decode cX12_match 42 = .ok (.ifCond .eq 55, 3) := by decide +kernel
theorem dX12_match_45 : decode cX12_match 45 = .ok (.aload_n 0, 1) := by decide +kernel
theorem dX12_match_46 : decode cX12_match 46 = .ok (.invokevirtual 250, 3) := by decide +kernel
theorem dX12_match_49 : decode cX12_match 49 = .ok (.istore 4, 2) := by decide +kernel
theorem dX12_match_51 : decode cX12_match 51 = .ok (.iload 4, 2) := by decide +kernel
theorem dX12_match_53 : decode cX12_match 53 = .ok (.iload_n 2, 1) := by decide +kernel
theorem dX12_match_54 : decode cX12_match 54 = .ok (.if_icmp .ge 35, 3) := by decide +kernel
theorem dX12_match_57 : decode cX12_match 57 = .ok (.iload 4, 2) := by decide +kernel
theorem dX12_match_59 : decode cX12_match 59 = .ok (.istore_n 2, 1) := by decide +kernel
theorem dX12_match_60 : decode cX12_match 60 = .ok (.iconst 0, 1) := by decide +kernel
theorem dX12_match_61 : decode cX12_match 61 = .ok (.istore 5, 2) := by decide +kernel
theorem dX12_match_63 : decode cX12_match 63 = .ok (.iload 5, 2) := by decide +kernel
theorem dX12_match_65 : decode cX12_match 65 = .ok (.iconst 4, 1) := by decide +kernel
theorem dX12_match_66 : decode cX12_match 66 = .ok (.if_icmp .ge 23, 3) := by decide +kernel
theorem dX12_match_69 : decode cX12_match 69 = .ok (.aload_n 0, 1) := by decide +kernel
theorem dX12_match_70 : decode cX12_match 70 = .ok (.getfield 68, 3) := by decide +kernel
theorem dX12_match_73 : decode cX12_match 73 = .ok (.iload 5, 2) := by decide +kernel
theorem dX12_match_75 : decode cX12_match 75 = .ok (.aload_n 0, 1) := by decide +kernel
theorem dX12_match_76 : decode cX12_match 76 = .ok (.getfield 65, 3) := by decide +kernel
theorem dX12_match_79 : decode cX12_match 79 = .ok (.iload 5, 2) := by decide +kernel
theorem dX12_match_81 : decode cX12_match 81 = .ok (.iaload, 1) := by decide +kernel
theorem dX12_match_82 : decode cX12_match 82 = .ok (.iastore, 1) := by decide +kernel
theorem dX12_match_83 : decode cX12_match 83 = .ok (.iinc 5 1, 3) := by decide +kernel
theorem dX12_match_86 : decode cX12_match 86 = .ok (.goto (-23), 3) := by decide +kernel
theorem dX12_match_89 : decode cX12_match 89 = .ok (.aload_n 0, 1) := by decide +kernel
theorem dX12_match_90 : decode cX12_match 90 = .ok (.invokevirtual 253, 3) := by decide +kernel
theorem dX12_match_93 : decode cX12_match 93 = .ok (.istore_n 3, 1) := by decide +kernel
theorem dX12_match_94 : decode cX12_match 94 = .ok (.goto (-53), 3) := by decide +kernel
theorem dX12_match_97 : decode cX12_match 97 = .ok (.iload_n 2, 1) := by decide +kernel
theorem dX12_match_98 : decode cX12_match 98 = .ok (.ldc 184, 2) := by decide +kernel
theorem dX12_match_100 : decode cX12_match 100 = .ok (.if_icmp .ne 5, 3) := by decide +kernel
theorem dX12_match_103 : decode cX12_match 103 = .ok (.iconst (-1), 1) := by decide +kernel
theorem dX12_match_104 : decode cX12_match 104 = .ok (.ireturn, 1) := by decide +kernel
theorem dX12_match_105 : decode cX12_match 105 = .ok (.iload_n 1, 1) := by decide +kernel
theorem dX12_match_106 : decode cX12_match 106 = .ok (.iconst (-1), 1) := by decide +kernel
theorem dX12_match_107 : decode cX12_match 107 = .ok (.if_icmp .ne 7, 3) := by decide +kernel
theorem dX12_match_110 : decode cX12_match 110 = .ok (.iload_n 2, 1) := by decide +kernel
theorem dX12_match_111 : decode cX12_match 111 = .ok (.goto 28, 3) := by decide +kernel
theorem dX12_match_114 : decode cX12_match 114 = .ok (.aload_n 0, 1) := by decide +kernel
theorem dX12_match_115 : decode cX12_match 115 = .ok (.getfield 68, 3) := by decide +kernel
theorem dX12_match_118 : decode cX12_match 118 = .ok (.iload_n 1, 1) := by decide +kernel
theorem dX12_match_119 : decode cX12_match 119 = .ok (.iaload, 1) := by decide +kernel
theorem dX12_match_120 : decode cX12_match 120 = .ok (.aload_n 0, 1) := by decide +kernel
theorem dX12_match_121 : decode cX12_match 121 = .ok (.getfield 7, 3) := by decide +kernel
theorem dX12_match_124 : decode cX12_match 124 = .ok (.iconst 0, 1) := by decide +kernel
theorem dX12_match_125 : decode cX12_match 125 = .ok (.iaload, 1) := by decide +kernel
theorem dX12_match_126 : decode cX12_match 126 = .ok (.if_icmp .ne 7, 3) := by decide +kernel
theorem dX12_match_129 : decode cX12_match 129 = .ok (.iconst (-1), 1) := by decide +kernel
theorem dX12_match_130 : decode cX12_match 130 = .ok (.goto 9, 3) := by decide +kernel
theorem dX12_match_133 : decode cX12_match 133 = .ok (.aload_n 0, 1) := by decide +kernel
theorem dX12_match_134 : decode cX12_match 134 = .ok (.getfield 68, 3) := by decide +kernel
theorem dX12_match_137 : decode cX12_match 137 = .ok (.iload_n 1, 1) := by decide +kernel
theorem dX12_match_138 : decode cX12_match 138 = .ok (.iaload, 1) := by decide +kernel
theorem dX12_match_139 : decode cX12_match 139 = .ok (.ireturn, 1) := by decide +kernel
theorem dX12_fastestAt_0 : decode cX12_fastestAt 0 = .ok (.ldc 184, 2) := by decide +kernel
theorem dX12_fastestAt_2 : decode cX12_fastestAt 2 = .ok (.istore_n 3, 1) := by decide +kernel
theorem dX12_fastestAt_3 : decode cX12_fastestAt 3 = .ok (.iconst 0, 1) := by decide +kernel
theorem dX12_fastestAt_4 : decode cX12_fastestAt 4 = .ok (.istore 4, 2) := by decide +kernel
theorem dX12_fastestAt_6 : decode cX12_fastestAt 6 = .ok (.iload 4, 2) := by decide +kernel
theorem dX12_fastestAt_8 : decode cX12_fastestAt 8 = .ok (.aload_n 0, 1) := by decide +kernel
theorem dX12_fastestAt_9 : decode cX12_fastestAt 9 = .ok (.getfield 7, 3) := by decide +kernel
theorem dX12_fastestAt_12 : decode cX12_fastestAt 12 = .ok (.iconst 0, 1) := by decide +kernel
theorem dX12_fastestAt_13 : decode cX12_fastestAt 13 = .ok (.iaload, 1) := by decide +kernel
theorem dX12_fastestAt_14 : decode cX12_fastestAt 14 = .ok (.if_icmp .ge 102, 3) := by decide +kernel
theorem dX12_fastestAt_17 : decode cX12_fastestAt 17 = .ok (.aload_n 0, 1) := by decide +kernel
theorem dX12_fastestAt_18 : decode cX12_fastestAt 18 = .ok (.getfield 7, 3) := by decide +kernel
theorem dX12_fastestAt_21 : decode cX12_fastestAt 21 = .ok (.iconst 3, 1) := by decide +kernel
theorem dX12_fastestAt_22 : decode cX12_fastestAt 22 = .ok (.iload 4, 2) := by decide +kernel
theorem dX12_fastestAt_24 : decode cX12_fastestAt 24 = .ok (.iadd, 1) := by decide +kernel
theorem dX12_fastestAt_25 : decode cX12_fastestAt 25 = .ok (.iaload, 1) := by decide +kernel
theorem dX12_fastestAt_26 : decode cX12_fastestAt 26 = .ok (.istore 5, 2) := by decide +kernel
theorem dX12_fastestAt_28 : decode cX12_fastestAt 28 = .ok (.aload_n 0, 1) := by decide +kernel
theorem dX12_fastestAt_29 : decode cX12_fastestAt 29 = .ok (.getfield 7, 3) := by decide +kernel
theorem dX12_fastestAt_32 : decode cX12_fastestAt 32 = .ok (.bipush 19, 2) := by decide +kernel
theorem dX12_fastestAt_34 : decode cX12_fastestAt 34 = .ok (.iload 4, 2) := by decide +kernel
theorem dX12_fastestAt_36 : decode cX12_fastestAt 36 = .ok (.iadd, 1) := by decide +kernel
theorem dX12_fastestAt_37 : decode cX12_fastestAt 37 = .ok (.iaload, 1) := by decide +kernel
theorem dX12_fastestAt_38 : decode cX12_fastestAt 38 = .ok (.iload_n 1, 1) := by decide +kernel
theorem dX12_fastestAt_39 : decode cX12_fastestAt 39 = .ok (.if_icmp .ne 42, 3) := by decide +kernel
theorem dX12_fastestAt_42 : decode cX12_fastestAt 42 = .ok (.aload_n 0, 1) := by decide +kernel
theorem dX12_fastestAt_43 : decode cX12_fastestAt 43 = .ok (.getfield 7, 3) := by decide +kernel
theorem dX12_fastestAt_46 : decode cX12_fastestAt 46 = .ok (.bipush 35, 2) := by decide +kernel
theorem dX12_fastestAt_48 : decode cX12_fastestAt 48 = .ok (.iload 4, 2) := by decide +kernel
theorem dX12_fastestAt_50 : decode cX12_fastestAt 50 = .ok (.iadd, 1) := by decide +kernel
theorem dX12_fastestAt_51 : decode cX12_fastestAt 51 = .ok (.iaload, 1) := by decide +kernel
theorem dX12_fastestAt_52 : decode cX12_fastestAt 52 = .ok (.ifCond .ne 29, 3) := by decide +kernel
theorem dX12_fastestAt_55 : decode cX12_fastestAt 55 = .ok (.aload_n 0, 1) := by decide +kernel
theorem dX12_fastestAt_56 : decode cX12_fastestAt 56 = .ok (.getfield 7, 3) := by decide +kernel
theorem dX12_fastestAt_59 : decode cX12_fastestAt 59 = .ok (.bipush 27, 2) := by decide +kernel
theorem dX12_fastestAt_61 : decode cX12_fastestAt 61 = .ok (.iload 4, 2) := by decide +kernel
theorem dX12_fastestAt_63 : decode cX12_fastestAt 63 = .ok (.iadd, 1) := by decide +kernel
theorem dX12_fastestAt_64 : decode cX12_fastestAt 64 = .ok (.iaload, 1) := by decide +kernel
theorem dX12_fastestAt_65 : decode cX12_fastestAt 65 = .ok (.iload 5, 2) := by decide +kernel
theorem dX12_fastestAt_67 : decode cX12_fastestAt 67 = .ok (.iload_n 2, 1) := by decide +kernel
theorem dX12_fastestAt_68 : decode cX12_fastestAt 68 = .ok (.invokestatic 206, 3) := by decide +kernel
theorem dX12_fastestAt_71 : decode cX12_fastestAt 71 = .ok (.iadd, 1) := by decide +kernel
theorem dX12_fastestAt_72 : decode cX12_fastestAt 72 = .ok (.bipush 10, 2) := by decide +kernel
theorem dX12_fastestAt_74 : decode cX12_fastestAt 74 = .ok (.if_icmp .ge 7, 3) := by decide +kernel
theorem dX12_fastestAt_77 : decode cX12_fastestAt 77 = .ok (.iconst 1, 1) := by decide +kernel
theorem dX12_fastestAt_78 : decode cX12_fastestAt 78 = .ok (.goto 4, 3) := by decide +kernel
theorem dX12_fastestAt_81 : decode cX12_fastestAt 81 = .ok (.iconst 0, 1) := by decide +kernel
theorem dX12_fastestAt_82 : decode cX12_fastestAt 82 = .ok (.istore 6, 2) := by decide +kernel
theorem dX12_fastestAt_84 : decode cX12_fastestAt 84 = .ok (.iload 6, 2) := by decide +kernel
theorem dX12_fastestAt_86 : decode cX12_fastestAt 86 = .ok (.ifCond .eq 22, 3) := by decide +kernel
theorem dX12_fastestAt_89 : decode cX12_fastestAt 89 = .ok (.iload 5, 2) := by decide +kernel
theorem dX12_fastestAt_91 : decode cX12_fastestAt 91 = .ok (.iload_n 2, 1) := by decide +kernel
theorem dX12_fastestAt_92 : decode cX12_fastestAt 92 = .ok (.invokestatic 180, 3) := by decide +kernel
theorem dX12_fastestAt_95 : decode cX12_fastestAt 95 = .ok (.iload_n 3, 1) := by decide +kernel
theorem dX12_fastestAt_96 : decode cX12_fastestAt 96 = .ok (.if_icmp .ge 12, 3) := by decide +kernel
theorem dX12_fastestAt_99 : decode cX12_fastestAt 99 = .ok (.iload 5, 2) := by decide +kernel
theorem dX12_fastestAt_101 : decode cX12_fastestAt 101 = .ok (.iload_n 2, 1) := by decide +kernel
theorem dX12_fastestAt_102 : decode cX12_fastestAt 102 = .ok (.invokestatic 180, 3) := by decide +kernel
theorem dX12_fastestAt_105 : decode cX12_fastestAt 105 = .ok (.goto 4, 3) := by decide +kernel
theorem dX12_fastestAt_108 : decode cX12_fastestAt 108 = .ok (.iload_n 3, 1) := by decide +kernel
theorem dX12_fastestAt_109 : decode cX12_fastestAt 109 = .ok (.istore_n 3, 1) := by decide +kernel
theorem dX12_fastestAt_110 : decode cX12_fastestAt 110 = .ok (.iinc 4 1, 3) := by decide +kernel
theorem dX12_fastestAt_113 : decode cX12_fastestAt 113 = .ok (.goto (-107), 3) := by decide +kernel
theorem dX12_fastestAt_116 : decode cX12_fastestAt 116 = .ok (.iload_n 3, 1) := by decide +kernel
theorem dX12_fastestAt_117 : decode cX12_fastestAt 117 = .ok (.ireturn, 1) := by decide +kernel
theorem dX12_fastest_0 : decode cX12_fastest 0 = .ok (.aload_n 0, 1) := by decide +kernel
theorem dX12_fastest_1 : decode cX12_fastest 1 = .ok (.iload_n 1, 1) := by decide +kernel
theorem dX12_fastest_2 : decode cX12_fastest 2 = .ok (.invokevirtual 172, 3) := by decide +kernel
theorem dX12_fastest_5 : decode cX12_fastest 5 = .ok (.ifCond .ne 6, 3) := by decide +kernel
theorem dX12_fastest_8 : decode cX12_fastest 8 = .ok (.bipush (-2), 2) := by decide +kernel
theorem dX12_fastest_10 : decode cX12_fastest 10 = .ok (.ireturn, 1) := by decide +kernel
theorem dX12_fastest_11 : decode cX12_fastest 11 = .ok (.iconst 0, 1) := by decide +kernel
theorem dX12_fastest_12 : decode cX12_fastest 12 = .ok (.istore_n 2, 1) := by decide +kernel
theorem dX12_fastest_13 : decode cX12_fastest 13 = .ok (.aload_n 0, 1) := by decide +kernel
theorem dX12_fastest_14 : decode cX12_fastest 14 = .ok (.getfield 7, 3) := by decide +kernel
theorem dX12_fastest_17 : decode cX12_fastest 17 = .ok (.bipush 51, 2) := by decide +kernel
theorem dX12_fastest_19 : decode cX12_fastest 19 = .ok (.iload_n 1, 1) := by decide +kernel
theorem dX12_fastest_20 : decode cX12_fastest 20 = .ok (.iadd, 1) := by decide +kernel
theorem dX12_fastest_21 : decode cX12_fastest 21 = .ok (.iaload, 1) := by decide +kernel
theorem dX12_fastest_22 : decode cX12_fastest 22 = .ok (.istore_n 3, 1) := by decide +kernel
theorem dX12_fastest_23 : decode cX12_fastest 23 = .ok (.iload_n 3, 1) := by decide +kernel
theorem dX12_fastest_24 : decode cX12_fastest 24 = .ok (.aload_n 0, 1) := by decide +kernel
theorem dX12_fastest_25 : decode cX12_fastest 25 = .ok (.getfield 7, 3) := by decide +kernel
theorem dX12_fastest_28 : decode cX12_fastest 28 = .ok (.bipush 55, 2) := by decide +kernel
theorem dX12_fastest_30 : decode cX12_fastest 30 = .ok (.iload_n 1, 1) := by decide +kernel
theorem dX12_fastest_31 : decode cX12_fastest 31 = .ok (.iadd, 1) := by decide +kernel
theorem dX12_fastest_32 : decode cX12_fastest 32 = .ok (.iaload, 1) := by decide +kernel
theorem dX12_fastest_33 : decode cX12_fastest 33 = .ok (.if_icmp .eq 43, 3) := by decide +kernel
theorem dX12_fastest_36 : decode cX12_fastest 36 = .ok (.iload_n 2, 1) := by decide +kernel
theorem dX12_fastest_37 : decode cX12_fastest 37 = .ok (.aload_n 0, 1) := by decide +kernel
theorem dX12_fastest_38 : decode cX12_fastest 38 = .ok (.iload_n 3, 1) := by decide +kernel
theorem dX12_fastest_39 : decode cX12_fastest 39 = .ok (.aload_n 0, 1) := by decide +kernel
theorem dX12_fastest_40 : decode cX12_fastest 40 = .ok (.iconst 0, 1) := by decide +kernel
theorem dX12_fastest_41 : decode cX12_fastest 41 = .ok (.iload_n 3, 1) := by decide +kernel
theorem dX12_fastest_42 : decode cX12_fastest 42 = .ok (.aload_n 0, 1) := by decide +kernel
theorem dX12_fastest_43 : decode cX12_fastest 43 = .ok (.getfield 7, 3) := by decide +kernel
theorem dX12_fastest_46 : decode cX12_fastest 46 = .ok (.bipush 55, 2) := by decide +kernel
theorem dX12_fastest_48 : decode cX12_fastest 48 = .ok (.iload_n 1, 1) := by decide +kernel
theorem dX12_fastest_49 : decode cX12_fastest 49 = .ok (.iadd, 1) := by decide +kernel
theorem dX12_fastest_50 : decode cX12_fastest 50 = .ok (.iaload, 1) := by decide +kernel
theorem dX12_fastest_51 : decode cX12_fastest 51 = .ok (.invokevirtual 199, 3) := by decide +kernel
theorem dX12_fastest_54 : decode cX12_fastest 54 = .ok (.invokevirtual 256, 3) := by decide +kernel
theorem dX12_fastest_57 : decode cX12_fastest 57 = .ok (.iadd, 1) := by decide +kernel
theorem dX12_fastest_58 : decode cX12_fastest 58 = .ok (.istore_n 2, 1) := by decide +kernel
theorem dX12_fastest_59 : decode cX12_fastest 59 = .ok (.iload_n 3, 1) := by decide +kernel
theorem dX12_fastest_60 : decode cX12_fastest 60 = .ok (.aload_n 0, 1) := by decide +kernel
theorem dX12_fastest_61 : decode cX12_fastest 61 = .ok (.getfield 7, 3) := by decide +kernel
theorem dX12_fastest_64 : decode cX12_fastest 64 = .ok (.bipush 55, 2) := by decide +kernel
theorem dX12_fastest_66 : decode cX12_fastest 66 = .ok (.iload_n 1, 1) := by decide +kernel
theorem dX12_fastest_67 : decode cX12_fastest 67 = .ok (.iadd, 1) := by decide +kernel
theorem dX12_fastest_68 : decode cX12_fastest 68 = .ok (.iaload, 1) := by decide +kernel
theorem dX12_fastest_69 : decode cX12_fastest 69 = .ok (.invokestatic 203, 3) := by decide +kernel
theorem dX12_fastest_72 : decode cX12_fastest 72 = .ok (.istore_n 3, 1) := by decide +kernel
theorem dX12_fastest_73 : decode cX12_fastest 73 = .ok (.goto (-50), 3) := by decide +kernel
theorem dX12_fastest_76 : decode cX12_fastest 76 = .ok (.iload_n 2, 1) := by decide +kernel
theorem dX12_fastest_77 : decode cX12_fastest 77 = .ok (.ldc 184, 2) := by decide +kernel
theorem dX12_fastest_79 : decode cX12_fastest 79 = .ok (.if_icmp .lt 7, 3) := by decide +kernel
theorem dX12_fastest_82 : decode cX12_fastest 82 = .ok (.iconst (-1), 1) := by decide +kernel
theorem dX12_fastest_83 : decode cX12_fastest 83 = .ok (.goto 4, 3) := by decide +kernel
theorem dX12_fastest_86 : decode cX12_fastest 86 = .ok (.iload_n 2, 1) := by decide +kernel
theorem dX12_fastest_87 : decode cX12_fastest 87 = .ok (.ireturn, 1) := by decide +kernel
theorem dX12_feed_0 : decode cX12_feed 0 = .ok (.aload_n 0, 1) := by decide +kernel
theorem dX12_feed_1 : decode cX12_feed 1 = .ok (.iload_n 1, 1) := by decide +kernel
theorem dX12_feed_2 : decode cX12_feed 2 = .ok (.invokevirtual 172, 3) := by decide +kernel
theorem dX12_feed_5 : decode cX12_feed 5 = .ok (.ifCond .ne 6, 3) := by decide +kernel
theorem dX12_feed_8 : decode cX12_feed 8 = .ok (.bipush (-2), 2) := by decide +kernel
theorem dX12_feed_10 : decode cX12_feed 10 = .ok (.ireturn, 1) := by decide +kernel
theorem dX12_feed_11 : decode cX12_feed 11 = .ok (.iload_n 2, 1) := by decide +kernel
theorem dX12_feed_12 : decode cX12_feed 12 = .ok (.i2l, 1) := by decide +kernel
theorem dX12_feed_13 : decode cX12_feed 13 = .ok (.lconst 1, 1) := by decide +kernel
theorem dX12_feed_14 : decode cX12_feed 14 = .ok (.ldc2_w 259, 3) := by decide +kernel
theorem dX12_feed_17 : decode cX12_feed 17 = .ok (.invokestatic 79, 3) := by decide +kernel
theorem dX12_feed_20 : decode cX12_feed 20 = .ok (.ifCond .ne 6, 3) := by decide +kernel
theorem dX12_feed_23 : decode cX12_feed 23 = .ok (.bipush (-3), 2) := by decide +kernel
theorem dX12_feed_25 : decode cX12_feed 25 = .ok (.ireturn, 1) := by decide +kernel
theorem dX12_feed_26 : decode cX12_feed 26 = .ok (.iconst (-1), 1) := by decide +kernel
theorem dX12_feed_27 : decode cX12_feed 27 = .ok (.istore_n 3, 1) := by decide +kernel
theorem dX12_feed_28 : decode cX12_feed 28 = .ok (.iconst 4, 1) := by decide +kernel
theorem dX12_feed_29 : decode cX12_feed 29 = .ok (.istore 4, 2) := by decide +kernel
theorem dX12_feed_31 : decode cX12_feed 31 = .ok (.iconst 0, 1) := by decide +kernel
theorem dX12_feed_32 : decode cX12_feed 32 = .ok (.istore 5, 2) := by decide +kernel
theorem dX12_feed_34 : decode cX12_feed 34 = .ok (.iload 5, 2) := by decide +kernel
theorem dX12_feed_36 : decode cX12_feed 36 = .ok (.iconst 1, 1) := by decide +kernel
theorem dX12_feed_37 : decode cX12_feed 37 = .ok (.aload_n 0, 1) := by decide +kernel
theorem dX12_feed_38 : decode cX12_feed 38 = .ok (.getfield 7, 3) := by decide +kernel
theorem dX12_feed_41 : decode cX12_feed 41 = .ok (.iconst 0, 1) := by decide +kernel
theorem dX12_feed_42 : decode cX12_feed 42 = .ok (.iaload, 1) := by decide +kernel
theorem dX12_feed_43 : decode cX12_feed 43 = .ok (.ishl, 1) := by decide +kernel
theorem dX12_feed_44 : decode cX12_feed 44 = .ok (.if_icmp .ge 108, 3) := by decide +kernel
theorem dX12_feed_47 : decode cX12_feed 47 = .ok (.iload 5, 2) := by decide +kernel
theorem dX12_feed_49 : decode cX12_feed 49 = .ok (.invokestatic 261, 3) := by decide +kernel
theorem dX12_feed_52 : decode cX12_feed 52 = .ok (.iload 4, 2) := by decide +kernel
theorem dX12_feed_54 : decode cX12_feed 54 = .ok (.if_icmp .ge 92, 3) := by decide +kernel
theorem dX12_feed_57 : decode cX12_feed 57 = .ok (.aload_n 0, 1) := by decide +kernel
theorem dX12_feed_58 : decode cX12_feed 58 = .ok (.invokevirtual 244, 3) := by decide +kernel
theorem dX12_feed_61 : decode cX12_feed 61 = .ok (.iconst 0, 1) := by decide +kernel
theorem dX12_feed_62 : decode cX12_feed 62 = .ok (.istore 6, 2) := by decide +kernel
theorem dX12_feed_64 : decode cX12_feed 64 = .ok (.iload 6, 2) := by decide +kernel
theorem dX12_feed_66 : decode cX12_feed 66 = .ok (.aload_n 0, 1) := by decide +kernel
theorem dX12_feed_67 : decode cX12_feed 67 = .ok (.getfield 7, 3) := by decide +kernel
theorem dX12_feed_70 : decode cX12_feed 70 = .ok (.iconst 0, 1) := by decide +kernel
theorem dX12_feed_71 : decode cX12_feed 71 = .ok (.iaload, 1) := by decide +kernel
theorem dX12_feed_72 : decode cX12_feed 72 = .ok (.if_icmp .ge 28, 3) := by decide +kernel
theorem dX12_feed_75 : decode cX12_feed 75 = .ok (.iload 5, 2) := by decide +kernel
theorem dX12_feed_77 : decode cX12_feed 77 = .ok (.iload 6, 2) := by decide +kernel
theorem dX12_feed_79 : decode cX12_feed 79 = .ok (.invokestatic 188, 3) := by decide +kernel
theorem dX12_feed_82 : decode cX12_feed 82 = .ok (.ifCond .eq 12, 3) := by decide +kernel
theorem dX12_feed_85 : decode cX12_feed 85 = .ok (.aload_n 0, 1) := by decide +kernel
theorem dX12_feed_86 : decode cX12_feed 86 = .ok (.sipush 840, 3) := by decide +kernel
theorem dX12_feed_89 : decode cX12_feed 89 = .ok (.iload 6, 2) := by decide +kernel
theorem dX12_feed_91 : decode cX12_feed 91 = .ok (.invokevirtual 234, 3) := by decide +kernel
theorem dX12_feed_94 : decode cX12_feed 94 = .ok (.iinc 6 1, 3) := by decide +kernel
theorem dX12_feed_97 : decode cX12_feed 97 = .ok (.goto (-33), 3) := by decide +kernel
theorem dX12_feed_100 : decode cX12_feed 100 = .ok (.aload_n 0, 1) := by decide +kernel
theorem dX12_feed_101 : decode cX12_feed 101 = .ok (.iload_n 1, 1) := by decide +kernel
theorem dX12_feed_102 : decode cX12_feed 102 = .ok (.iload_n 2, 1) := by decide +kernel
theorem dX12_feed_103 : decode cX12_feed 103 = .ok (.invokevirtual 247, 3) := by decide +kernel
theorem dX12_feed_106 : decode cX12_feed 106 = .ok (.iconst (-1), 1) := by decide +kernel
theorem dX12_feed_107 : decode cX12_feed 107 = .ok (.if_icmp .eq 7, 3) := by decide +kernel
theorem dX12_feed_110 : decode cX12_feed 110 = .ok (.iconst 1, 1) := by decide +kernel
theorem dX12_feed_111 : decode cX12_feed 111 = .ok (.goto 4, 3) := by decide +kernel
theorem dX12_feed_114 : decode cX12_feed 114 = .ok (.iconst 0, 1) := by decide +kernel
theorem dX12_feed_115 : decode cX12_feed 115 = .ok (.istore 6, 2) := by decide +kernel
theorem dX12_feed_117 : decode cX12_feed 117 = .ok (.iload 6, 2) := by decide +kernel
theorem dX12_feed_119 : decode cX12_feed 119 = .ok (.ifCond .eq 8, 3) := by decide +kernel
theorem dX12_feed_122 : decode cX12_feed 122 = .ok (.iload 5, 2) := by decide +kernel
theorem dX12_feed_124 : decode cX12_feed 124 = .ok (.goto 4, 3) := by decide +kernel
theorem dX12_feed_127 : decode cX12_feed 127 = .ok (.iload_n 3, 1) := by decide +kernel
theorem dX12_feed_128 : decode cX12_feed 128 = .ok (.istore_n 3, 1) := by decide +kernel
theorem dX12_feed_129 : decode cX12_feed 129 = .ok (.iload 6, 2) := by decide +kernel
theorem dX12_feed_131 : decode cX12_feed 131 = .ok (.ifCond .eq 11, 3) := by decide +kernel
theorem dX12_feed_134 : decode cX12_feed 134 = .ok (.iload 5, 2) := by decide +kernel
theorem dX12_feed_136 : decode cX12_feed 136 = .ok (.invokestatic 261, 3) := by decide +kernel
theorem dX12_feed_139 : decode cX12_feed 139 = .ok (.goto 5, 3) := by decide +kernel
theorem dX12_feed_142 : decode cX12_feed 142 = .ok (.iload 4, 2) := by decide +kernel
theorem dX12_feed_144 : decode cX12_feed 144 = .ok (.istore 4, 2) := by decide +kernel
theorem dX12_feed_146 : decode cX12_feed 146 = .ok (.iinc 5 1, 3) := by decide +kernel
theorem dX12_feed_149 : decode cX12_feed 149 = .ok (.goto (-115), 3) := by decide +kernel
theorem dX12_feed_152 : decode cX12_feed 152 = .ok (.iload_n 3, 1) := by decide +kernel
theorem dX12_feed_153 : decode cX12_feed 153 = .ok (.ireturn, 1) := by decide +kernel
theorem dX12_falls_0 : decode cX12_falls 0 = .ok (.iload_n 1, 1) := by decide +kernel
theorem dX12_falls_1 : decode cX12_falls 1 = .ok (.i2l, 1) := by decide +kernel
theorem dX12_falls_2 : decode cX12_falls 2 = .ok (.lconst 0, 1) := by decide +kernel
theorem dX12_falls_3 : decode cX12_falls 3 = .ok (.ldc2_w 264, 3) := by decide +kernel
theorem dX12_falls_6 : decode cX12_falls 6 = .ok (.invokestatic 79, 3) := by decide +kernel
theorem dX12_falls_9 : decode cX12_falls 9 = .ok (.ifCond .eq 38, 3) := by decide +kernel
theorem dX12_falls_12 : decode cX12_falls 12 = .ok (.iload_n 2, 1) := by decide +kernel
theorem dX12_falls_13 : decode cX12_falls 13 = .ok (.i2l, 1) := by decide +kernel
theorem dX12_falls_14 : decode cX12_falls 14 = .ok (.lconst 0, 1) := by decide +kernel
theorem dX12_falls_15 : decode cX12_falls 15 = .ok (.ldc2_w 266, 3) := by decide +kernel
theorem dX12_falls_18 : decode cX12_falls 18 = .ok (.invokestatic 79, 3) := by decide +kernel
theorem dX12_falls_21 : decode cX12_falls 21 = .ok (.ifCond .eq 26, 3) := by decide +kernel
theorem dX12_falls_24 : decode cX12_falls 24 = .ok (.iload_n 3, 1) := by decide +kernel
theorem dX12_falls_25 : decode cX12_falls 25 = .ok (.i2l, 1) := by decide +kernel
theorem dX12_falls_26 : decode cX12_falls 26 = .ok (.lconst 0, 1) := by decide +kernel
theorem dX12_falls_27 : decode cX12_falls 27 = .ok (.ldc2_w 264, 3) := by decide +kernel
theorem dX12_falls_30 : decode cX12_falls 30 = .ok (.invokestatic 79, 3) := by decide +kernel
theorem dX12_falls_33 : decode cX12_falls 33 = .ok (.ifCond .eq 14, 3) := by decide +kernel
theorem dX12_falls_36 : decode cX12_falls 36 = .ok (.iload 4, 2) := by decide +kernel
theorem dX12_falls_38 : decode cX12_falls 38 = .ok (.i2l, 1) := by decide +kernel
theorem dX12_falls_39 : decode cX12_falls 39 = .ok (.lconst 0, 1) := by decide +kernel
theorem dX12_falls_40 : decode cX12_falls 40 = .ok (.lconst 1, 1) := by decide +kernel
theorem dX12_falls_41 : decode cX12_falls 41 = .ok (.invokestatic 79, 3) := by decide +kernel
theorem dX12_falls_44 : decode cX12_falls 44 = .ok (.ifCond .ne 6, 3) := by decide +kernel
theorem dX12_falls_47 : decode cX12_falls 47 = .ok (.bipush (-3), 2) := by decide +kernel
theorem dX12_falls_49 : decode cX12_falls 49 = .ok (.ireturn, 1) := by decide +kernel
theorem dX12_falls_50 : decode cX12_falls 50 = .ok (.lconst 0, 1) := by decide +kernel
theorem dX12_falls_51 : decode cX12_falls 51 = .ok (.lstore 5, 2) := by decide +kernel
theorem dX12_falls_53 : decode cX12_falls 53 = .ok (.lconst 0, 1) := by decide +kernel
theorem dX12_falls_54 : decode cX12_falls 54 = .ok (.lstore 7, 2) := by decide +kernel
theorem dX12_falls_56 : decode cX12_falls 56 = .ok (.lconst 1, 1) := by decide +kernel
theorem dX12_falls_57 : decode cX12_falls 57 = .ok (.lstore 9, 2) := by decide +kernel
theorem dX12_falls_59 : decode cX12_falls 59 = .ok (.iconst 0, 1) := by decide +kernel
theorem dX12_falls_60 : decode cX12_falls 60 = .ok (.istore 11, 2) := by decide +kernel
theorem dX12_falls_62 : decode cX12_falls 62 = .ok (.iload 11, 2) := by decide +kernel
theorem dX12_falls_64 : decode cX12_falls 64 = .ok (.iload_n 1, 1) := by decide +kernel
theorem dX12_falls_65 : decode cX12_falls 65 = .ok (.if_icmp .gt 90, 3) := by decide +kernel
theorem dX12_falls_68 : decode cX12_falls 68 = .ok (.lload 9, 2) := by decide +kernel
theorem dX12_falls_70 : decode cX12_falls 70 = .ok (.lstore 12, 2) := by decide +kernel
theorem dX12_falls_72 : decode cX12_falls 72 = .ok (.iconst 0, 1) := by decide +kernel
theorem dX12_falls_73 : decode cX12_falls 73 = .ok (.istore 14, 2) := by decide +kernel
theorem dX12_falls_75 : decode cX12_falls 75 = .ok (.iload 14, 2) := by decide +kernel
theorem dX12_falls_77 : decode cX12_falls 77 = .ok (.iload_n 1, 1) := by decide +kernel
theorem dX12_falls_78 : decode cX12_falls 78 = .ok (.if_icmp .ge 31, 3) := by decide +kernel
theorem dX12_falls_81 : decode cX12_falls 81 = .ok (.lload 12, 2) := by decide +kernel
theorem dX12_falls_83 : decode cX12_falls 83 = .ok (.iload 14, 2) := by decide +kernel
theorem dX12_falls_85 : decode cX12_falls 85 = .ok (.iload 11, 2) := by decide +kernel
theorem dX12_falls_87 : decode cX12_falls 87 = .ok (.if_icmp .ge 8, 3) := by decide +kernel
theorem dX12_falls_90 : decode cX12_falls 90 = .ok (.iload_n 2, 1) := by decide +kernel
theorem dX12_falls_91 : decode cX12_falls 91 = .ok (.i2l, 1) := by decide +kernel
theorem dX12_falls_92 : decode cX12_falls 92 = .ok (.goto 8, 3) := by decide +kernel
theorem dX12_falls_95 : decode cX12_falls 95 = .ok (.bipush 10, 2) := by decide +kernel
theorem dX12_falls_97 : decode cX12_falls 97 = .ok (.iload_n 2, 1) := by decide +kernel
theorem dX12_falls_98 : decode cX12_falls 98 = .ok (.isub, 1) := by decide +kernel
theorem dX12_falls_99 : decode cX12_falls 99 = .ok (.i2l, 1) := by decide +kernel
theorem dX12_falls_100 : decode cX12_falls 100 = .ok (.lmul, 1) := by decide +kernel
theorem dX12_falls_101 : decode cX12_falls 101 = .ok (.lstore 12, 2) := by decide +kernel
theorem dX12_falls_103 : decode cX12_falls 103 = .ok (.iinc 14 1, 3) := by decide +kernel
theorem dX12_falls_106 : decode cX12_falls 106 = .ok (.goto (-31), 3) := by decide +kernel
theorem dX12_falls_109 : decode cX12_falls 109 = .ok (.lload 5, 2) := by decide +kernel
theorem dX12_falls_111 : decode cX12_falls 111 = .ok (.iload 11, 2) := by decide +kernel
theorem dX12_falls_113 : decode cX12_falls 113 = .ok (.iload_n 3, 1) := by decide +kernel
theorem dX12_falls_114 : decode cX12_falls 114 = .ok (.if_icmp .ge 7, 3) := by decide +kernel
theorem dX12_falls_117 : decode cX12_falls 117 = .ok (.lconst 0, 1) := by decide +kernel
theorem dX12_falls_118 : decode cX12_falls 118 = .ok (.goto 5, 3) := by decide +kernel
theorem dX12_falls_121 : decode cX12_falls 121 = .ok (.lload 12, 2) := by decide +kernel
theorem dX12_falls_123 : decode cX12_falls 123 = .ok (.ladd, 1) := by decide +kernel
theorem dX12_falls_124 : decode cX12_falls 124 = .ok (.lstore 5, 2) := by decide +kernel
theorem dX12_falls_126 : decode cX12_falls 126 = .ok (.lload 7, 2) := by decide +kernel
theorem dX12_falls_128 : decode cX12_falls 128 = .ok (.lload 12, 2) := by decide +kernel
theorem dX12_falls_130 : decode cX12_falls 130 = .ok (.ladd, 1) := by decide +kernel
theorem dX12_falls_131 : decode cX12_falls 131 = .ok (.lstore 7, 2) := by decide +kernel
theorem dX12_falls_133 : decode cX12_falls 133 = .ok (.lload 9, 2) := by decide +kernel
theorem dX12_falls_135 : decode cX12_falls 135 = .ok (.iload_n 1, 1) := by decide +kernel
theorem dX12_falls_136 : decode cX12_falls 136 = .ok (.iload 11, 2) := by decide +kernel
theorem dX12_falls_138 : decode cX12_falls 138 = .ok (.isub, 1) := by decide +kernel
theorem dX12_falls_139 : decode cX12_falls 139 = .ok (.i2l, 1) := by decide +kernel
theorem dX12_falls_140 : decode cX12_falls 140 = .ok (.lmul, 1) := by decide +kernel
theorem dX12_falls_141 : decode cX12_falls 141 = .ok (.iload 11, 2) := by decide +kernel
theorem dX12_falls_143 : decode cX12_falls 143 = .ok (.iconst 1, 1) := by decide +kernel
theorem dX12_falls_144 : decode cX12_falls 144 = .ok (.iadd, 1) := by decide +kernel
theorem dX12_falls_145 : decode cX12_falls 145 = .ok (.i2l, 1) := by decide +kernel
theorem dX12_falls_146 : decode cX12_falls 146 = .ok (.ldiv, 1) := by decide +kernel
theorem dX12_falls_147 : decode cX12_falls 147 = .ok (.lstore 9, 2) := by decide +kernel
theorem dX12_falls_149 : decode cX12_falls 149 = .ok (.iinc 11 1, 3) := by decide +kernel
theorem dX12_falls_152 : decode cX12_falls 152 = .ok (.goto (-90), 3) := by decide +kernel
theorem dX12_falls_155 : decode cX12_falls 155 = .ok (.lload 5, 2) := by decide +kernel
theorem dX12_falls_157 : decode cX12_falls 157 = .ok (.lstore 11, 2) := by decide +kernel
theorem dX12_falls_159 : decode cX12_falls 159 = .ok (.lload 7, 2) := by decide +kernel
theorem dX12_falls_161 : decode cX12_falls 161 = .ok (.lstore 13, 2) := by decide +kernel
theorem dX12_falls_163 : decode cX12_falls 163 = .ok (.lload 13, 2) := by decide +kernel
theorem dX12_falls_165 : decode cX12_falls 165 = .ok (.lconst 0, 1) := by decide +kernel
theorem dX12_falls_166 : decode cX12_falls 166 = .ok (.lcmp, 1) := by decide +kernel
theorem dX12_falls_167 : decode cX12_falls 167 = .ok (.ifCond .eq 21, 3) := by decide +kernel
theorem dX12_falls_170 : decode cX12_falls 170 = .ok (.lload 11, 2) := by decide +kernel
theorem dX12_falls_172 : decode cX12_falls 172 = .ok (.lload 13, 2) := by decide +kernel
theorem dX12_falls_174 : decode cX12_falls 174 = .ok (.lrem, 1) := by decide +kernel
theorem dX12_falls_175 : decode cX12_falls 175 = .ok (.lstore 15, 2) := by decide +kernel
theorem dX12_falls_177 : decode cX12_falls 177 = .ok (.lload 13, 2) := by decide +kernel
theorem dX12_falls_179 : decode cX12_falls 179 = .ok (.lstore 11, 2) := by decide +kernel
theorem dX12_falls_181 : decode cX12_falls 181 = .ok (.lload 15, 2) := by decide +kernel
theorem dX12_falls_183 : decode cX12_falls 183 = .ok (.lstore 13, 2) := by decide +kernel
theorem dX12_falls_185 : decode cX12_falls 185 = .ok (.goto (-22), 3) := by decide +kernel
theorem dX12_falls_188 : decode cX12_falls 188 = .ok (.iload 4, 2) := by decide +kernel
theorem dX12_falls_190 : decode cX12_falls 190 = .ok (.ifCond .ne 11, 3) := by decide +kernel
theorem dX12_falls_193 : decode cX12_falls 193 = .ok (.lload 5, 2) := by decide +kernel
theorem dX12_falls_195 : decode cX12_falls 195 = .ok (.lload 11, 2) := by decide +kernel
theorem dX12_falls_197 : decode cX12_falls 197 = .ok (.ldiv, 1) := by decide +kernel
theorem dX12_falls_198 : decode cX12_falls 198 = .ok (.goto 8, 3) := by decide +kernel
theorem dX12_falls_201 : decode cX12_falls 201 = .ok (.lload 7, 2) := by decide +kernel
theorem dX12_falls_203 : decode cX12_falls 203 = .ok (.lload 11, 2) := by decide +kernel
theorem dX12_falls_205 : decode cX12_falls 205 = .ok (.ldiv, 1) := by decide +kernel
theorem dX12_falls_206 : decode cX12_falls 206 = .ok (.l2i, 1) := by decide +kernel
theorem dX12_falls_207 : decode cX12_falls 207 = .ok (.ireturn, 1) := by decide +kernel
theorem dX12_seen_0 : decode cX12_seen 0 = .ok (.iload_n 1, 1) := by decide +kernel
theorem dX12_seen_1 : decode cX12_seen 1 = .ok (.i2l, 1) := by decide +kernel
theorem dX12_seen_2 : decode cX12_seen 2 = .ok (.lconst 1, 1) := by decide +kernel
theorem dX12_seen_3 : decode cX12_seen 3 = .ok (.ldc2_w 264, 3) := by decide +kernel
theorem dX12_seen_6 : decode cX12_seen 6 = .ok (.invokestatic 79, 3) := by decide +kernel
theorem dX12_seen_9 : decode cX12_seen 9 = .ok (.ifCond .eq 27, 3) := by decide +kernel
theorem dX12_seen_12 : decode cX12_seen 12 = .ok (.iload_n 2, 1) := by decide +kernel
theorem dX12_seen_13 : decode cX12_seen 13 = .ok (.i2l, 1) := by decide +kernel
theorem dX12_seen_14 : decode cX12_seen 14 = .ok (.lconst 0, 1) := by decide +kernel
theorem dX12_seen_15 : decode cX12_seen 15 = .ok (.ldc2_w 268, 3) := by decide +kernel
theorem dX12_seen_18 : decode cX12_seen 18 = .ok (.invokestatic 79, 3) := by decide +kernel
theorem dX12_seen_21 : decode cX12_seen 21 = .ok (.ifCond .eq 15, 3) := by decide +kernel
theorem dX12_seen_24 : decode cX12_seen 24 = .ok (.iload_n 3, 1) := by decide +kernel
theorem dX12_seen_25 : decode cX12_seen 25 = .ok (.i2l, 1) := by decide +kernel
theorem dX12_seen_26 : decode cX12_seen 26 = .ok (.lconst 0, 1) := by decide +kernel
theorem dX12_seen_27 : decode cX12_seen 27 = .ok (.ldc2_w 268, 3) := by decide +kernel
theorem dX12_seen_30 : decode cX12_seen 30 = .ok (.invokestatic 79, 3) := by decide +kernel
theorem dX12_seen_33 : decode cX12_seen 33 = .ok (.ifCond .ne 6, 3) := by decide +kernel
theorem dX12_seen_36 : decode cX12_seen 36 = .ok (.bipush (-3), 2) := by decide +kernel
theorem dX12_seen_38 : decode cX12_seen 38 = .ok (.ireturn, 1) := by decide +kernel
theorem dX12_seen_39 : decode cX12_seen 39 = .ok (.aload_n 0, 1) := by decide +kernel
theorem dX12_seen_40 : decode cX12_seen 40 = .ok (.getfield 166, 3) := by decide +kernel
theorem dX12_seen_43 : decode cX12_seen 43 = .ok (.bipush 6, 2) := by decide +kernel
theorem dX12_seen_45 : decode cX12_seen 45 = .ok (.if_icmp .ne 6, 3) := by decide +kernel
theorem dX12_seen_48 : decode cX12_seen 48 = .ok (.bipush (-5), 2) := by decide +kernel
theorem dX12_seen_50 : decode cX12_seen 50 = .ok (.ireturn, 1) := by decide +kernel
theorem dX12_seen_51 : decode cX12_seen 51 = .ok (.aload_n 0, 1) := by decide +kernel
theorem dX12_seen_52 : decode cX12_seen 52 = .ok (.getfield 20, 3) := by decide +kernel
theorem dX12_seen_55 : decode cX12_seen 55 = .ok (.aload_n 0, 1) := by decide +kernel
theorem dX12_seen_56 : decode cX12_seen 56 = .ok (.getfield 166, 3) := by decide +kernel
theorem dX12_seen_59 : decode cX12_seen 59 = .ok (.iload_n 1, 1) := by decide +kernel
theorem dX12_seen_60 : decode cX12_seen 60 = .ok (.iastore, 1) := by decide +kernel
theorem dX12_seen_61 : decode cX12_seen 61 = .ok (.aload_n 0, 1) := by decide +kernel
theorem dX12_seen_62 : decode cX12_seen 62 = .ok (.getfield 23, 3) := by decide +kernel
theorem dX12_seen_65 : decode cX12_seen 65 = .ok (.aload_n 0, 1) := by decide +kernel
theorem dX12_seen_66 : decode cX12_seen 66 = .ok (.getfield 166, 3) := by decide +kernel
theorem dX12_seen_69 : decode cX12_seen 69 = .ok (.iload_n 2, 1) := by decide +kernel
theorem dX12_seen_70 : decode cX12_seen 70 = .ok (.iastore, 1) := by decide +kernel
theorem dX12_seen_71 : decode cX12_seen 71 = .ok (.aload_n 0, 1) := by decide +kernel
theorem dX12_seen_72 : decode cX12_seen 72 = .ok (.getfield 26, 3) := by decide +kernel
theorem dX12_seen_75 : decode cX12_seen 75 = .ok (.aload_n 0, 1) := by decide +kernel
theorem dX12_seen_76 : decode cX12_seen 76 = .ok (.getfield 166, 3) := by decide +kernel
theorem dX12_seen_79 : decode cX12_seen 79 = .ok (.iload_n 3, 1) := by decide +kernel
theorem dX12_seen_80 : decode cX12_seen 80 = .ok (.iastore, 1) := by decide +kernel
theorem dX12_seen_81 : decode cX12_seen 81 = .ok (.aload_n 0, 1) := by decide +kernel
theorem dX12_seen_82 : decode cX12_seen 82 = .ok (.dup, 1) := by decide +kernel
theorem dX12_seen_83 : decode cX12_seen 83 = .ok (.getfield 166, 3) := by decide +kernel
theorem dX12_seen_86 : decode cX12_seen 86 = .ok (.iconst 1, 1) := by decide +kernel
theorem dX12_seen_87 : decode cX12_seen 87 = .ok (.iadd, 1) := by decide +kernel
theorem dX12_seen_88 : decode cX12_seen 88 = .ok (.putfield 166, 3) := by decide +kernel
theorem dX12_seen_91 : decode cX12_seen 91 = .ok (.aload_n 0, 1) := by decide +kernel
theorem dX12_seen_92 : decode cX12_seen 92 = .ok (.getfield 166, 3) := by decide +kernel
theorem dX12_seen_95 : decode cX12_seen 95 = .ok (.ireturn, 1) := by decide +kernel
theorem dX12_forget_0 : decode cX12_forget 0 = .ok (.aload_n 0, 1) := by decide +kernel
theorem dX12_forget_1 : decode cX12_forget 1 = .ok (.getfield 166, 3) := by decide +kernel
theorem dX12_forget_4 : decode cX12_forget 4 = .ok (.istore_n 1, 1) := by decide +kernel
theorem dX12_forget_5 : decode cX12_forget 5 = .ok (.aload_n 0, 1) := by decide +kernel
theorem dX12_forget_6 : decode cX12_forget 6 = .ok (.iconst 0, 1) := by decide +kernel
theorem dX12_forget_7 : decode cX12_forget 7 = .ok (.putfield 166, 3) := by decide +kernel
theorem dX12_forget_10 : decode cX12_forget 10 = .ok (.iload_n 1, 1) := by decide +kernel
theorem dX12_forget_11 : decode cX12_forget 11 = .ok (.ireturn, 1) := by decide +kernel
theorem dX12_kinds_0 : decode cX12_kinds 0 = .ok (.iconst 0, 1) := by decide +kernel
theorem dX12_kinds_1 : decode cX12_kinds 1 = .ok (.istore_n 1, 1) := by decide +kernel
theorem dX12_kinds_2 : decode cX12_kinds 2 = .ok (.iconst 0, 1) := by decide +kernel
theorem dX12_kinds_3 : decode cX12_kinds 3 = .ok (.istore_n 2, 1) := by decide +kernel
theorem dX12_kinds_4 : decode cX12_kinds 4 = .ok (.iload_n 2, 1) := by decide +kernel
theorem dX12_kinds_5 : decode cX12_kinds 5 = .ok (.iconst 5, 1) := by decide +kernel
theorem dX12_kinds_6 : decode cX12_kinds 6 = .ok (.if_icmp .ge 95, 3) := by decide +kernel
theorem dX12_kinds_9 : decode cX12_kinds 9 = .ok (.iconst 1, 1) := by decide +kernel
theorem dX12_kinds_10 : decode cX12_kinds 10 = .ok (.istore_n 3, 1) := by decide +kernel
theorem dX12_kinds_11 : decode cX12_kinds 11 = .ok (.iconst 0, 1) := by decide +kernel
theorem dX12_kinds_12 : decode cX12_kinds 12 = .ok (.istore 4, 2) := by decide +kernel
theorem dX12_kinds_14 : decode cX12_kinds 14 = .ok (.iload 4, 2) := by decide +kernel
theorem dX12_kinds_16 : decode cX12_kinds 16 = .ok (.aload_n 0, 1) := by decide +kernel
theorem dX12_kinds_17 : decode cX12_kinds 17 = .ok (.getfield 166, 3) := by decide +kernel
theorem dX12_kinds_20 : decode cX12_kinds 20 = .ok (.if_icmp .ge 61, 3) := by decide +kernel
theorem dX12_kinds_23 : decode cX12_kinds 23 = .ok (.iload_n 3, 1) := by decide +kernel
theorem dX12_kinds_24 : decode cX12_kinds 24 = .ok (.ifCond .eq 49, 3) := by decide +kernel
theorem dX12_kinds_27 : decode cX12_kinds 27 = .ok (.iload_n 2, 1) := by decide +kernel
theorem dX12_kinds_28 : decode cX12_kinds 28 = .ok (.aload_n 0, 1) := by decide +kernel
theorem dX12_kinds_29 : decode cX12_kinds 29 = .ok (.getfield 20, 3) := by decide +kernel
theorem dX12_kinds_32 : decode cX12_kinds 32 = .ok (.iload 4, 2) := by decide +kernel
theorem dX12_kinds_34 : decode cX12_kinds 34 = .ok (.iaload, 1) := by decide +kernel
theorem dX12_kinds_35 : decode cX12_kinds 35 = .ok (.invokestatic 180, 3) := by decide +kernel
theorem dX12_kinds_38 : decode cX12_kinds 38 = .ok (.aload_n 0, 1) := by decide +kernel
theorem dX12_kinds_39 : decode cX12_kinds 39 = .ok (.getfield 23, 3) := by decide +kernel
theorem dX12_kinds_42 : decode cX12_kinds 42 = .ok (.iload 4, 2) := by decide +kernel
theorem dX12_kinds_44 : decode cX12_kinds 44 = .ok (.iaload, 1) := by decide +kernel
theorem dX12_kinds_45 : decode cX12_kinds 45 = .ok (.if_icmp .ne 28, 3) := by decide +kernel
theorem dX12_kinds_48 : decode cX12_kinds 48 = .ok (.iload_n 2, 1) := by decide +kernel
theorem dX12_kinds_49 : decode cX12_kinds 49 = .ok (.aload_n 0, 1) := by decide +kernel
theorem dX12_kinds_50 : decode cX12_kinds 50 = .ok (.getfield 20, 3) := by decide +kernel
theorem dX12_kinds_53 : decode cX12_kinds 53 = .ok (.iload 4, 2) := by decide +kernel
theorem dX12_kinds_55 : decode cX12_kinds 55 = .ok (.iaload, 1) := by decide +kernel
theorem dX12_kinds_56 : decode cX12_kinds 56 = .ok (.invokestatic 206, 3) := by decide +kernel
theorem dX12_kinds_59 : decode cX12_kinds 59 = .ok (.aload_n 0, 1) := by decide +kernel
theorem dX12_kinds_60 : decode cX12_kinds 60 = .ok (.getfield 26, 3) := by decide +kernel
theorem dX12_kinds_63 : decode cX12_kinds 63 = .ok (.iload 4, 2) := by decide +kernel
theorem dX12_kinds_65 : decode cX12_kinds 65 = .ok (.iaload, 1) := by decide +kernel
theorem dX12_kinds_66 : decode cX12_kinds 66 = .ok (.if_icmp .ne 7, 3) := by decide +kernel
theorem dX12_kinds_69 : decode cX12_kinds 69 = .ok (.iconst 1, 1) := by decide +kernel
theorem dX12_kinds_70 : decode cX12_kinds 70 = .ok (.goto 4, 3) := by decide +kernel
theorem dX12_kinds_73 : decode cX12_kinds 73 = .ok (.iconst 0, 1) := by decide +kernel
theorem dX12_kinds_74 : decode cX12_kinds 74 = .ok (.istore_n 3, 1) := by decide +kernel
theorem dX12_kinds_75 : decode cX12_kinds 75 = .ok (.iinc 4 1, 3) := by decide +kernel
theorem dX12_kinds_78 : decode cX12_kinds 78 = .ok (.goto (-64), 3) := by decide +kernel
theorem dX12_kinds_81 : decode cX12_kinds 81 = .ok (.iload_n 1, 1) := by decide +kernel
theorem dX12_kinds_82 : decode cX12_kinds 82 = .ok (.iload_n 3, 1) := by decide +kernel
theorem dX12_kinds_83 : decode cX12_kinds 83 = .ok (.ifCond .eq 9, 3) := by decide +kernel
theorem dX12_kinds_86 : decode cX12_kinds 86 = .ok (.iconst 1, 1) := by decide +kernel
theorem dX12_kinds_87 : decode cX12_kinds 87 = .ok (.iload_n 2, 1) := by decide +kernel
theorem dX12_kinds_88 : decode cX12_kinds 88 = .ok (.ishl, 1) := by decide +kernel
theorem dX12_kinds_89 : decode cX12_kinds 89 = .ok (.goto 4, 3) := by decide +kernel
theorem dX12_kinds_92 : decode cX12_kinds 92 = .ok (.iconst 0, 1) := by decide +kernel
theorem dX12_kinds_93 : decode cX12_kinds 93 = .ok (.ior, 1) := by decide +kernel
theorem dX12_kinds_94 : decode cX12_kinds 94 = .ok (.istore_n 1, 1) := by decide +kernel
theorem dX12_kinds_95 : decode cX12_kinds 95 = .ok (.iinc 2 1, 3) := by decide +kernel
theorem dX12_kinds_98 : decode cX12_kinds 98 = .ok (.goto (-94), 3) := by decide +kernel
theorem dX12_kinds_101 : decode cX12_kinds 101 = .ok (.iload_n 1, 1) := by decide +kernel
theorem dX12_kinds_102 : decode cX12_kinds 102 = .ok (.ireturn, 1) := by decide +kernel
theorem dX12_greatestPart_0 : decode cX12_greatestPart 0 = .ok (.iconst 0, 1) := by decide +kernel
theorem dX12_greatestPart_1 : decode cX12_greatestPart 1 = .ok (.istore_n 2, 1) := by decide +kernel
theorem dX12_greatestPart_2 : decode cX12_greatestPart 2 = .ok (.iconst 0, 1) := by decide +kernel
theorem dX12_greatestPart_3 : decode cX12_greatestPart 3 = .ok (.istore_n 3, 1) := by decide +kernel
theorem dX12_greatestPart_4 : decode cX12_greatestPart 4 = .ok (.iload_n 3, 1) := by decide +kernel
theorem dX12_greatestPart_5 : decode cX12_greatestPart 5 = .ok (.iconst 5, 1) := by decide +kernel
theorem dX12_greatestPart_6 : decode cX12_greatestPart 6 = .ok (.if_icmp .ge 95, 3) := by decide +kernel
theorem dX12_greatestPart_9 : decode cX12_greatestPart 9 = .ok (.iconst 0, 1) := by decide +kernel
theorem dX12_greatestPart_10 : decode cX12_greatestPart 10 = .ok (.istore 4, 2) := by decide +kernel
theorem dX12_greatestPart_12 : decode cX12_greatestPart 12 = .ok (.iconst 0, 1) := by decide +kernel
theorem dX12_greatestPart_13 : decode cX12_greatestPart 13 = .ok (.istore 5, 2) := by decide +kernel
theorem dX12_greatestPart_15 : decode cX12_greatestPart 15 = .ok (.iload 5, 2) := by decide +kernel
theorem dX12_greatestPart_17 : decode cX12_greatestPart 17 = .ok (.iconst 5, 1) := by decide +kernel
theorem dX12_greatestPart_18 : decode cX12_greatestPart 18 = .ok (.if_icmp .ge 64, 3) := by decide +kernel
theorem dX12_greatestPart_21 : decode cX12_greatestPart 21 = .ok (.iload 4, 2) := by decide +kernel
theorem dX12_greatestPart_23 : decode cX12_greatestPart 23 = .ok (.iload_n 0, 1) := by decide +kernel
theorem dX12_greatestPart_24 : decode cX12_greatestPart 24 = .ok (.iload_n 3, 1) := by decide +kernel
theorem dX12_greatestPart_25 : decode cX12_greatestPart 25 = .ok (.invokestatic 188, 3) := by decide +kernel
theorem dX12_greatestPart_28 : decode cX12_greatestPart 28 = .ok (.ifCond .eq 44, 3) := by decide +kernel
theorem dX12_greatestPart_31 : decode cX12_greatestPart 31 = .ok (.iload_n 0, 1) := by decide +kernel
theorem dX12_greatestPart_32 : decode cX12_greatestPart 32 = .ok (.iload 5, 2) := by decide +kernel
theorem dX12_greatestPart_34 : decode cX12_greatestPart 34 = .ok (.invokestatic 188, 3) := by decide +kernel
theorem dX12_greatestPart_37 : decode cX12_greatestPart 37 = .ok (.ifCond .eq 35, 3) := by decide +kernel
theorem dX12_greatestPart_40 : decode cX12_greatestPart 40 = .ok (.iload_n 3, 1) := by decide +kernel
theorem dX12_greatestPart_41 : decode cX12_greatestPart 41 = .ok (.iload_n 1, 1) := by decide +kernel
theorem dX12_greatestPart_42 : decode cX12_greatestPart 42 = .ok (.invokestatic 180, 3) := by decide +kernel
theorem dX12_greatestPart_45 : decode cX12_greatestPart 45 = .ok (.iload 5, 2) := by decide +kernel
theorem dX12_greatestPart_47 : decode cX12_greatestPart 47 = .ok (.iload_n 1, 1) := by decide +kernel
theorem dX12_greatestPart_48 : decode cX12_greatestPart 48 = .ok (.invokestatic 180, 3) := by decide +kernel
theorem dX12_greatestPart_51 : decode cX12_greatestPart 51 = .ok (.if_icmp .ne 21, 3) := by decide +kernel
theorem dX12_greatestPart_54 : decode cX12_greatestPart 54 = .ok (.iload_n 3, 1) := by decide +kernel
theorem dX12_greatestPart_55 : decode cX12_greatestPart 55 = .ok (.iload_n 1, 1) := by decide +kernel
theorem dX12_greatestPart_56 : decode cX12_greatestPart 56 = .ok (.invokestatic 206, 3) := by decide +kernel
theorem dX12_greatestPart_59 : decode cX12_greatestPart 59 = .ok (.iload 5, 2) := by decide +kernel
theorem dX12_greatestPart_61 : decode cX12_greatestPart 61 = .ok (.iload_n 1, 1) := by decide +kernel
theorem dX12_greatestPart_62 : decode cX12_greatestPart 62 = .ok (.invokestatic 206, 3) := by decide +kernel
theorem dX12_greatestPart_65 : decode cX12_greatestPart 65 = .ok (.if_icmp .ne 7, 3) := by decide +kernel
theorem dX12_greatestPart_68 : decode cX12_greatestPart 68 = .ok (.iconst 1, 1) := by decide +kernel
theorem dX12_greatestPart_69 : decode cX12_greatestPart 69 = .ok (.goto 4, 3) := by decide +kernel
theorem dX12_greatestPart_72 : decode cX12_greatestPart 72 = .ok (.iconst 0, 1) := by decide +kernel
theorem dX12_greatestPart_73 : decode cX12_greatestPart 73 = .ok (.iadd, 1) := by decide +kernel
theorem dX12_greatestPart_74 : decode cX12_greatestPart 74 = .ok (.istore 4, 2) := by decide +kernel
theorem dX12_greatestPart_76 : decode cX12_greatestPart 76 = .ok (.iinc 5 1, 3) := by decide +kernel
theorem dX12_greatestPart_79 : decode cX12_greatestPart 79 = .ok (.goto (-64), 3) := by decide +kernel
theorem dX12_greatestPart_82 : decode cX12_greatestPart 82 = .ok (.iload 4, 2) := by decide +kernel
theorem dX12_greatestPart_84 : decode cX12_greatestPart 84 = .ok (.iload_n 2, 1) := by decide +kernel
theorem dX12_greatestPart_85 : decode cX12_greatestPart 85 = .ok (.if_icmp .le 8, 3) := by decide +kernel
theorem dX12_greatestPart_88 : decode cX12_greatestPart 88 = .ok (.iload 4, 2) := by decide +kernel
theorem dX12_greatestPart_90 : decode cX12_greatestPart 90 = .ok (.goto 4, 3) := by decide +kernel
theorem dX12_greatestPart_93 : decode cX12_greatestPart 93 = .ok (.iload_n 2, 1) := by decide +kernel
theorem dX12_greatestPart_94 : decode cX12_greatestPart 94 = .ok (.istore_n 2, 1) := by decide +kernel
theorem dX12_greatestPart_95 : decode cX12_greatestPart 95 = .ok (.iinc 3 1, 3) := by decide +kernel
theorem dX12_greatestPart_98 : decode cX12_greatestPart 98 = .ok (.goto (-94), 3) := by decide +kernel
theorem dX12_greatestPart_101 : decode cX12_greatestPart 101 = .ok (.iload_n 2, 1) := by decide +kernel
theorem dX12_greatestPart_102 : decode cX12_greatestPart 102 = .ok (.ireturn, 1) := by decide +kernel
theorem dX12_ask_0 : decode cX12_ask 0 = .ok (.aload_n 0, 1) := by decide +kernel
theorem dX12_ask_1 : decode cX12_ask 1 = .ok (.invokevirtual 270, 3) := by decide +kernel
theorem dX12_ask_4 : decode cX12_ask 4 = .ok (.istore_n 1, 1) := by decide +kernel
theorem dX12_ask_5 : decode cX12_ask 5 = .ok (.iconst (-1), 1) := by decide +kernel
theorem dX12_ask_6 : decode cX12_ask 6 = .ok (.istore_n 2, 1) := by decide +kernel
theorem dX12_ask_7 : decode cX12_ask 7 = .ok (.iload_n 1, 1) := by decide +kernel
theorem dX12_ask_8 : decode cX12_ask 8 = .ok (.invokestatic 261, 3) := by decide +kernel
theorem dX12_ask_11 : decode cX12_ask 11 = .ok (.istore_n 3, 1) := by decide +kernel
theorem dX12_ask_12 : decode cX12_ask 12 = .ok (.iconst 1, 1) := by decide +kernel
theorem dX12_ask_13 : decode cX12_ask 13 = .ok (.istore 4, 2) := by decide +kernel
theorem dX12_ask_15 : decode cX12_ask 15 = .ok (.iload 4, 2) := by decide +kernel
theorem dX12_ask_17 : decode cX12_ask 17 = .ok (.bipush 10, 2) := by decide +kernel
theorem dX12_ask_19 : decode cX12_ask 19 = .ok (.if_icmp .ge 43, 3) := by decide +kernel
theorem dX12_ask_22 : decode cX12_ask 22 = .ok (.iload_n 1, 1) := by decide +kernel
theorem dX12_ask_23 : decode cX12_ask 23 = .ok (.iload 4, 2) := by decide +kernel
theorem dX12_ask_25 : decode cX12_ask 25 = .ok (.invokestatic 273, 3) := by decide +kernel
theorem dX12_ask_28 : decode cX12_ask 28 = .ok (.istore 5, 2) := by decide +kernel
theorem dX12_ask_30 : decode cX12_ask 30 = .ok (.iload 5, 2) := by decide +kernel
theorem dX12_ask_32 : decode cX12_ask 32 = .ok (.iload_n 3, 1) := by decide +kernel
theorem dX12_ask_33 : decode cX12_ask 33 = .ok (.if_icmp .ge 8, 3) := by decide +kernel
theorem dX12_ask_36 : decode cX12_ask 36 = .ok (.iload 4, 2) := by decide +kernel
theorem dX12_ask_38 : decode cX12_ask 38 = .ok (.goto 4, 3) := by decide +kernel
theorem dX12_ask_41 : decode cX12_ask 41 = .ok (.iload_n 2, 1) := by decide +kernel
theorem dX12_ask_42 : decode cX12_ask 42 = .ok (.istore_n 2, 1) := by decide +kernel
theorem dX12_ask_43 : decode cX12_ask 43 = .ok (.iload 5, 2) := by decide +kernel
theorem dX12_ask_45 : decode cX12_ask 45 = .ok (.iload_n 3, 1) := by decide +kernel
theorem dX12_ask_46 : decode cX12_ask 46 = .ok (.if_icmp .ge 8, 3) := by decide +kernel
theorem dX12_ask_49 : decode cX12_ask 49 = .ok (.iload 5, 2) := by decide +kernel
theorem dX12_ask_51 : decode cX12_ask 51 = .ok (.goto 4, 3) := by decide +kernel
theorem dX12_ask_54 : decode cX12_ask 54 = .ok (.iload_n 3, 1) := by decide +kernel
theorem dX12_ask_55 : decode cX12_ask 55 = .ok (.istore_n 3, 1) := by decide +kernel
theorem dX12_ask_56 : decode cX12_ask 56 = .ok (.iinc 4 1, 3) := by decide +kernel
theorem dX12_ask_59 : decode cX12_ask 59 = .ok (.goto (-44), 3) := by decide +kernel
theorem dX12_ask_62 : decode cX12_ask 62 = .ok (.iload_n 2, 1) := by decide +kernel
theorem dX12_ask_63 : decode cX12_ask 63 = .ok (.ireturn, 1) := by decide +kernel
theorem dX12_isBook_0 : decode cX12_isBook 0 = .ok (.iload_n 0, 1) := by decide +kernel
theorem dX12_isBook_1 : decode cX12_isBook 1 = .ok (.i2l, 1) := by decide +kernel
theorem dX12_isBook_2 : decode cX12_isBook 2 = .ok (.lconst 0, 1) := by decide +kernel
theorem dX12_isBook_3 : decode cX12_isBook 3 = .ok (.ldc2_w 276, 3) := by decide +kernel
theorem dX12_isBook_6 : decode cX12_isBook 6 = .ok (.invokestatic 79, 3) := by decide +kernel
theorem dX12_isBook_9 : decode cX12_isBook 9 = .ok (.ireturn, 1) := by decide +kernel
theorem dX12_book_0 : decode cX12_book 0 = .ok (.iload_n 1, 1) := by decide +kernel
theorem dX12_book_1 : decode cX12_book 1 = .ok (.invokestatic 278, 3) := by decide +kernel
theorem dX12_book_4 : decode cX12_book 4 = .ok (.ifCond .ne 6, 3) := by decide +kernel
theorem dX12_book_7 : decode cX12_book 7 = .ok (.bipush (-2), 2) := by decide +kernel
theorem dX12_book_9 : decode cX12_book 9 = .ok (.ireturn, 1) := by decide +kernel
theorem dX12_book_10 : decode cX12_book 10 = .ok (.iload_n 2, 1) := by decide +kernel
theorem dX12_book_11 : decode cX12_book 11 = .ok (.bipush 10, 2) := by decide +kernel
theorem dX12_book_13 : decode cX12_book 13 = .ok (.if_icmp .le 6, 3) := by decide +kernel
theorem dX12_book_16 : decode cX12_book 16 = .ok (.bipush (-3), 2) := by decide +kernel
theorem dX12_book_18 : decode cX12_book 18 = .ok (.ireturn, 1) := by decide +kernel
theorem dX12_book_19 : decode cX12_book 19 = .ok (.iload_n 2, 1) := by decide +kernel
theorem dX12_book_20 : decode cX12_book 20 = .ok (.ifCond .ge 6, 3) := by decide +kernel
theorem dX12_book_23 : decode cX12_book 23 = .ok (.bipush (-15), 2) := by decide +kernel
theorem dX12_book_25 : decode cX12_book 25 = .ok (.ireturn, 1) := by decide +kernel
theorem dX12_book_26 : decode cX12_book 26 = .ok (.aload_n 0, 1) := by decide +kernel
theorem dX12_book_27 : decode cX12_book 27 = .ok (.getfield 29, 3) := by decide +kernel
theorem dX12_book_30 : decode cX12_book 30 = .ok (.iload_n 1, 1) := by decide +kernel
theorem dX12_book_31 : decode cX12_book 31 = .ok (.iload_n 2, 1) := by decide +kernel
theorem dX12_book_32 : decode cX12_book 32 = .ok (.iastore, 1) := by decide +kernel
theorem dX12_book_33 : decode cX12_book 33 = .ok (.iconst 0, 1) := by decide +kernel
theorem dX12_book_34 : decode cX12_book 34 = .ok (.istore_n 3, 1) := by decide +kernel
theorem dX12_book_35 : decode cX12_book 35 = .ok (.iload_n 3, 1) := by decide +kernel
theorem dX12_book_36 : decode cX12_book 36 = .ok (.bipush 10, 2) := by decide +kernel
theorem dX12_book_38 : decode cX12_book 38 = .ok (.if_icmp .ge 21, 3) := by decide +kernel
theorem dX12_book_41 : decode cX12_book 41 = .ok (.aload_n 0, 1) := by decide +kernel
theorem dX12_book_42 : decode cX12_book 42 = .ok (.getfield 32, 3) := by decide +kernel
theorem dX12_book_45 : decode cX12_book 45 = .ok (.bipush 10, 2) := by decide +kernel
theorem dX12_book_47 : decode cX12_book 47 = .ok (.iload_n 1, 1) := by decide +kernel
theorem dX12_book_48 : decode cX12_book 48 = .ok (.imul, 1) := by decide +kernel
theorem dX12_book_49 : decode cX12_book 49 = .ok (.iload_n 3, 1) := by decide +kernel
theorem dX12_book_50 : decode cX12_book 50 = .ok (.iadd, 1) := by decide +kernel
theorem dX12_book_51 : decode cX12_book 51 = .ok (.iconst (-1), 1) := by decide +kernel
theorem dX12_book_52 : decode cX12_book 52 = .ok (.iastore, 1) := by decide +kernel
theorem dX12_book_53 : decode cX12_book 53 = .ok (.iinc 3 1, 3) := by decide +kernel
theorem dX12_book_56 : decode cX12_book 56 = .ok (.goto (-21), 3) := by decide +kernel
theorem dX12_book_59 : decode cX12_book 59 = .ok (.iload_n 2, 1) := by decide +kernel
theorem dX12_book_60 : decode cX12_book 60 = .ok (.ireturn, 1) := by decide +kernel
theorem dX12_noLine_0 : decode cX12_noLine 0 = .ok (.aload_n 0, 1) := by decide +kernel
theorem dX12_noLine_1 : decode cX12_noLine 1 = .ok (.getfield 29, 3) := by decide +kernel
theorem dX12_noLine_4 : decode cX12_noLine 4 = .ok (.iload_n 1, 1) := by decide +kernel
theorem dX12_noLine_5 : decode cX12_noLine 5 = .ok (.iaload, 1) := by decide +kernel
theorem dX12_noLine_6 : decode cX12_noLine 6 = .ok (.ifCond .ge 8, 3) := by decide +kernel
theorem dX12_noLine_9 : decode cX12_noLine 9 = .ok (.bipush (-11), 2) := by decide +kernel
theorem dX12_noLine_11 : decode cX12_noLine 11 = .ok (.goto 27, 3) := by decide +kernel
theorem dX12_noLine_14 : decode cX12_noLine 14 = .ok (.iload_n 2, 1) := by decide +kernel
theorem dX12_noLine_15 : decode cX12_noLine 15 = .ok (.i2l, 1) := by decide +kernel
theorem dX12_noLine_16 : decode cX12_noLine 16 = .ok (.lconst 0, 1) := by decide +kernel
theorem dX12_noLine_17 : decode cX12_noLine 17 = .ok (.aload_n 0, 1) := by decide +kernel
theorem dX12_noLine_18 : decode cX12_noLine 18 = .ok (.getfield 29, 3) := by decide +kernel
theorem dX12_noLine_21 : decode cX12_noLine 21 = .ok (.iload_n 1, 1) := by decide +kernel
theorem dX12_noLine_22 : decode cX12_noLine 22 = .ok (.iaload, 1) := by decide +kernel
theorem dX12_noLine_23 : decode cX12_noLine 23 = .ok (.iconst 1, 1) := by decide +kernel
theorem dX12_noLine_24 : decode cX12_noLine 24 = .ok (.isub, 1) := by decide +kernel
theorem dX12_noLine_25 : decode cX12_noLine 25 = .ok (.i2l, 1) := by decide +kernel
theorem dX12_noLine_26 : decode cX12_noLine 26 = .ok (.invokestatic 79, 3) := by decide +kernel
theorem dX12_noLine_29 : decode cX12_noLine 29 = .ok (.ifCond .eq 7, 3) := by decide +kernel
theorem dX12_noLine_32 : decode cX12_noLine 32 = .ok (.iconst 0, 1) := by decide +kernel
theorem dX12_noLine_33 : decode cX12_noLine 33 = .ok (.goto 5, 3) := by decide +kernel
theorem dX12_noLine_36 : decode cX12_noLine 36 = .ok (.bipush (-12), 2) := by decide +kernel
theorem dX12_noLine_38 : decode cX12_noLine 38 = .ok (.ireturn, 1) := by decide +kernel
theorem dX12_enter_0 : decode cX12_enter 0 = .ok (.iload_n 1, 1) := by decide +kernel
theorem dX12_enter_1 : decode cX12_enter 1 = .ok (.invokestatic 278, 3) := by decide +kernel
theorem dX12_enter_4 : decode cX12_enter 4 = .ok (.ifCond .eq 30, 3) := by decide +kernel
theorem dX12_enter_7 : decode cX12_enter 7 = .ok (.iload_n 3, 1) := by decide +kernel
theorem dX12_enter_8 : decode cX12_enter 8 = .ok (.iconst 1, 1) := by decide +kernel
theorem dX12_enter_9 : decode cX12_enter 9 = .ok (.if_icmp .ne 12, 3) := by decide +kernel
theorem dX12_enter_12 : decode cX12_enter 12 = .ok (.aload_n 0, 1) := by decide +kernel
theorem dX12_enter_13 : decode cX12_enter 13 = .ok (.iload 4, 2) := by decide +kernel
theorem dX12_enter_15 : decode cX12_enter 15 = .ok (.invokevirtual 169, 3) := by decide +kernel
theorem dX12_enter_18 : decode cX12_enter 18 = .ok (.ifCond .eq 16, 3) := by decide +kernel
theorem dX12_enter_21 : decode cX12_enter 21 = .ok (.iload_n 3, 1) := by decide +kernel
theorem dX12_enter_22 : decode cX12_enter 22 = .ok (.iconst 2, 1) := by decide +kernel
theorem dX12_enter_23 : decode cX12_enter 23 = .ok (.if_icmp .ne 14, 3) := by decide +kernel
theorem dX12_enter_26 : decode cX12_enter 26 = .ok (.iload 4, 2) := by decide +kernel
theorem dX12_enter_28 : decode cX12_enter 28 = .ok (.invokestatic 278, 3) := by decide +kernel
theorem dX12_enter_31 : decode cX12_enter 31 = .ok (.ifCond .ne 6, 3) := by decide +kernel
theorem dX12_enter_34 : decode cX12_enter 34 = .ok (.bipush (-2), 2) := by decide +kernel
theorem dX12_enter_36 : decode cX12_enter 36 = .ok (.ireturn, 1) := by decide +kernel
theorem dX12_enter_37 : decode cX12_enter 37 = .ok (.iload_n 3, 1) := by decide +kernel
theorem dX12_enter_38 : decode cX12_enter 38 = .ok (.i2l, 1) := by decide +kernel
theorem dX12_enter_39 : decode cX12_enter 39 = .ok (.lconst 0, 1) := by decide +kernel
theorem dX12_enter_40 : decode cX12_enter 40 = .ok (.ldc2_w 276, 3) := by decide +kernel
theorem dX12_enter_43 : decode cX12_enter 43 = .ok (.invokestatic 79, 3) := by decide +kernel
theorem dX12_enter_46 : decode cX12_enter 46 = .ok (.ifCond .eq 22, 3) := by decide +kernel
theorem dX12_enter_49 : decode cX12_enter 49 = .ok (.iload_n 3, 1) := by decide +kernel
theorem dX12_enter_50 : decode cX12_enter 50 = .ok (.ifCond .ne 21, 3) := by decide +kernel
theorem dX12_enter_53 : decode cX12_enter 53 = .ok (.iload 4, 2) := by decide +kernel
theorem dX12_enter_55 : decode cX12_enter 55 = .ok (.i2l, 1) := by decide +kernel
theorem dX12_enter_56 : decode cX12_enter 56 = .ok (.ldc2_w 281, 3) := by decide +kernel
theorem dX12_enter_59 : decode cX12_enter 59 = .ok (.ldc2_w 283, 3) := by decide +kernel
theorem dX12_enter_62 : decode cX12_enter 62 = .ok (.invokestatic 79, 3) := by decide +kernel
theorem dX12_enter_65 : decode cX12_enter 65 = .ok (.ifCond .ne 6, 3) := by decide +kernel
theorem dX12_enter_68 : decode cX12_enter 68 = .ok (.bipush (-3), 2) := by decide +kernel
theorem dX12_enter_70 : decode cX12_enter 70 = .ok (.ireturn, 1) := by decide +kernel
theorem dX12_enter_71 : decode cX12_enter 71 = .ok (.aload_n 0, 1) := by decide +kernel
theorem dX12_enter_72 : decode cX12_enter 72 = .ok (.iload_n 1, 1) := by decide +kernel
theorem dX12_enter_73 : decode cX12_enter 73 = .ok (.iload_n 2, 1) := by decide +kernel
theorem dX12_enter_74 : decode cX12_enter 74 = .ok (.invokevirtual 285, 3) := by decide +kernel
theorem dX12_enter_77 : decode cX12_enter 77 = .ok (.istore 5, 2) := by decide +kernel
theorem dX12_enter_79 : decode cX12_enter 79 = .ok (.iload 5, 2) := by decide +kernel
theorem dX12_enter_81 : decode cX12_enter 81 = .ok (.ifCond .eq 6, 3) := by decide +kernel
theorem dX12_enter_84 : decode cX12_enter 84 = .ok (.iload 5, 2) := by decide +kernel
theorem dX12_enter_86 : decode cX12_enter 86 = .ok (.ireturn, 1) := by decide +kernel
theorem dX12_enter_87 : decode cX12_enter 87 = .ok (.aload_n 0, 1) := by decide +kernel
theorem dX12_enter_88 : decode cX12_enter 88 = .ok (.getfield 32, 3) := by decide +kernel
theorem dX12_enter_91 : decode cX12_enter 91 = .ok (.bipush 10, 2) := by decide +kernel
theorem dX12_enter_93 : decode cX12_enter 93 = .ok (.iload_n 1, 1) := by decide +kernel
theorem dX12_enter_94 : decode cX12_enter 94 = .ok (.imul, 1) := by decide +kernel
theorem dX12_enter_95 : decode cX12_enter 95 = .ok (.iload_n 2, 1) := by decide +kernel
theorem dX12_enter_96 : decode cX12_enter 96 = .ok (.iadd, 1) := by decide +kernel
theorem dX12_enter_97 : decode cX12_enter 97 = .ok (.iload_n 3, 1) := by decide +kernel
theorem dX12_enter_98 : decode cX12_enter 98 = .ok (.iconst 3, 1) := by decide +kernel
theorem dX12_enter_99 : decode cX12_enter 99 = .ok (.if_icmp .ne 7, 3) := by decide +kernel
theorem dX12_enter_102 : decode cX12_enter 102 = .ok (.iconst (-1), 1) := by decide +kernel
theorem dX12_enter_103 : decode cX12_enter 103 = .ok (.goto 4, 3) := by decide +kernel
theorem dX12_enter_106 : decode cX12_enter 106 = .ok (.iload_n 3, 1) := by decide +kernel
theorem dX12_enter_107 : decode cX12_enter 107 = .ok (.iastore, 1) := by decide +kernel
theorem dX12_enter_108 : decode cX12_enter 108 = .ok (.aload_n 0, 1) := by decide +kernel
theorem dX12_enter_109 : decode cX12_enter 109 = .ok (.getfield 35, 3) := by decide +kernel
theorem dX12_enter_112 : decode cX12_enter 112 = .ok (.bipush 10, 2) := by decide +kernel
theorem dX12_enter_114 : decode cX12_enter 114 = .ok (.iload_n 1, 1) := by decide +kernel
theorem dX12_enter_115 : decode cX12_enter 115 = .ok (.imul, 1) := by decide +kernel
theorem dX12_enter_116 : decode cX12_enter 116 = .ok (.iload_n 2, 1) := by decide +kernel
theorem dX12_enter_117 : decode cX12_enter 117 = .ok (.iadd, 1) := by decide +kernel
theorem dX12_enter_118 : decode cX12_enter 118 = .ok (.iload 4, 2) := by decide +kernel
theorem dX12_enter_120 : decode cX12_enter 120 = .ok (.iastore, 1) := by decide +kernel
theorem dX12_enter_121 : decode cX12_enter 121 = .ok (.iconst 1, 1) := by decide +kernel
theorem dX12_enter_122 : decode cX12_enter 122 = .ok (.ireturn, 1) := by decide +kernel
theorem dX12_read_0 : decode cX12_read 0 = .ok (.iload_n 1, 1) := by decide +kernel
theorem dX12_read_1 : decode cX12_read 1 = .ok (.invokestatic 278, 3) := by decide +kernel
theorem dX12_read_4 : decode cX12_read 4 = .ok (.ifCond .ne 6, 3) := by decide +kernel
theorem dX12_read_7 : decode cX12_read 7 = .ok (.bipush (-2), 2) := by decide +kernel
theorem dX12_read_9 : decode cX12_read 9 = .ok (.ireturn, 1) := by decide +kernel
theorem dX12_read_10 : decode cX12_read 10 = .ok (.iload_n 3, 1) := by decide +kernel
theorem dX12_read_11 : decode cX12_read 11 = .ok (.i2l, 1) := by decide +kernel
theorem dX12_read_12 : decode cX12_read 12 = .ok (.lconst 0, 1) := by decide +kernel
theorem dX12_read_13 : decode cX12_read 13 = .ok (.ldc2_w 242, 3) := by decide +kernel
theorem dX12_read_16 : decode cX12_read 16 = .ok (.invokestatic 79, 3) := by decide +kernel
theorem dX12_read_19 : decode cX12_read 19 = .ok (.ifCond .ne 6, 3) := by decide +kernel
theorem dX12_read_22 : decode cX12_read 22 = .ok (.bipush (-3), 2) := by decide +kernel
theorem dX12_read_24 : decode cX12_read 24 = .ok (.ireturn, 1) := by decide +kernel
theorem dX12_read_25 : decode cX12_read 25 = .ok (.aload_n 0, 1) := by decide +kernel
theorem dX12_read_26 : decode cX12_read 26 = .ok (.iload_n 1, 1) := by decide +kernel
theorem dX12_read_27 : decode cX12_read 27 = .ok (.iload_n 2, 1) := by decide +kernel
theorem dX12_read_28 : decode cX12_read 28 = .ok (.invokevirtual 285, 3) := by decide +kernel
theorem dX12_read_31 : decode cX12_read 31 = .ok (.istore 4, 2) := by decide +kernel
theorem dX12_read_33 : decode cX12_read 33 = .ok (.iload 4, 2) := by decide +kernel
theorem dX12_read_35 : decode cX12_read 35 = .ok (.ifCond .eq 6, 3) := by decide +kernel
theorem dX12_read_38 : decode cX12_read 38 = .ok (.iload 4, 2) := by decide +kernel
theorem dX12_read_40 : decode cX12_read 40 = .ok (.ireturn, 1) := by decide +kernel
theorem dX12_read_41 : decode cX12_read 41 = .ok (.aload_n 0, 1) := by decide +kernel
theorem dX12_read_42 : decode cX12_read 42 = .ok (.getfield 32, 3) := by decide +kernel
theorem dX12_read_45 : decode cX12_read 45 = .ok (.bipush 10, 2) := by decide +kernel
theorem dX12_read_47 : decode cX12_read 47 = .ok (.iload_n 1, 1) := by decide +kernel
theorem dX12_read_48 : decode cX12_read 48 = .ok (.imul, 1) := by decide +kernel
theorem dX12_read_49 : decode cX12_read 49 = .ok (.iload_n 2, 1) := by decide +kernel
theorem dX12_read_50 : decode cX12_read 50 = .ok (.iadd, 1) := by decide +kernel
theorem dX12_read_51 : decode cX12_read 51 = .ok (.iaload, 1) := by decide +kernel
theorem dX12_read_52 : decode cX12_read 52 = .ok (.istore 5, 2) := by decide +kernel
theorem dX12_read_54 : decode cX12_read 54 = .ok (.iload 5, 2) := by decide +kernel
theorem dX12_read_56 : decode cX12_read 56 = .ok (.iconst (-1), 1) := by decide +kernel
theorem dX12_read_57 : decode cX12_read 57 = .ok (.if_icmp .ne 6, 3) := by decide +kernel
theorem dX12_read_60 : decode cX12_read 60 = .ok (.bipush (-13), 2) := by decide +kernel
theorem dX12_read_62 : decode cX12_read 62 = .ok (.ireturn, 1) := by decide +kernel
theorem dX12_read_63 : decode cX12_read 63 = .ok (.iload 5, 2) := by decide +kernel
theorem dX12_read_65 : decode cX12_read 65 = .ok (.iload_n 3, 1) := by decide +kernel
theorem dX12_read_66 : decode cX12_read 66 = .ok (.if_icmp .eq 8, 3) := by decide +kernel
theorem dX12_read_69 : decode cX12_read 69 = .ok (.bipush (-14), 2) := by decide +kernel
theorem dX12_read_71 : decode cX12_read 71 = .ok (.goto 36, 3) := by decide +kernel
theorem dX12_read_74 : decode cX12_read 74 = .ok (.iload_n 3, 1) := by decide +kernel
theorem dX12_read_75 : decode cX12_read 75 = .ok (.ifCond .ne 21, 3) := by decide +kernel
theorem dX12_read_78 : decode cX12_read 78 = .ok (.aload_n 0, 1) := by decide +kernel
theorem dX12_read_79 : decode cX12_read 79 = .ok (.getfield 35, 3) := by decide +kernel
theorem dX12_read_82 : decode cX12_read 82 = .ok (.bipush 10, 2) := by decide +kernel
theorem dX12_read_84 : decode cX12_read 84 = .ok (.iload_n 1, 1) := by decide +kernel
theorem dX12_read_85 : decode cX12_read 85 = .ok (.imul, 1) := by decide +kernel
theorem dX12_read_86 : decode cX12_read 86 = .ok (.iload_n 2, 1) := by decide +kernel
theorem dX12_read_87 : decode cX12_read 87 = .ok (.iadd, 1) := by decide +kernel
theorem dX12_read_88 : decode cX12_read 88 = .ok (.iaload, 1) := by decide +kernel
theorem dX12_read_89 : decode cX12_read 89 = .ok (.ldc_w 288, 3) := by decide +kernel
theorem dX12_read_92 : decode cX12_read 92 = .ok (.iadd, 1) := by decide +kernel
theorem dX12_read_93 : decode cX12_read 93 = .ok (.goto 14, 3) := by decide +kernel
theorem dX12_read_96 : decode cX12_read 96 = .ok (.aload_n 0, 1) := by decide +kernel
theorem dX12_read_97 : decode cX12_read 97 = .ok (.getfield 35, 3) := by decide +kernel
theorem dX12_read_100 : decode cX12_read 100 = .ok (.bipush 10, 2) := by decide +kernel
theorem dX12_read_102 : decode cX12_read 102 = .ok (.iload_n 1, 1) := by decide +kernel
theorem dX12_read_103 : decode cX12_read 103 = .ok (.imul, 1) := by decide +kernel
theorem dX12_read_104 : decode cX12_read 104 = .ok (.iload_n 2, 1) := by decide +kernel
theorem dX12_read_105 : decode cX12_read 105 = .ok (.iadd, 1) := by decide +kernel
theorem dX12_read_106 : decode cX12_read 106 = .ok (.iaload, 1) := by decide +kernel
theorem dX12_read_107 : decode cX12_read 107 = .ok (.ireturn, 1) := by decide +kernel
theorem dX12_toldBy_0 : decode cX12_toldBy 0 = .ok (.iconst 0, 1) := by decide +kernel
theorem dX12_toldBy_1 : decode cX12_toldBy 1 = .ok (.istore_n 2, 1) := by decide +kernel
theorem dX12_toldBy_2 : decode cX12_toldBy 2 = .ok (.iconst 0, 1) := by decide +kernel
theorem dX12_toldBy_3 : decode cX12_toldBy 3 = .ok (.istore_n 3, 1) := by decide +kernel
theorem dX12_toldBy_4 : decode cX12_toldBy 4 = .ok (.iload_n 3, 1) := by decide +kernel
theorem dX12_toldBy_5 : decode cX12_toldBy 5 = .ok (.aload_n 0, 1) := by decide +kernel
theorem dX12_toldBy_6 : decode cX12_toldBy 6 = .ok (.getfield 29, 3) := by decide +kernel
theorem dX12_toldBy_9 : decode cX12_toldBy 9 = .ok (.iload_n 1, 1) := by decide +kernel
theorem dX12_toldBy_10 : decode cX12_toldBy 10 = .ok (.iaload, 1) := by decide +kernel
theorem dX12_toldBy_11 : decode cX12_toldBy 11 = .ok (.if_icmp .ge 59, 3) := by decide +kernel
theorem dX12_toldBy_14 : decode cX12_toldBy 14 = .ok (.bipush 10, 2) := by decide +kernel
theorem dX12_toldBy_16 : decode cX12_toldBy 16 = .ok (.iload_n 1, 1) := by decide +kernel
theorem dX12_toldBy_17 : decode cX12_toldBy 17 = .ok (.imul, 1) := by decide +kernel
theorem dX12_toldBy_18 : decode cX12_toldBy 18 = .ok (.iload_n 3, 1) := by decide +kernel
theorem dX12_toldBy_19 : decode cX12_toldBy 19 = .ok (.iadd, 1) := by decide +kernel
theorem dX12_toldBy_20 : decode cX12_toldBy 20 = .ok (.istore 4, 2) := by decide +kernel
theorem dX12_toldBy_22 : decode cX12_toldBy 22 = .ok (.iload_n 2, 1) := by decide +kernel
theorem dX12_toldBy_23 : decode cX12_toldBy 23 = .ok (.aload_n 0, 1) := by decide +kernel
theorem dX12_toldBy_24 : decode cX12_toldBy 24 = .ok (.getfield 32, 3) := by decide +kernel
theorem dX12_toldBy_27 : decode cX12_toldBy 27 = .ok (.iload 4, 2) := by decide +kernel
theorem dX12_toldBy_29 : decode cX12_toldBy 29 = .ok (.iaload, 1) := by decide +kernel
theorem dX12_toldBy_30 : decode cX12_toldBy 30 = .ok (.iconst 2, 1) := by decide +kernel
theorem dX12_toldBy_31 : decode cX12_toldBy 31 = .ok (.if_icmp .ne 30, 3) := by decide +kernel
theorem dX12_toldBy_34 : decode cX12_toldBy 34 = .ok (.aload_n 0, 1) := by decide +kernel
theorem dX12_toldBy_35 : decode cX12_toldBy 35 = .ok (.getfield 29, 3) := by decide +kernel
theorem dX12_toldBy_38 : decode cX12_toldBy 38 = .ok (.aload_n 0, 1) := by decide +kernel
theorem dX12_toldBy_39 : decode cX12_toldBy 39 = .ok (.getfield 35, 3) := by decide +kernel
theorem dX12_toldBy_42 : decode cX12_toldBy 42 = .ok (.iload 4, 2) := by decide +kernel
theorem dX12_toldBy_44 : decode cX12_toldBy 44 = .ok (.iaload, 1) := by decide +kernel
theorem dX12_toldBy_45 : decode cX12_toldBy 45 = .ok (.iaload, 1) := by decide +kernel
theorem dX12_toldBy_46 : decode cX12_toldBy 46 = .ok (.ifCond .lt 15, 3) := by decide +kernel
theorem dX12_toldBy_49 : decode cX12_toldBy 49 = .ok (.iconst 1, 1) := by decide +kernel
theorem dX12_toldBy_50 : decode cX12_toldBy 50 = .ok (.aload_n 0, 1) := by decide +kernel
theorem dX12_toldBy_51 : decode cX12_toldBy 51 = .ok (.getfield 35, 3) := by decide +kernel
theorem dX12_toldBy_54 : decode cX12_toldBy 54 = .ok (.iload 4, 2) := by decide +kernel
theorem dX12_toldBy_56 : decode cX12_toldBy 56 = .ok (.iaload, 1) := by decide +kernel
theorem dX12_toldBy_57 : decode cX12_toldBy 57 = .ok (.ishl, 1) := by decide +kernel
theorem dX12_toldBy_58 : decode cX12_toldBy 58 = .ok (.goto 4, 3) := by decide +kernel
theorem dX12_toldBy_61 : decode cX12_toldBy 61 = .ok (.iconst 0, 1) := by decide +kernel
theorem dX12_toldBy_62 : decode cX12_toldBy 62 = .ok (.ior, 1) := by decide +kernel
theorem dX12_toldBy_63 : decode cX12_toldBy 63 = .ok (.istore_n 2, 1) := by decide +kernel
theorem dX12_toldBy_64 : decode cX12_toldBy 64 = .ok (.iinc 3 1, 3) := by decide +kernel
theorem dX12_toldBy_67 : decode cX12_toldBy 67 = .ok (.goto (-63), 3) := by decide +kernel
theorem dX12_toldBy_70 : decode cX12_toldBy 70 = .ok (.iload_n 2, 1) := by decide +kernel
theorem dX12_toldBy_71 : decode cX12_toldBy 71 = .ok (.ireturn, 1) := by decide +kernel
theorem dX12_weightOf_0 : decode cX12_weightOf 0 = .ok (.iconst 0, 1) := by decide +kernel
theorem dX12_weightOf_1 : decode cX12_weightOf 1 = .ok (.istore_n 2, 1) := by decide +kernel
theorem dX12_weightOf_2 : decode cX12_weightOf 2 = .ok (.iconst 0, 1) := by decide +kernel
theorem dX12_weightOf_3 : decode cX12_weightOf 3 = .ok (.istore_n 3, 1) := by decide +kernel
theorem dX12_weightOf_4 : decode cX12_weightOf 4 = .ok (.iload_n 3, 1) := by decide +kernel
theorem dX12_weightOf_5 : decode cX12_weightOf 5 = .ok (.aload_n 0, 1) := by decide +kernel
theorem dX12_weightOf_6 : decode cX12_weightOf 6 = .ok (.getfield 29, 3) := by decide +kernel
theorem dX12_weightOf_9 : decode cX12_weightOf 9 = .ok (.iload_n 1, 1) := by decide +kernel
theorem dX12_weightOf_10 : decode cX12_weightOf 10 = .ok (.iaload, 1) := by decide +kernel
theorem dX12_weightOf_11 : decode cX12_weightOf 11 = .ok (.if_icmp .ge 58, 3) := by decide +kernel
theorem dX12_weightOf_14 : decode cX12_weightOf 14 = .ok (.bipush 10, 2) := by decide +kernel
theorem dX12_weightOf_16 : decode cX12_weightOf 16 = .ok (.iload_n 1, 1) := by decide +kernel
theorem dX12_weightOf_17 : decode cX12_weightOf 17 = .ok (.imul, 1) := by decide +kernel
theorem dX12_weightOf_18 : decode cX12_weightOf 18 = .ok (.iload_n 3, 1) := by decide +kernel
theorem dX12_weightOf_19 : decode cX12_weightOf 19 = .ok (.iadd, 1) := by decide +kernel
theorem dX12_weightOf_20 : decode cX12_weightOf 20 = .ok (.istore 4, 2) := by decide +kernel
theorem dX12_weightOf_22 : decode cX12_weightOf 22 = .ok (.iload_n 2, 1) := by decide +kernel
theorem dX12_weightOf_23 : decode cX12_weightOf 23 = .ok (.aload_n 0, 1) := by decide +kernel
theorem dX12_weightOf_24 : decode cX12_weightOf 24 = .ok (.getfield 32, 3) := by decide +kernel
theorem dX12_weightOf_27 : decode cX12_weightOf 27 = .ok (.iload 4, 2) := by decide +kernel
theorem dX12_weightOf_29 : decode cX12_weightOf 29 = .ok (.iaload, 1) := by decide +kernel
theorem dX12_weightOf_30 : decode cX12_weightOf 30 = .ok (.ifCond .ne 13, 3) := by decide +kernel
theorem dX12_weightOf_33 : decode cX12_weightOf 33 = .ok (.aload_n 0, 1) := by decide +kernel
theorem dX12_weightOf_34 : decode cX12_weightOf 34 = .ok (.getfield 35, 3) := by decide +kernel
theorem dX12_weightOf_37 : decode cX12_weightOf 37 = .ok (.iload 4, 2) := by decide +kernel
theorem dX12_weightOf_39 : decode cX12_weightOf 39 = .ok (.iaload, 1) := by decide +kernel
theorem dX12_weightOf_40 : decode cX12_weightOf 40 = .ok (.goto 21, 3) := by decide +kernel
theorem dX12_weightOf_43 : decode cX12_weightOf 43 = .ok (.aload_n 0, 1) := by decide +kernel
theorem dX12_weightOf_44 : decode cX12_weightOf 44 = .ok (.getfield 32, 3) := by decide +kernel
theorem dX12_weightOf_47 : decode cX12_weightOf 47 = .ok (.iload 4, 2) := by decide +kernel
theorem dX12_weightOf_49 : decode cX12_weightOf 49 = .ok (.iaload, 1) := by decide +kernel
theorem dX12_weightOf_50 : decode cX12_weightOf 50 = .ok (.iconst 1, 1) := by decide +kernel
theorem dX12_weightOf_51 : decode cX12_weightOf 51 = .ok (.if_icmp .ne 9, 3) := by decide +kernel
theorem dX12_weightOf_54 : decode cX12_weightOf 54 = .ok (.sipush 1000, 3) := by decide +kernel
theorem dX12_weightOf_57 : decode cX12_weightOf 57 = .ok (.goto 4, 3) := by decide +kernel
theorem dX12_weightOf_60 : decode cX12_weightOf 60 = .ok (.iconst 0, 1) := by decide +kernel
theorem dX12_weightOf_61 : decode cX12_weightOf 61 = .ok (.iadd, 1) := by decide +kernel
theorem dX12_weightOf_62 : decode cX12_weightOf 62 = .ok (.istore_n 2, 1) := by decide +kernel
theorem dX12_weightOf_63 : decode cX12_weightOf 63 = .ok (.iinc 3 1, 3) := by decide +kernel
theorem dX12_weightOf_66 : decode cX12_weightOf 66 = .ok (.goto (-62), 3) := by decide +kernel
theorem dX12_weightOf_69 : decode cX12_weightOf 69 = .ok (.iload_n 2, 1) := by decide +kernel
theorem dX12_weightOf_70 : decode cX12_weightOf 70 = .ok (.ireturn, 1) := by decide +kernel
theorem dX12_weigh_0 : decode cX12_weigh 0 = .ok (.iload_n 1, 1) := by decide +kernel
theorem dX12_weigh_1 : decode cX12_weigh 1 = .ok (.invokestatic 278, 3) := by decide +kernel
theorem dX12_weigh_4 : decode cX12_weigh 4 = .ok (.ifCond .ne 6, 3) := by decide +kernel
theorem dX12_weigh_7 : decode cX12_weigh 7 = .ok (.bipush (-2), 2) := by decide +kernel
theorem dX12_weigh_9 : decode cX12_weigh 9 = .ok (.ireturn, 1) := by decide +kernel
theorem dX12_weigh_10 : decode cX12_weigh 10 = .ok (.iload_n 2, 1) := by decide +kernel
theorem dX12_weigh_11 : decode cX12_weigh 11 = .ok (.i2l, 1) := by decide +kernel
theorem dX12_weigh_12 : decode cX12_weigh 12 = .ok (.lconst 0, 1) := by decide +kernel
theorem dX12_weigh_13 : decode cX12_weigh 13 = .ok (.lconst 1, 1) := by decide +kernel
theorem dX12_weigh_14 : decode cX12_weigh 14 = .ok (.invokestatic 79, 3) := by decide +kernel
theorem dX12_weigh_17 : decode cX12_weigh 17 = .ok (.ifCond .ne 6, 3) := by decide +kernel
theorem dX12_weigh_20 : decode cX12_weigh 20 = .ok (.bipush (-3), 2) := by decide +kernel
theorem dX12_weigh_22 : decode cX12_weigh 22 = .ok (.ireturn, 1) := by decide +kernel
theorem dX12_weigh_23 : decode cX12_weigh 23 = .ok (.aload_n 0, 1) := by decide +kernel
theorem dX12_weigh_24 : decode cX12_weigh 24 = .ok (.getfield 29, 3) := by decide +kernel
theorem dX12_weigh_27 : decode cX12_weigh 27 = .ok (.iload_n 1, 1) := by decide +kernel
theorem dX12_weigh_28 : decode cX12_weigh 28 = .ok (.iaload, 1) := by decide +kernel
theorem dX12_weigh_29 : decode cX12_weigh 29 = .ok (.ifCond .ge 6, 3) := by decide +kernel
theorem dX12_weigh_32 : decode cX12_weigh 32 = .ok (.bipush (-11), 2) := by decide +kernel
theorem dX12_weigh_34 : decode cX12_weigh 34 = .ok (.ireturn, 1) := by decide +kernel
theorem dX12_weigh_35 : decode cX12_weigh 35 = .ok (.iconst 1, 1) := by decide +kernel
theorem dX12_weigh_36 : decode cX12_weigh 36 = .ok (.iload_n 1, 1) := by decide +kernel
theorem dX12_weigh_37 : decode cX12_weigh 37 = .ok (.ishl, 1) := by decide +kernel
theorem dX12_weigh_38 : decode cX12_weigh 38 = .ok (.istore_n 3, 1) := by decide +kernel
theorem dX12_weigh_39 : decode cX12_weigh 39 = .ok (.iconst 0, 1) := by decide +kernel
theorem dX12_weigh_40 : decode cX12_weigh 40 = .ok (.istore 4, 2) := by decide +kernel
theorem dX12_weigh_42 : decode cX12_weigh 42 = .ok (.iload 4, 2) := by decide +kernel
theorem dX12_weigh_44 : decode cX12_weigh 44 = .ok (.iconst 4, 1) := by decide +kernel
theorem dX12_weigh_45 : decode cX12_weigh 45 = .ok (.if_icmp .ge 46, 3) := by decide +kernel
theorem dX12_weigh_48 : decode cX12_weigh 48 = .ok (.iconst 0, 1) := by decide +kernel
theorem dX12_weigh_49 : decode cX12_weigh 49 = .ok (.istore 5, 2) := by decide +kernel
theorem dX12_weigh_51 : decode cX12_weigh 51 = .ok (.iload 5, 2) := by decide +kernel
theorem dX12_weigh_53 : decode cX12_weigh 53 = .ok (.iconst 4, 1) := by decide +kernel
theorem dX12_weigh_54 : decode cX12_weigh 54 = .ok (.if_icmp .ge 31, 3) := by decide +kernel
theorem dX12_weigh_57 : decode cX12_weigh 57 = .ok (.iload_n 3, 1) := by decide +kernel
theorem dX12_weigh_58 : decode cX12_weigh 58 = .ok (.iload_n 3, 1) := by decide +kernel
theorem dX12_weigh_59 : decode cX12_weigh 59 = .ok (.iload 5, 2) := by decide +kernel
theorem dX12_weigh_61 : decode cX12_weigh 61 = .ok (.invokestatic 188, 3) := by decide +kernel
theorem dX12_weigh_64 : decode cX12_weigh 64 = .ok (.ifCond .eq 12, 3) := by decide +kernel
theorem dX12_weigh_67 : decode cX12_weigh 67 = .ok (.aload_n 0, 1) := by decide +kernel
theorem dX12_weigh_68 : decode cX12_weigh 68 = .ok (.iload 5, 2) := by decide +kernel
theorem dX12_weigh_70 : decode cX12_weigh 70 = .ok (.invokevirtual 289, 3) := by decide +kernel
theorem dX12_weigh_73 : decode cX12_weigh 73 = .ok (.goto 4, 3) := by decide +kernel
theorem dX12_weigh_76 : decode cX12_weigh 76 = .ok (.iconst 0, 1) := by decide +kernel
theorem dX12_weigh_77 : decode cX12_weigh 77 = .ok (.ior, 1) := by decide +kernel
theorem dX12_weigh_78 : decode cX12_weigh 78 = .ok (.istore_n 3, 1) := by decide +kernel
theorem dX12_weigh_79 : decode cX12_weigh 79 = .ok (.iinc 5 1, 3) := by decide +kernel
theorem dX12_weigh_82 : decode cX12_weigh 82 = .ok (.goto (-31), 3) := by decide +kernel
theorem dX12_weigh_85 : decode cX12_weigh 85 = .ok (.iinc 4 1, 3) := by decide +kernel
theorem dX12_weigh_88 : decode cX12_weigh 88 = .ok (.goto (-46), 3) := by decide +kernel
theorem dX12_weigh_91 : decode cX12_weigh 91 = .ok (.ldc_w 292, 3) := by decide +kernel
theorem dX12_weigh_94 : decode cX12_weigh 94 = .ok (.istore 4, 2) := by decide +kernel
theorem dX12_weigh_96 : decode cX12_weigh 96 = .ok (.iconst 0, 1) := by decide +kernel
theorem dX12_weigh_97 : decode cX12_weigh 97 = .ok (.istore 5, 2) := by decide +kernel
theorem dX12_weigh_99 : decode cX12_weigh 99 = .ok (.iload 5, 2) := by decide +kernel
theorem dX12_weigh_101 : decode cX12_weigh 101 = .ok (.iconst 4, 1) := by decide +kernel
theorem dX12_weigh_102 : decode cX12_weigh 102 = .ok (.if_icmp .ge 33, 3) := by decide +kernel
theorem dX12_weigh_105 : decode cX12_weigh 105 = .ok (.iload 4, 2) := by decide +kernel
theorem dX12_weigh_107 : decode cX12_weigh 107 = .ok (.iload_n 3, 1) := by decide +kernel
theorem dX12_weigh_108 : decode cX12_weigh 108 = .ok (.iload 5, 2) := by decide +kernel
theorem dX12_weigh_110 : decode cX12_weigh 110 = .ok (.invokestatic 188, 3) := by decide +kernel
theorem dX12_weigh_113 : decode cX12_weigh 113 = .ok (.ifCond .eq 12, 3) := by decide +kernel
theorem dX12_weigh_116 : decode cX12_weigh 116 = .ok (.aload_n 0, 1) := by decide +kernel
theorem dX12_weigh_117 : decode cX12_weigh 117 = .ok (.iload 5, 2) := by decide +kernel
theorem dX12_weigh_119 : decode cX12_weigh 119 = .ok (.invokevirtual 293, 3) := by decide +kernel
theorem dX12_weigh_122 : decode cX12_weigh 122 = .ok (.goto 4, 3) := by decide +kernel
theorem dX12_weigh_125 : decode cX12_weigh 125 = .ok (.iconst 0, 1) := by decide +kernel
theorem dX12_weigh_126 : decode cX12_weigh 126 = .ok (.iadd, 1) := by decide +kernel
theorem dX12_weigh_127 : decode cX12_weigh 127 = .ok (.istore 4, 2) := by decide +kernel
theorem dX12_weigh_129 : decode cX12_weigh 129 = .ok (.iinc 5 1, 3) := by decide +kernel
theorem dX12_weigh_132 : decode cX12_weigh 132 = .ok (.goto (-33), 3) := by decide +kernel
theorem dX12_weigh_135 : decode cX12_weigh 135 = .ok (.iload_n 2, 1) := by decide +kernel
theorem dX12_weigh_136 : decode cX12_weigh 136 = .ok (.ifCond .ne 8, 3) := by decide +kernel
theorem dX12_weigh_139 : decode cX12_weigh 139 = .ok (.iload 4, 2) := by decide +kernel
theorem dX12_weigh_141 : decode cX12_weigh 141 = .ok (.goto 7, 3) := by decide +kernel
theorem dX12_weigh_144 : decode cX12_weigh 144 = .ok (.iload_n 3, 1) := by decide +kernel
theorem dX12_weigh_145 : decode cX12_weigh 145 = .ok (.invokestatic 261, 3) := by decide +kernel
theorem dX12_weigh_148 : decode cX12_weigh 148 = .ok (.ireturn, 1) := by decide +kernel
theorem dX12_isSpan_0 : decode cX12_isSpan 0 = .ok (.iload_n 2, 1) := by decide +kernel
theorem dX12_isSpan_1 : decode cX12_isSpan 1 = .ok (.ifCond .lt 27, 3) := by decide +kernel
theorem dX12_isSpan_4 : decode cX12_isSpan 4 = .ok (.iload_n 3, 1) := by decide +kernel
theorem dX12_isSpan_5 : decode cX12_isSpan 5 = .ok (.ifCond .lt 23, 3) := by decide +kernel
theorem dX12_isSpan_8 : decode cX12_isSpan 8 = .ok (.iload_n 2, 1) := by decide +kernel
theorem dX12_isSpan_9 : decode cX12_isSpan 9 = .ok (.i2l, 1) := by decide +kernel
theorem dX12_isSpan_10 : decode cX12_isSpan 10 = .ok (.iload_n 3, 1) := by decide +kernel
theorem dX12_isSpan_11 : decode cX12_isSpan 11 = .ok (.i2l, 1) := by decide +kernel
theorem dX12_isSpan_12 : decode cX12_isSpan 12 = .ok (.ladd, 1) := by decide +kernel
theorem dX12_isSpan_13 : decode cX12_isSpan 13 = .ok (.aload_n 0, 1) := by decide +kernel
theorem dX12_isSpan_14 : decode cX12_isSpan 14 = .ok (.getfield 29, 3) := by decide +kernel
theorem dX12_isSpan_17 : decode cX12_isSpan 17 = .ok (.iload_n 1, 1) := by decide +kernel
theorem dX12_isSpan_18 : decode cX12_isSpan 18 = .ok (.iaload, 1) := by decide +kernel
theorem dX12_isSpan_19 : decode cX12_isSpan 19 = .ok (.i2l, 1) := by decide +kernel
theorem dX12_isSpan_20 : decode cX12_isSpan 20 = .ok (.lcmp, 1) := by decide +kernel
theorem dX12_isSpan_21 : decode cX12_isSpan 21 = .ok (.ifCond .gt 7, 3) := by decide +kernel
theorem dX12_isSpan_24 : decode cX12_isSpan 24 = .ok (.iconst 1, 1) := by decide +kernel
theorem dX12_isSpan_25 : decode cX12_isSpan 25 = .ok (.goto 4, 3) := by decide +kernel
theorem dX12_isSpan_28 : decode cX12_isSpan 28 = .ok (.iconst 0, 1) := by decide +kernel
theorem dX12_isSpan_29 : decode cX12_isSpan 29 = .ok (.ireturn, 1) := by decide +kernel
theorem dX12_copy_0 : decode cX12_copy 0 = .ok (.iload_n 1, 1) := by decide +kernel
theorem dX12_copy_1 : decode cX12_copy 1 = .ok (.invokestatic 278, 3) := by decide +kernel
theorem dX12_copy_4 : decode cX12_copy 4 = .ok (.ifCond .eq 10, 3) := by decide +kernel
theorem dX12_copy_7 : decode cX12_copy 7 = .ok (.iload_n 3, 1) := by decide +kernel
theorem dX12_copy_8 : decode cX12_copy 8 = .ok (.invokestatic 278, 3) := by decide +kernel
theorem dX12_copy_11 : decode cX12_copy 11 = .ok (.ifCond .ne 6, 3) := by decide +kernel
theorem dX12_copy_14 : decode cX12_copy 14 = .ok (.bipush (-2), 2) := by decide +kernel
theorem dX12_copy_16 : decode cX12_copy 16 = .ok (.ireturn, 1) := by decide +kernel
theorem dX12_copy_17 : decode cX12_copy 17 = .ok (.aload_n 0, 1) := by decide +kernel
theorem dX12_copy_18 : decode cX12_copy 18 = .ok (.getfield 29, 3) := by decide +kernel
theorem dX12_copy_21 : decode cX12_copy 21 = .ok (.iload_n 1, 1) := by decide +kernel
theorem dX12_copy_22 : decode cX12_copy 22 = .ok (.iaload, 1) := by decide +kernel
theorem dX12_copy_23 : decode cX12_copy 23 = .ok (.ifCond .lt 12, 3) := by decide +kernel
theorem dX12_copy_26 : decode cX12_copy 26 = .ok (.aload_n 0, 1) := by decide +kernel
theorem dX12_copy_27 : decode cX12_copy 27 = .ok (.getfield 29, 3) := by decide +kernel
theorem dX12_copy_30 : decode cX12_copy 30 = .ok (.iload_n 3, 1) := by decide +kernel
theorem dX12_copy_31 : decode cX12_copy 31 = .ok (.iaload, 1) := by decide +kernel
theorem dX12_copy_32 : decode cX12_copy 32 = .ok (.ifCond .ge 6, 3) := by decide +kernel
theorem dX12_copy_35 : decode cX12_copy 35 = .ok (.bipush (-11), 2) := by decide +kernel
theorem dX12_copy_37 : decode cX12_copy 37 = .ok (.ireturn, 1) := by decide +kernel
theorem dX12_copy_38 : decode cX12_copy 38 = .ok (.aload_n 0, 1) := by decide +kernel
theorem dX12_copy_39 : decode cX12_copy 39 = .ok (.iload_n 1, 1) := by decide +kernel
theorem dX12_copy_40 : decode cX12_copy 40 = .ok (.iload_n 2, 1) := by decide +kernel
theorem dX12_copy_41 : decode cX12_copy 41 = .ok (.iload 5, 2) := by decide +kernel
theorem dX12_copy_43 : decode cX12_copy 43 = .ok (.invokevirtual 296, 3) := by decide +kernel
theorem dX12_copy_46 : decode cX12_copy 46 = .ok (.ifCond .eq 15, 3) := by decide +kernel
theorem dX12_copy_49 : decode cX12_copy 49 = .ok (.aload_n 0, 1) := by decide +kernel
theorem dX12_copy_50 : decode cX12_copy 50 = .ok (.iload_n 3, 1) := by decide +kernel
theorem dX12_copy_51 : decode cX12_copy 51 = .ok (.iload 4, 2) := by decide +kernel
theorem dX12_copy_53 : decode cX12_copy 53 = .ok (.iload 5, 2) := by decide +kernel
theorem dX12_copy_55 : decode cX12_copy 55 = .ok (.invokevirtual 296, 3) := by decide +kernel
theorem dX12_copy_58 : decode cX12_copy 58 = .ok (.ifCond .ne 6, 3) := by decide +kernel
theorem dX12_copy_61 : decode cX12_copy 61 = .ok (.bipush (-12), 2) := by decide +kernel
theorem dX12_copy_63 : decode cX12_copy 63 = .ok (.ireturn, 1) := by decide +kernel
theorem dX12_copy_64 : decode cX12_copy 64 = .ok (.iconst 0, 1) := by decide +kernel
theorem dX12_copy_65 : decode cX12_copy 65 = .ok (.istore 6, 2) := by decide +kernel
theorem dX12_copy_67 : decode cX12_copy 67 = .ok (.iload 6, 2) := by decide +kernel
theorem dX12_copy_69 : decode cX12_copy 69 = .ok (.iload 5, 2) := by decide +kernel
theorem dX12_copy_71 : decode cX12_copy 71 = .ok (.if_icmp .ge 51, 3) := by decide +kernel
theorem dX12_copy_74 : decode cX12_copy 74 = .ok (.aload_n 0, 1) := by decide +kernel
theorem dX12_copy_75 : decode cX12_copy 75 = .ok (.getfield 71, 3) := by decide +kernel
theorem dX12_copy_78 : decode cX12_copy 78 = .ok (.iload 6, 2) := by decide +kernel
theorem dX12_copy_80 : decode cX12_copy 80 = .ok (.aload_n 0, 1) := by decide +kernel
theorem dX12_copy_81 : decode cX12_copy 81 = .ok (.getfield 32, 3) := by decide +kernel
theorem dX12_copy_84 : decode cX12_copy 84 = .ok (.bipush 10, 2) := by decide +kernel
theorem dX12_copy_86 : decode cX12_copy 86 = .ok (.iload_n 1, 1) := by decide +kernel
theorem dX12_copy_87 : decode cX12_copy 87 = .ok (.imul, 1) := by decide +kernel
theorem dX12_copy_88 : decode cX12_copy 88 = .ok (.iload_n 2, 1) := by decide +kernel
theorem dX12_copy_89 : decode cX12_copy 89 = .ok (.iadd, 1) := by decide +kernel
theorem dX12_copy_90 : decode cX12_copy 90 = .ok (.iload 6, 2) := by decide +kernel
theorem dX12_copy_92 : decode cX12_copy 92 = .ok (.iadd, 1) := by decide +kernel
theorem dX12_copy_93 : decode cX12_copy 93 = .ok (.iaload, 1) := by decide +kernel
theorem dX12_copy_94 : decode cX12_copy 94 = .ok (.iastore, 1) := by decide +kernel
theorem dX12_copy_95 : decode cX12_copy 95 = .ok (.aload_n 0, 1) := by decide +kernel
theorem dX12_copy_96 : decode cX12_copy 96 = .ok (.getfield 74, 3) := by decide +kernel
theorem dX12_copy_99 : decode cX12_copy 99 = .ok (.iload 6, 2) := by decide +kernel
theorem dX12_copy_101 : decode cX12_copy 101 = .ok (.aload_n 0, 1) := by decide +kernel
theorem dX12_copy_102 : decode cX12_copy 102 = .ok (.getfield 35, 3) := by decide +kernel
theorem dX12_copy_105 : decode cX12_copy 105 = .ok (.bipush 10, 2) := by decide +kernel
theorem dX12_copy_107 : decode cX12_copy 107 = .ok (.iload_n 1, 1) := by decide +kernel
theorem dX12_copy_108 : decode cX12_copy 108 = .ok (.imul, 1) := by decide +kernel
theorem dX12_copy_109 : decode cX12_copy 109 = .ok (.iload_n 2, 1) := by decide +kernel
theorem dX12_copy_110 : decode cX12_copy 110 = .ok (.iadd, 1) := by decide +kernel
theorem dX12_copy_111 : decode cX12_copy 111 = .ok (.iload 6, 2) := by decide +kernel
theorem dX12_copy_113 : decode cX12_copy 113 = .ok (.iadd, 1) := by decide +kernel
theorem dX12_copy_114 : decode cX12_copy 114 = .ok (.iaload, 1) := by decide +kernel
theorem dX12_copy_115 : decode cX12_copy 115 = .ok (.iastore, 1) := by decide +kernel
theorem dX12_copy_116 : decode cX12_copy 116 = .ok (.iinc 6 1, 3) := by decide +kernel
theorem dX12_copy_119 : decode cX12_copy 119 = .ok (.goto (-52), 3) := by decide +kernel
theorem dX12_copy_122 : decode cX12_copy 122 = .ok (.iconst 0, 1) := by decide +kernel
theorem dX12_copy_123 : decode cX12_copy 123 = .ok (.istore 6, 2) := by decide +kernel
theorem dX12_copy_125 : decode cX12_copy 125 = .ok (.iload 6, 2) := by decide +kernel
theorem dX12_copy_127 : decode cX12_copy 127 = .ok (.iload 5, 2) := by decide +kernel
theorem dX12_copy_129 : decode cX12_copy 129 = .ok (.if_icmp .ge 53, 3) := by decide +kernel
theorem dX12_copy_132 : decode cX12_copy 132 = .ok (.aload_n 0, 1) := by decide +kernel
theorem dX12_copy_133 : decode cX12_copy 133 = .ok (.getfield 32, 3) := by decide +kernel
theorem dX12_copy_136 : decode cX12_copy 136 = .ok (.bipush 10, 2) := by decide +kernel
theorem dX12_copy_138 : decode cX12_copy 138 = .ok (.iload_n 3, 1) := by decide +kernel
theorem dX12_copy_139 : decode cX12_copy 139 = .ok (.imul, 1) := by decide +kernel
theorem dX12_copy_140 : decode cX12_copy 140 = .ok (.iload 4, 2) := by decide +kernel
theorem dX12_copy_142 : decode cX12_copy 142 = .ok (.iadd, 1) := by decide +kernel
theorem dX12_copy_143 : decode cX12_copy 143 = .ok (.iload 6, 2) := by decide +kernel
theorem dX12_copy_145 : decode cX12_copy 145 = .ok (.iadd, 1) := by decide +kernel
theorem dX12_copy_146 : decode cX12_copy 146 = .ok (.aload_n 0, 1) := by decide +kernel
theorem dX12_copy_147 : decode cX12_copy 147 = .ok (.getfield 71, 3) := by decide +kernel
theorem dX12_copy_150 : decode cX12_copy 150 = .ok (.iload 6, 2) := by decide +kernel
theorem dX12_copy_152 : decode cX12_copy 152 = .ok (.iaload, 1) := by decide +kernel
theorem dX12_copy_153 : decode cX12_copy 153 = .ok (.iastore, 1) := by decide +kernel
theorem dX12_copy_154 : decode cX12_copy 154 = .ok (.aload_n 0, 1) := by decide +kernel
theorem dX12_copy_155 : decode cX12_copy 155 = .ok (.getfield 35, 3) := by decide +kernel
theorem dX12_copy_158 : decode cX12_copy 158 = .ok (.bipush 10, 2) := by decide +kernel
theorem dX12_copy_160 : decode cX12_copy 160 = .ok (.iload_n 3, 1) := by decide +kernel
theorem dX12_copy_161 : decode cX12_copy 161 = .ok (.imul, 1) := by decide +kernel
theorem dX12_copy_162 : decode cX12_copy 162 = .ok (.iload 4, 2) := by decide +kernel
theorem dX12_copy_164 : decode cX12_copy 164 = .ok (.iadd, 1) := by decide +kernel
theorem dX12_copy_165 : decode cX12_copy 165 = .ok (.iload 6, 2) := by decide +kernel
theorem dX12_copy_167 : decode cX12_copy 167 = .ok (.iadd, 1) := by decide +kernel
theorem dX12_copy_168 : decode cX12_copy 168 = .ok (.aload_n 0, 1) := by decide +kernel
theorem dX12_copy_169 : decode cX12_copy 169 = .ok (.getfield 74, 3) := by decide +kernel
theorem dX12_copy_172 : decode cX12_copy 172 = .ok (.iload 6, 2) := by decide +kernel
theorem dX12_copy_174 : decode cX12_copy 174 = .ok (.iaload, 1) := by decide +kernel
theorem dX12_copy_175 : decode cX12_copy 175 = .ok (.iastore, 1) := by decide +kernel
theorem dX12_copy_176 : decode cX12_copy 176 = .ok (.iinc 6 1, 3) := by decide +kernel
theorem dX12_copy_179 : decode cX12_copy 179 = .ok (.goto (-54), 3) := by decide +kernel
theorem dX12_copy_182 : decode cX12_copy 182 = .ok (.iload 5, 2) := by decide +kernel
theorem dX12_copy_184 : decode cX12_copy 184 = .ok (.ireturn, 1) := by decide +kernel
theorem dX12_drop_0 : decode cX12_drop 0 = .ok (.iload_n 1, 1) := by decide +kernel
theorem dX12_drop_1 : decode cX12_drop 1 = .ok (.invokestatic 278, 3) := by decide +kernel
theorem dX12_drop_4 : decode cX12_drop 4 = .ok (.ifCond .ne 6, 3) := by decide +kernel
theorem dX12_drop_7 : decode cX12_drop 7 = .ok (.bipush (-2), 2) := by decide +kernel
theorem dX12_drop_9 : decode cX12_drop 9 = .ok (.ireturn, 1) := by decide +kernel
theorem dX12_drop_10 : decode cX12_drop 10 = .ok (.aload_n 0, 1) := by decide +kernel
theorem dX12_drop_11 : decode cX12_drop 11 = .ok (.getfield 29, 3) := by decide +kernel
theorem dX12_drop_14 : decode cX12_drop 14 = .ok (.iload_n 1, 1) := by decide +kernel
theorem dX12_drop_15 : decode cX12_drop 15 = .ok (.iaload, 1) := by decide +kernel
theorem dX12_drop_16 : decode cX12_drop 16 = .ok (.ifCond .ge 6, 3) := by decide +kernel
theorem dX12_drop_19 : decode cX12_drop 19 = .ok (.bipush (-11), 2) := by decide +kernel
theorem dX12_drop_21 : decode cX12_drop 21 = .ok (.ireturn, 1) := by decide +kernel
theorem dX12_drop_22 : decode cX12_drop 22 = .ok (.iconst 0, 1) := by decide +kernel
theorem dX12_drop_23 : decode cX12_drop 23 = .ok (.istore_n 2, 1) := by decide +kernel
theorem dX12_drop_24 : decode cX12_drop 24 = .ok (.iconst 0, 1) := by decide +kernel
theorem dX12_drop_25 : decode cX12_drop 25 = .ok (.istore_n 3, 1) := by decide +kernel
theorem dX12_drop_26 : decode cX12_drop 26 = .ok (.iload_n 3, 1) := by decide +kernel
theorem dX12_drop_27 : decode cX12_drop 27 = .ok (.aload_n 0, 1) := by decide +kernel
theorem dX12_drop_28 : decode cX12_drop 28 = .ok (.getfield 29, 3) := by decide +kernel
theorem dX12_drop_31 : decode cX12_drop 31 = .ok (.iload_n 1, 1) := by decide +kernel
theorem dX12_drop_32 : decode cX12_drop 32 = .ok (.iaload, 1) := by decide +kernel
theorem dX12_drop_33 : decode cX12_drop 33 = .ok (.if_icmp .ge 32, 3) := by decide +kernel
theorem dX12_drop_36 : decode cX12_drop 36 = .ok (.iload_n 2, 1) := by decide +kernel
theorem dX12_drop_37 : decode cX12_drop 37 = .ok (.aload_n 0, 1) := by decide +kernel
theorem dX12_drop_38 : decode cX12_drop 38 = .ok (.getfield 32, 3) := by decide +kernel
theorem dX12_drop_41 : decode cX12_drop 41 = .ok (.bipush 10, 2) := by decide +kernel
theorem dX12_drop_43 : decode cX12_drop 43 = .ok (.iload_n 1, 1) := by decide +kernel
theorem dX12_drop_44 : decode cX12_drop 44 = .ok (.imul, 1) := by decide +kernel
theorem dX12_drop_45 : decode cX12_drop 45 = .ok (.iload_n 3, 1) := by decide +kernel
theorem dX12_drop_46 : decode cX12_drop 46 = .ok (.iadd, 1) := by decide +kernel
theorem dX12_drop_47 : decode cX12_drop 47 = .ok (.iaload, 1) := by decide +kernel
theorem dX12_drop_48 : decode cX12_drop 48 = .ok (.iconst (-1), 1) := by decide +kernel
theorem dX12_drop_49 : decode cX12_drop 49 = .ok (.if_icmp .ne 7, 3) := by decide +kernel
theorem dX12_drop_52 : decode cX12_drop 52 = .ok (.iconst 0, 1) := by decide +kernel
theorem dX12_drop_53 : decode cX12_drop 53 = .ok (.goto 4, 3) := by decide +kernel
theorem dX12_drop_56 : decode cX12_drop 56 = .ok (.iconst 1, 1) := by decide +kernel
theorem dX12_drop_57 : decode cX12_drop 57 = .ok (.iadd, 1) := by decide +kernel
theorem dX12_drop_58 : decode cX12_drop 58 = .ok (.istore_n 2, 1) := by decide +kernel
theorem dX12_drop_59 : decode cX12_drop 59 = .ok (.iinc 3 1, 3) := by decide +kernel
theorem dX12_drop_62 : decode cX12_drop 62 = .ok (.goto (-36), 3) := by decide +kernel
theorem dX12_drop_65 : decode cX12_drop 65 = .ok (.aload_n 0, 1) := by decide +kernel
theorem dX12_drop_66 : decode cX12_drop 66 = .ok (.getfield 29, 3) := by decide +kernel
theorem dX12_drop_69 : decode cX12_drop 69 = .ok (.iload_n 1, 1) := by decide +kernel
theorem dX12_drop_70 : decode cX12_drop 70 = .ok (.iconst (-1), 1) := by decide +kernel
theorem dX12_drop_71 : decode cX12_drop 71 = .ok (.iastore, 1) := by decide +kernel
theorem dX12_drop_72 : decode cX12_drop 72 = .ok (.iload_n 2, 1) := by decide +kernel
theorem dX12_drop_73 : decode cX12_drop 73 = .ok (.ireturn, 1) := by decide +kernel
theorem dX12_lameOnes_0 : decode cX12_lameOnes 0 = .ok (.iconst 0, 1) := by decide +kernel
theorem dX12_lameOnes_1 : decode cX12_lameOnes 1 = .ok (.istore_n 1, 1) := by decide +kernel
theorem dX12_lameOnes_2 : decode cX12_lameOnes 2 = .ok (.iconst 0, 1) := by decide +kernel
theorem dX12_lameOnes_3 : decode cX12_lameOnes 3 = .ok (.istore_n 2, 1) := by decide +kernel
theorem dX12_lameOnes_4 : decode cX12_lameOnes 4 = .ok (.iload_n 2, 1) := by decide +kernel
theorem dX12_lameOnes_5 : decode cX12_lameOnes 5 = .ok (.aload_n 0, 1) := by decide +kernel
theorem dX12_lameOnes_6 : decode cX12_lameOnes 6 = .ok (.getfield 7, 3) := by decide +kernel
theorem dX12_lameOnes_9 : decode cX12_lameOnes 9 = .ok (.iconst 0, 1) := by decide +kernel
theorem dX12_lameOnes_10 : decode cX12_lameOnes 10 = .ok (.iaload, 1) := by decide +kernel
theorem dX12_lameOnes_11 : decode cX12_lameOnes 11 = .ok (.if_icmp .ge 23, 3) := by decide +kernel
theorem dX12_lameOnes_14 : decode cX12_lameOnes 14 = .ok (.iload_n 1, 1) := by decide +kernel
theorem dX12_lameOnes_15 : decode cX12_lameOnes 15 = .ok (.aload_n 0, 1) := by decide +kernel
theorem dX12_lameOnes_16 : decode cX12_lameOnes 16 = .ok (.getfield 7, 3) := by decide +kernel
theorem dX12_lameOnes_19 : decode cX12_lameOnes 19 = .ok (.bipush 35, 2) := by decide +kernel
theorem dX12_lameOnes_21 : decode cX12_lameOnes 21 = .ok (.iload_n 2, 1) := by decide +kernel
theorem dX12_lameOnes_22 : decode cX12_lameOnes 22 = .ok (.iadd, 1) := by decide +kernel
theorem dX12_lameOnes_23 : decode cX12_lameOnes 23 = .ok (.iaload, 1) := by decide +kernel
theorem dX12_lameOnes_24 : decode cX12_lameOnes 24 = .ok (.iload_n 2, 1) := by decide +kernel
theorem dX12_lameOnes_25 : decode cX12_lameOnes 25 = .ok (.ishl, 1) := by decide +kernel
theorem dX12_lameOnes_26 : decode cX12_lameOnes 26 = .ok (.ior, 1) := by decide +kernel
theorem dX12_lameOnes_27 : decode cX12_lameOnes 27 = .ok (.istore_n 1, 1) := by decide +kernel
theorem dX12_lameOnes_28 : decode cX12_lameOnes 28 = .ok (.iinc 2 1, 3) := by decide +kernel
theorem dX12_lameOnes_31 : decode cX12_lameOnes 31 = .ok (.goto (-27), 3) := by decide +kernel
theorem dX12_lameOnes_34 : decode cX12_lameOnes 34 = .ok (.iload_n 1, 1) := by decide +kernel
theorem dX12_lameOnes_35 : decode cX12_lameOnes 35 = .ok (.ireturn, 1) := by decide +kernel
theorem dX12_thereOnes_0 : decode cX12_thereOnes 0 = .ok (.iconst 0, 1) := by decide +kernel
theorem dX12_thereOnes_1 : decode cX12_thereOnes 1 = .ok (.istore_n 1, 1) := by decide +kernel
theorem dX12_thereOnes_2 : decode cX12_thereOnes 2 = .ok (.iconst 0, 1) := by decide +kernel
theorem dX12_thereOnes_3 : decode cX12_thereOnes 3 = .ok (.istore_n 2, 1) := by decide +kernel
theorem dX12_thereOnes_4 : decode cX12_thereOnes 4 = .ok (.iload_n 2, 1) := by decide +kernel
theorem dX12_thereOnes_5 : decode cX12_thereOnes 5 = .ok (.aload_n 0, 1) := by decide +kernel
theorem dX12_thereOnes_6 : decode cX12_thereOnes 6 = .ok (.getfield 7, 3) := by decide +kernel
theorem dX12_thereOnes_9 : decode cX12_thereOnes 9 = .ok (.iconst 1, 1) := by decide +kernel
theorem dX12_thereOnes_10 : decode cX12_thereOnes 10 = .ok (.iaload, 1) := by decide +kernel
theorem dX12_thereOnes_11 : decode cX12_thereOnes 11 = .ok (.if_icmp .ge 27, 3) := by decide +kernel
theorem dX12_thereOnes_14 : decode cX12_thereOnes 14 = .ok (.iload_n 1, 1) := by decide +kernel
theorem dX12_thereOnes_15 : decode cX12_thereOnes 15 = .ok (.aload_n 0, 1) := by decide +kernel
theorem dX12_thereOnes_16 : decode cX12_thereOnes 16 = .ok (.iload_n 2, 1) := by decide +kernel
theorem dX12_thereOnes_17 : decode cX12_thereOnes 17 = .ok (.invokevirtual 237, 3) := by decide +kernel
theorem dX12_thereOnes_20 : decode cX12_thereOnes 20 = .ok (.ifCond .eq 7, 3) := by decide +kernel
theorem dX12_thereOnes_23 : decode cX12_thereOnes 23 = .ok (.iconst 0, 1) := by decide +kernel
theorem dX12_thereOnes_24 : decode cX12_thereOnes 24 = .ok (.goto 6, 3) := by decide +kernel
theorem dX12_thereOnes_27 : decode cX12_thereOnes 27 = .ok (.iconst 1, 1) := by decide +kernel
theorem dX12_thereOnes_28 : decode cX12_thereOnes 28 = .ok (.iload_n 2, 1) := by decide +kernel
theorem dX12_thereOnes_29 : decode cX12_thereOnes 29 = .ok (.ishl, 1) := by decide +kernel
theorem dX12_thereOnes_30 : decode cX12_thereOnes 30 = .ok (.ior, 1) := by decide +kernel
theorem dX12_thereOnes_31 : decode cX12_thereOnes 31 = .ok (.istore_n 1, 1) := by decide +kernel
theorem dX12_thereOnes_32 : decode cX12_thereOnes 32 = .ok (.iinc 2 1, 3) := by decide +kernel
theorem dX12_thereOnes_35 : decode cX12_thereOnes 35 = .ok (.goto (-31), 3) := by decide +kernel
theorem dX12_thereOnes_38 : decode cX12_thereOnes 38 = .ok (.iload_n 1, 1) := by decide +kernel
theorem dX12_thereOnes_39 : decode cX12_thereOnes 39 = .ok (.ireturn, 1) := by decide +kernel
theorem dX12_clocks_0 : decode cX12_clocks 0 = .ok (.iconst 0, 1) := by decide +kernel
theorem dX12_clocks_1 : decode cX12_clocks 1 = .ok (.istore_n 1, 1) := by decide +kernel
theorem dX12_clocks_2 : decode cX12_clocks 2 = .ok (.iconst 0, 1) := by decide +kernel
theorem dX12_clocks_3 : decode cX12_clocks 3 = .ok (.istore_n 2, 1) := by decide +kernel
theorem dX12_clocks_4 : decode cX12_clocks 4 = .ok (.iload_n 2, 1) := by decide +kernel
theorem dX12_clocks_5 : decode cX12_clocks 5 = .ok (.aload_n 0, 1) := by decide +kernel
theorem dX12_clocks_6 : decode cX12_clocks 6 = .ok (.getfield 7, 3) := by decide +kernel
theorem dX12_clocks_9 : decode cX12_clocks 9 = .ok (.iconst 1, 1) := by decide +kernel
theorem dX12_clocks_10 : decode cX12_clocks 10 = .ok (.iaload, 1) := by decide +kernel
theorem dX12_clocks_11 : decode cX12_clocks 11 = .ok (.if_icmp .ge 21, 3) := by decide +kernel
theorem dX12_clocks_14 : decode cX12_clocks 14 = .ok (.iload_n 1, 1) := by decide +kernel
theorem dX12_clocks_15 : decode cX12_clocks 15 = .ok (.aload_n 0, 1) := by decide +kernel
theorem dX12_clocks_16 : decode cX12_clocks 16 = .ok (.getfield 7, 3) := by decide +kernel
theorem dX12_clocks_19 : decode cX12_clocks 19 = .ok (.bipush 59, 2) := by decide +kernel
theorem dX12_clocks_21 : decode cX12_clocks 21 = .ok (.iload_n 2, 1) := by decide +kernel
theorem dX12_clocks_22 : decode cX12_clocks 22 = .ok (.iadd, 1) := by decide +kernel
theorem dX12_clocks_23 : decode cX12_clocks 23 = .ok (.iaload, 1) := by decide +kernel
theorem dX12_clocks_24 : decode cX12_clocks 24 = .ok (.iadd, 1) := by decide +kernel
theorem dX12_clocks_25 : decode cX12_clocks 25 = .ok (.istore_n 1, 1) := by decide +kernel
theorem dX12_clocks_26 : decode cX12_clocks 26 = .ok (.iinc 2 1, 3) := by decide +kernel
theorem dX12_clocks_29 : decode cX12_clocks 29 = .ok (.goto (-25), 3) := by decide +kernel
theorem dX12_clocks_32 : decode cX12_clocks 32 = .ok (.iload_n 1, 1) := by decide +kernel
theorem dX12_clocks_33 : decode cX12_clocks 33 = .ok (.ireturn, 1) := by decide +kernel
theorem dX12_booksThere_0 : decode cX12_booksThere 0 = .ok (.iconst 0, 1) := by decide +kernel
theorem dX12_booksThere_1 : decode cX12_booksThere 1 = .ok (.istore_n 1, 1) := by decide +kernel
theorem dX12_booksThere_2 : decode cX12_booksThere 2 = .ok (.iconst 0, 1) := by decide +kernel
theorem dX12_booksThere_3 : decode cX12_booksThere 3 = .ok (.istore_n 2, 1) := by decide +kernel
theorem dX12_booksThere_4 : decode cX12_booksThere 4 = .ok (.iload_n 2, 1) := by decide +kernel
theorem dX12_booksThere_5 : decode cX12_booksThere 5 = .ok (.iconst 4, 1) := by decide +kernel
theorem dX12_booksThere_6 : decode cX12_booksThere 6 = .ok (.if_icmp .ge 26, 3) := by decide +kernel
theorem dX12_booksThere_9 : decode cX12_booksThere 9 = .ok (.iload_n 1, 1) := by decide +kernel
theorem dX12_booksThere_10 : decode cX12_booksThere 10 = .ok (.aload_n 0, 1) := by decide +kernel
theorem dX12_booksThere_11 : decode cX12_booksThere 11 = .ok (.getfield 29, 3) := by decide +kernel
theorem dX12_booksThere_14 : decode cX12_booksThere 14 = .ok (.iload_n 2, 1) := by decide +kernel
theorem dX12_booksThere_15 : decode cX12_booksThere 15 = .ok (.iaload, 1) := by decide +kernel
theorem dX12_booksThere_16 : decode cX12_booksThere 16 = .ok (.ifCond .ge 7, 3) := by decide +kernel
theorem dX12_booksThere_19 : decode cX12_booksThere 19 = .ok (.iconst 0, 1) := by decide +kernel
theorem dX12_booksThere_20 : decode cX12_booksThere 20 = .ok (.goto 4, 3) := by decide +kernel
theorem dX12_booksThere_23 : decode cX12_booksThere 23 = .ok (.iconst 1, 1) := by decide +kernel
theorem dX12_booksThere_24 : decode cX12_booksThere 24 = .ok (.iadd, 1) := by decide +kernel
theorem dX12_booksThere_25 : decode cX12_booksThere 25 = .ok (.istore_n 1, 1) := by decide +kernel
theorem dX12_booksThere_26 : decode cX12_booksThere 26 = .ok (.iinc 2 1, 3) := by decide +kernel
theorem dX12_booksThere_29 : decode cX12_booksThere 29 = .ok (.goto (-25), 3) := by decide +kernel
theorem dX12_booksThere_32 : decode cX12_booksThere 32 = .ok (.iload_n 1, 1) := by decide +kernel
theorem dX12_booksThere_33 : decode cX12_booksThere 33 = .ok (.ireturn, 1) := by decide +kernel
theorem dX12_count_0 : decode cX12_count 0 = .ok (.iload_n 1, 1) := by decide +kernel
theorem dX12_count_1 : decode cX12_count 1 = .ok (.tableswitch 123 0 10 #[59, 67, 74, 81, 88, 93, 98, 103, 108, 113, 118], 59) := by decide +kernel
theorem dX12_count_60 : decode cX12_count 60 = .ok (.aload_n 0, 1) := by decide +kernel
theorem dX12_count_61 : decode cX12_count 61 = .ok (.getfield 7, 3) := by decide +kernel
theorem dX12_count_64 : decode cX12_count 64 = .ok (.bipush 63, 2) := by decide +kernel
theorem dX12_count_66 : decode cX12_count 66 = .ok (.iaload, 1) := by decide +kernel
theorem dX12_count_67 : decode cX12_count 67 = .ok (.ireturn, 1) := by decide +kernel
theorem dX12_count_68 : decode cX12_count 68 = .ok (.aload_n 0, 1) := by decide +kernel
theorem dX12_count_69 : decode cX12_count 69 = .ok (.getfield 7, 3) := by decide +kernel
theorem dX12_count_72 : decode cX12_count 72 = .ok (.iconst 0, 1) := by decide +kernel
theorem dX12_count_73 : decode cX12_count 73 = .ok (.iaload, 1) := by decide +kernel
theorem dX12_count_74 : decode cX12_count 74 = .ok (.ireturn, 1) := by decide +kernel
theorem dX12_count_75 : decode cX12_count 75 = .ok (.aload_n 0, 1) := by decide +kernel
theorem dX12_count_76 : decode cX12_count 76 = .ok (.getfield 7, 3) := by decide +kernel
theorem dX12_count_79 : decode cX12_count 79 = .ok (.iconst 1, 1) := by decide +kernel
theorem dX12_count_80 : decode cX12_count 80 = .ok (.iaload, 1) := by decide +kernel
theorem dX12_count_81 : decode cX12_count 81 = .ok (.ireturn, 1) := by decide +kernel
theorem dX12_count_82 : decode cX12_count 82 = .ok (.aload_n 0, 1) := by decide +kernel
theorem dX12_count_83 : decode cX12_count 83 = .ok (.getfield 7, 3) := by decide +kernel
theorem dX12_count_86 : decode cX12_count 86 = .ok (.iconst 2, 1) := by decide +kernel
theorem dX12_count_87 : decode cX12_count 87 = .ok (.iaload, 1) := by decide +kernel
theorem dX12_count_88 : decode cX12_count 88 = .ok (.ireturn, 1) := by decide +kernel
theorem dX12_count_89 : decode cX12_count 89 = .ok (.aload_n 0, 1) := by decide +kernel
theorem dX12_count_90 : decode cX12_count 90 = .ok (.invokevirtual 299, 3) := by decide +kernel
theorem dX12_count_93 : decode cX12_count 93 = .ok (.ireturn, 1) := by decide +kernel
theorem dX12_count_94 : decode cX12_count 94 = .ok (.aload_n 0, 1) := by decide +kernel
theorem dX12_count_95 : decode cX12_count 95 = .ok (.invokevirtual 302, 3) := by decide +kernel
theorem dX12_count_98 : decode cX12_count 98 = .ok (.ireturn, 1) := by decide +kernel
theorem dX12_count_99 : decode cX12_count 99 = .ok (.aload_n 0, 1) := by decide +kernel
theorem dX12_count_100 : decode cX12_count 100 = .ok (.invokevirtual 305, 3) := by decide +kernel
theorem dX12_count_103 : decode cX12_count 103 = .ok (.ireturn, 1) := by decide +kernel
theorem dX12_count_104 : decode cX12_count 104 = .ok (.aload_n 0, 1) := by decide +kernel
theorem dX12_count_105 : decode cX12_count 105 = .ok (.getfield 166, 3) := by decide +kernel
theorem dX12_count_108 : decode cX12_count 108 = .ok (.ireturn, 1) := by decide +kernel
theorem dX12_count_109 : decode cX12_count 109 = .ok (.aload_n 0, 1) := by decide +kernel
theorem dX12_count_110 : decode cX12_count 110 = .ok (.invokevirtual 308, 3) := by decide +kernel
theorem dX12_count_113 : decode cX12_count 113 = .ok (.ireturn, 1) := by decide +kernel
theorem dX12_count_114 : decode cX12_count 114 = .ok (.aload_n 0, 1) := by decide +kernel
theorem dX12_count_115 : decode cX12_count 115 = .ok (.getfield 163, 3) := by decide +kernel
theorem dX12_count_118 : decode cX12_count 118 = .ok (.ireturn, 1) := by decide +kernel
theorem dX12_count_119 : decode cX12_count 119 = .ok (.aload_n 0, 1) := by decide +kernel
theorem dX12_count_120 : decode cX12_count 120 = .ok (.getfield 83, 3) := by decide +kernel
theorem dX12_count_123 : decode cX12_count 123 = .ok (.ireturn, 1) := by decide +kernel
theorem dX12_count_124 : decode cX12_count 124 = .ok (.bipush (-3), 2) := by decide +kernel
theorem dX12_count_126 : decode cX12_count 126 = .ok (.ireturn, 1) := by decide +kernel
theorem dJ6_compare_7cf53_0 : decode cJ6_compare_7cf53 0 = .ok (.iload_n 0, 1) := by decide +kernel
theorem dJ6_compare_7cf53_1 : decode cJ6_compare_7cf53 1 = .ok (.iload_n 1, 1) := by decide +kernel
theorem dJ6_compare_7cf53_2 : decode cJ6_compare_7cf53 2 = .ok (.if_icmp .ge 7, 3) := by decide +kernel
theorem dJ6_compare_7cf53_5 : decode cJ6_compare_7cf53 5 = .ok (.iconst (-1), 1) := by decide +kernel
theorem dJ6_compare_7cf53_6 : decode cJ6_compare_7cf53 6 = .ok (.goto 13, 3) := by decide +kernel
theorem dJ6_compare_7cf53_9 : decode cJ6_compare_7cf53 9 = .ok (.iload_n 0, 1) := by decide +kernel
theorem dJ6_compare_7cf53_10 : decode cJ6_compare_7cf53 10 = .ok (.iload_n 1, 1) := by decide +kernel
theorem dJ6_compare_7cf53_11 : decode cJ6_compare_7cf53 11 = .ok (.if_icmp .ne 7, 3) := by decide +kernel
theorem dJ6_compare_7cf53_14 : decode cJ6_compare_7cf53 14 = .ok (.iconst 0, 1) := by decide +kernel
theorem dJ6_compare_7cf53_15 : decode cJ6_compare_7cf53 15 = .ok (.goto 4, 3) := by decide +kernel
theorem dJ6_compare_7cf53_18 : decode cJ6_compare_7cf53 18 = .ok (.iconst 1, 1) := by decide +kernel
theorem dJ6_compare_7cf53_19 : decode cJ6_compare_7cf53 19 = .ok (.ireturn, 1) := by decide +kernel
theorem dJ6_bitCount_0f7a4_0 : decode cJ6_bitCount_0f7a4 0 = .ok (.iload_n 0, 1) := by decide +kernel
theorem dJ6_bitCount_0f7a4_1 : decode cJ6_bitCount_0f7a4 1 = .ok (.iload_n 0, 1) := by decide +kernel
theorem dJ6_bitCount_0f7a4_2 : decode cJ6_bitCount_0f7a4 2 = .ok (.iconst 1, 1) := by decide +kernel
theorem dJ6_bitCount_0f7a4_3 : decode cJ6_bitCount_0f7a4 3 = .ok (.iushr, 1) := by decide +kernel
theorem dJ6_bitCount_0f7a4_4 : decode cJ6_bitCount_0f7a4 4 = .ok (.ldc_w 265, 3) := by decide +kernel
theorem dJ6_bitCount_0f7a4_7 : decode cJ6_bitCount_0f7a4 7 = .ok (.iand, 1) := by decide +kernel
theorem dJ6_bitCount_0f7a4_8 : decode cJ6_bitCount_0f7a4 8 = .ok (.isub, 1) := by decide +kernel
theorem dJ6_bitCount_0f7a4_9 : decode cJ6_bitCount_0f7a4 9 = .ok (.istore_n 0, 1) := by decide +kernel
theorem dJ6_bitCount_0f7a4_10 : decode cJ6_bitCount_0f7a4 10 = .ok (.iload_n 0, 1) := by decide +kernel
theorem dJ6_bitCount_0f7a4_11 : decode cJ6_bitCount_0f7a4 11 = .ok (.ldc_w 266, 3) := by decide +kernel
theorem dJ6_bitCount_0f7a4_14 : decode cJ6_bitCount_0f7a4 14 = .ok (.iand, 1) := by decide +kernel
theorem dJ6_bitCount_0f7a4_15 : decode cJ6_bitCount_0f7a4 15 = .ok (.iload_n 0, 1) := by decide +kernel
theorem dJ6_bitCount_0f7a4_16 : decode cJ6_bitCount_0f7a4 16 = .ok (.iconst 2, 1) := by decide +kernel
theorem dJ6_bitCount_0f7a4_17 : decode cJ6_bitCount_0f7a4 17 = .ok (.iushr, 1) := by decide +kernel
theorem dJ6_bitCount_0f7a4_18 : decode cJ6_bitCount_0f7a4 18 = .ok (.ldc_w 266, 3) := by decide +kernel
theorem dJ6_bitCount_0f7a4_21 : decode cJ6_bitCount_0f7a4 21 = .ok (.iand, 1) := by decide +kernel
theorem dJ6_bitCount_0f7a4_22 : decode cJ6_bitCount_0f7a4 22 = .ok (.iadd, 1) := by decide +kernel
theorem dJ6_bitCount_0f7a4_23 : decode cJ6_bitCount_0f7a4 23 = .ok (.istore_n 0, 1) := by decide +kernel
theorem dJ6_bitCount_0f7a4_24 : decode cJ6_bitCount_0f7a4 24 = .ok (.iload_n 0, 1) := by decide +kernel
theorem dJ6_bitCount_0f7a4_25 : decode cJ6_bitCount_0f7a4 25 = .ok (.iload_n 0, 1) := by decide +kernel
theorem dJ6_bitCount_0f7a4_26 : decode cJ6_bitCount_0f7a4 26 = .ok (.iconst 4, 1) := by decide +kernel
theorem dJ6_bitCount_0f7a4_27 : decode cJ6_bitCount_0f7a4 27 = .ok (.iushr, 1) := by decide +kernel
theorem dJ6_bitCount_0f7a4_28 : decode cJ6_bitCount_0f7a4 28 = .ok (.iadd, 1) := by decide +kernel
theorem dJ6_bitCount_0f7a4_29 : decode cJ6_bitCount_0f7a4 29 = .ok (.ldc_w 267, 3) := by decide +kernel
theorem dJ6_bitCount_0f7a4_32 : decode cJ6_bitCount_0f7a4 32 = .ok (.iand, 1) := by decide +kernel
theorem dJ6_bitCount_0f7a4_33 : decode cJ6_bitCount_0f7a4 33 = .ok (.istore_n 0, 1) := by decide +kernel
theorem dJ6_bitCount_0f7a4_34 : decode cJ6_bitCount_0f7a4 34 = .ok (.iload_n 0, 1) := by decide +kernel
theorem dJ6_bitCount_0f7a4_35 : decode cJ6_bitCount_0f7a4 35 = .ok (.iload_n 0, 1) := by decide +kernel
theorem dJ6_bitCount_0f7a4_36 : decode cJ6_bitCount_0f7a4 36 = .ok (.bipush 8, 2) := by decide +kernel
theorem dJ6_bitCount_0f7a4_38 : decode cJ6_bitCount_0f7a4 38 = .ok (.iushr, 1) := by decide +kernel
theorem dJ6_bitCount_0f7a4_39 : decode cJ6_bitCount_0f7a4 39 = .ok (.iadd, 1) := by decide +kernel
theorem dJ6_bitCount_0f7a4_40 : decode cJ6_bitCount_0f7a4 40 = .ok (.istore_n 0, 1) := by decide +kernel
theorem dJ6_bitCount_0f7a4_41 : decode cJ6_bitCount_0f7a4 41 = .ok (.iload_n 0, 1) := by decide +kernel
theorem dJ6_bitCount_0f7a4_42 : decode cJ6_bitCount_0f7a4 42 = .ok (.iload_n 0, 1) := by decide +kernel
theorem dJ6_bitCount_0f7a4_43 : decode cJ6_bitCount_0f7a4 43 = .ok (.bipush 16, 2) := by decide +kernel
theorem dJ6_bitCount_0f7a4_45 : decode cJ6_bitCount_0f7a4 45 = .ok (.iushr, 1) := by decide +kernel
theorem dJ6_bitCount_0f7a4_46 : decode cJ6_bitCount_0f7a4 46 = .ok (.iadd, 1) := by decide +kernel
theorem dJ6_bitCount_0f7a4_47 : decode cJ6_bitCount_0f7a4 47 = .ok (.istore_n 0, 1) := by decide +kernel
theorem dJ6_bitCount_0f7a4_48 : decode cJ6_bitCount_0f7a4 48 = .ok (.iload_n 0, 1) := by decide +kernel
theorem dJ6_bitCount_0f7a4_49 : decode cJ6_bitCount_0f7a4 49 = .ok (.bipush 63, 2) := by decide +kernel
theorem dJ6_bitCount_0f7a4_51 : decode cJ6_bitCount_0f7a4 51 = .ok (.iand, 1) := by decide +kernel
theorem dJ6_bitCount_0f7a4_52 : decode cJ6_bitCount_0f7a4 52 = .ok (.ireturn, 1) := by decide +kernel
theorem dJ9_max_7cf53_0 : decode cJ9_max_7cf53 0 = .ok (.iload_n 0, 1) := by decide +kernel
theorem dJ9_max_7cf53_1 : decode cJ9_max_7cf53 1 = .ok (.iload_n 1, 1) := by decide +kernel
theorem dJ9_max_7cf53_2 : decode cJ9_max_7cf53 2 = .ok (.if_icmp .lt 7, 3) := by decide +kernel
theorem dJ9_max_7cf53_5 : decode cJ9_max_7cf53 5 = .ok (.iload_n 0, 1) := by decide +kernel
theorem dJ9_max_7cf53_6 : decode cJ9_max_7cf53 6 = .ok (.goto 4, 3) := by decide +kernel
theorem dJ9_max_7cf53_9 : decode cJ9_max_7cf53 9 = .ok (.iload_n 1, 1) := by decide +kernel
theorem dJ9_max_7cf53_10 : decode cJ9_max_7cf53 10 = .ok (.ireturn, 1) := by decide +kernel
theorem dJ9_min_7cf53_0 : decode cJ9_min_7cf53 0 = .ok (.iload_n 0, 1) := by decide +kernel
theorem dJ9_min_7cf53_1 : decode cJ9_min_7cf53 1 = .ok (.iload_n 1, 1) := by decide +kernel
theorem dJ9_min_7cf53_2 : decode cJ9_min_7cf53 2 = .ok (.if_icmp .gt 7, 3) := by decide +kernel
theorem dJ9_min_7cf53_5 : decode cJ9_min_7cf53 5 = .ok (.iload_n 0, 1) := by decide +kernel
theorem dJ9_min_7cf53_6 : decode cJ9_min_7cf53 6 = .ok (.goto 4, 3) := by decide +kernel
theorem dJ9_min_7cf53_9 : decode cJ9_min_7cf53 9 = .ok (.iload_n 1, 1) := by decide +kernel
theorem dJ9_min_7cf53_10 : decode cJ9_min_7cf53 10 = .ok (.ireturn, 1) := by decide +kernel
theorem dJ0_length_8abf5_0 : decode cJ0_length_8abf5 0 = .ok (.aload_n 0, 1) := by decide +kernel
theorem dJ0_length_8abf5_1 : decode cJ0_length_8abf5 1 = .ok (.getfield 9, 3) := by decide +kernel
theorem dJ0_length_8abf5_4 : decode cJ0_length_8abf5 4 = .ok (.arraylength, 1) := by decide +kernel
theorem dJ0_length_8abf5_5 : decode cJ0_length_8abf5 5 = .ok (.aload_n 0, 1) := by decide +kernel
theorem dJ0_length_8abf5_6 : decode cJ0_length_8abf5 6 = .ok (.invokevirtual 335, 3) := by decide +kernel
theorem dJ0_length_8abf5_9 : decode cJ0_length_8abf5 9 = .ok (.ishr, 1) := by decide +kernel
theorem dJ0_length_8abf5_10 : decode cJ0_length_8abf5 10 = .ok (.ireturn, 1) := by decide +kernel
theorem dJ0_charAt_5068e_0 : decode cJ0_charAt_5068e 0 = .ok (.aload_n 0, 1) := by decide +kernel
theorem dJ0_charAt_5068e_1 : decode cJ0_charAt_5068e 1 = .ok (.invokevirtual 492, 3) := by decide +kernel
theorem dJ0_charAt_5068e_4 : decode cJ0_charAt_5068e 4 = .ok (.ifCond .eq 12, 3) := by decide +kernel
theorem dJ0_charAt_5068e_7 : decode cJ0_charAt_5068e 7 = .ok (.aload_n 0, 1) := by decide +kernel
theorem dJ0_charAt_5068e_8 : decode cJ0_charAt_5068e 8 = .ok (.getfield 9, 3) := by decide +kernel
theorem dJ0_charAt_5068e_11 : decode cJ0_charAt_5068e 11 = .ok (.iload_n 1, 1) := by decide +kernel
theorem dJ0_charAt_5068e_12 : decode cJ0_charAt_5068e 12 = .ok (.invokestatic 495, 3) := by decide +kernel
theorem dJ0_charAt_5068e_15 : decode cJ0_charAt_5068e 15 = .ok (.ireturn, 1) := by decide +kernel
theorem dJ0_charAt_5068e_16 : decode cJ0_charAt_5068e 16 = .ok (.aload_n 0, 1) := by decide +kernel
theorem dJ0_charAt_5068e_17 : decode cJ0_charAt_5068e 17 = .ok (.getfield 9, 3) := by decide +kernel
theorem dJ0_charAt_5068e_20 : decode cJ0_charAt_5068e 20 = .ok (.iload_n 1, 1) := by decide +kernel
theorem dJ0_charAt_5068e_21 : decode cJ0_charAt_5068e 21 = .ok (.invokestatic 498, 3) := by decide +kernel
theorem dJ0_charAt_5068e_24 : decode cJ0_charAt_5068e 24 = .ok (.ireturn, 1) := by decide +kernel
theorem dJ0_coder_7d493_0 : decode cJ0_coder_7d493 0 = .ok (.getstatic 38, 3) := by decide +kernel
theorem dJ0_coder_7d493_3 : decode cJ0_coder_7d493 3 = .ok (.ifCond .eq 10, 3) := by decide +kernel
theorem dJ0_coder_7d493_6 : decode cJ0_coder_7d493 6 = .ok (.aload_n 0, 1) := by decide +kernel
theorem dJ0_coder_7d493_7 : decode cJ0_coder_7d493 7 = .ok (.getfield 15, 3) := by decide +kernel
theorem dJ0_coder_7d493_10 : decode cJ0_coder_7d493 10 = .ok (.goto 4, 3) := by decide +kernel
theorem dJ0_coder_7d493_13 : decode cJ0_coder_7d493 13 = .ok (.iconst 1, 1) := by decide +kernel
theorem dJ0_coder_7d493_14 : decode cJ0_coder_7d493 14 = .ok (.ireturn, 1) := by decide +kernel
theorem dJ0_isLatin1_aae02_0 : decode cJ0_isLatin1_aae02 0 = .ok (.getstatic 38, 3) := by decide +kernel
theorem dJ0_isLatin1_aae02_3 : decode cJ0_isLatin1_aae02 3 = .ok (.ifCond .eq 14, 3) := by decide +kernel
theorem dJ0_isLatin1_aae02_6 : decode cJ0_isLatin1_aae02 6 = .ok (.aload_n 0, 1) := by decide +kernel
theorem dJ0_isLatin1_aae02_7 : decode cJ0_isLatin1_aae02 7 = .ok (.getfield 15, 3) := by decide +kernel
theorem dJ0_isLatin1_aae02_10 : decode cJ0_isLatin1_aae02 10 = .ok (.ifCond .ne 7, 3) := by decide +kernel
theorem dJ0_isLatin1_aae02_13 : decode cJ0_isLatin1_aae02 13 = .ok (.iconst 1, 1) := by decide +kernel
theorem dJ0_isLatin1_aae02_14 : decode cJ0_isLatin1_aae02 14 = .ok (.goto 4, 3) := by decide +kernel
theorem dJ0_isLatin1_aae02_17 : decode cJ0_isLatin1_aae02 17 = .ok (.iconst 0, 1) := by decide +kernel
theorem dJ0_isLatin1_aae02_18 : decode cJ0_isLatin1_aae02 18 = .ok (.ireturn, 1) := by decide +kernel
theorem dJ0_checkIndex_df160_0 : decode cJ0_checkIndex_df160 0 = .ok (.iload_n 0, 1) := by decide +kernel
theorem dJ0_checkIndex_df160_1 : decode cJ0_checkIndex_df160 1 = .ok (.iload_n 1, 1) := by decide +kernel
theorem dJ0_checkIndex_df160_2 : decode cJ0_checkIndex_df160 2 = .ok (.getstatic 1053, 3) := by decide +kernel
theorem dJ0_checkIndex_df160_5 : decode cJ0_checkIndex_df160 5 = .ok (.invokestatic 1059, 3) := by decide +kernel
theorem dJ0_checkIndex_df160_8 : decode cJ0_checkIndex_df160 8 = .ok (.pop, 1) := by decide +kernel
theorem dJ0_checkIndex_df160_9 : decode cJ0_checkIndex_df160 9 = .ok (.return_, 1) := by decide +kernel
theorem dJ1_charAt_3b067_0 : decode cJ1_charAt_3b067 0 = .ok (.iload_n 1, 1) := by decide +kernel
theorem dJ1_charAt_3b067_1 : decode cJ1_charAt_3b067 1 = .ok (.aload_n 0, 1) := by decide +kernel
theorem dJ1_charAt_3b067_2 : decode cJ1_charAt_3b067 2 = .ok (.arraylength, 1) := by decide +kernel
theorem dJ1_charAt_3b067_3 : decode cJ1_charAt_3b067 3 = .ok (.invokestatic 9, 3) := by decide +kernel
theorem dJ1_charAt_3b067_6 : decode cJ1_charAt_3b067 6 = .ok (.aload_n 0, 1) := by decide +kernel
theorem dJ1_charAt_3b067_7 : decode cJ1_charAt_3b067 7 = .ok (.iload_n 1, 1) := by decide +kernel
theorem dJ1_charAt_3b067_8 : decode cJ1_charAt_3b067 8 = .ok (.baload, 1) := by decide +kernel
theorem dJ1_charAt_3b067_9 : decode cJ1_charAt_3b067 9 = .ok (.sipush 255, 3) := by decide +kernel
theorem dJ1_charAt_3b067_12 : decode cJ1_charAt_3b067 12 = .ok (.iand, 1) := by decide +kernel
theorem dJ1_charAt_3b067_13 : decode cJ1_charAt_3b067 13 = .ok (.i2c, 1) := by decide +kernel
theorem dJ1_charAt_3b067_14 : decode cJ1_charAt_3b067 14 = .ok (.ireturn, 1) := by decide +kernel
theorem dJ2_getChar_3b067_0 : decode cJ2_getChar_3b067 0 = .ok (.getstatic 44, 3) := by decide +kernel
theorem dJ2_getChar_3b067_3 : decode cJ2_getChar_3b067 3 = .ok (.ifCond .ne 25, 3) := by decide +kernel
theorem dJ2_getChar_3b067_6 : decode cJ2_getChar_3b067 6 = .ok (.iload_n 1, 1) := by decide +kernel
theorem dJ2_getChar_3b067_7 : decode cJ2_getChar_3b067 7 = .ok (.ifCond .lt 11, 3) := by decide +kernel
theorem dJ2_getChar_3b067_10 : decode cJ2_getChar_3b067 10 = .ok (.iload_n 1, 1) := by decide +kernel
theorem dJ2_getChar_3b067_11 : decode cJ2_getChar_3b067 11 = .ok (.aload_n 0, 1) := by decide +kernel
theorem dJ2_getChar_3b067_12 : decode cJ2_getChar_3b067 12 = .ok (.invokestatic 48, 3) := by decide +kernel
theorem dJ2_getChar_3b067_15 : decode cJ2_getChar_3b067 15 = .ok (.if_icmp .lt 13, 3) := by decide +kernel
theorem dJ2_getChar_3b067_18 : decode cJ2_getChar_3b067 18 = .ok (.new 52, 3) := by decide +kernel
theorem dJ2_getChar_3b067_21 : decode cJ2_getChar_3b067 21 = .ok (.dup, 1) := by decide +kernel
theorem dJ2_getChar_3b067_22 : decode cJ2_getChar_3b067 22 = .ok (.ldc 54, 2) := by decide +kernel
theorem dJ2_getChar_3b067_24 : decode cJ2_getChar_3b067 24 = .ok (.invokespecial 56, 3) := by decide +kernel
theorem dJ2_getChar_3b067_27 : decode cJ2_getChar_3b067 27 = .ok (.athrow, 1) := by decide +kernel
theorem dJ2_getChar_3b067_28 : decode cJ2_getChar_3b067 28 = .ok (.iload_n 1, 1) := by decide +kernel
theorem dJ2_getChar_3b067_29 : decode cJ2_getChar_3b067 29 = .ok (.iconst 1, 1) := by decide +kernel
theorem dJ2_getChar_3b067_30 : decode cJ2_getChar_3b067 30 = .ok (.ishl, 1) := by decide +kernel
theorem dJ2_getChar_3b067_31 : decode cJ2_getChar_3b067 31 = .ok (.istore_n 1, 1) := by decide +kernel
theorem dJ2_getChar_3b067_32 : decode cJ2_getChar_3b067 32 = .ok (.aload_n 0, 1) := by decide +kernel
theorem dJ2_getChar_3b067_33 : decode cJ2_getChar_3b067 33 = .ok (.iload_n 1, 1) := by decide +kernel
theorem dJ2_getChar_3b067_34 : decode cJ2_getChar_3b067 34 = .ok (.iinc 1 1, 3) := by decide +kernel
theorem dJ2_getChar_3b067_37 : decode cJ2_getChar_3b067 37 = .ok (.baload, 1) := by decide +kernel
theorem dJ2_getChar_3b067_38 : decode cJ2_getChar_3b067 38 = .ok (.sipush 255, 3) := by decide +kernel
theorem dJ2_getChar_3b067_41 : decode cJ2_getChar_3b067 41 = .ok (.iand, 1) := by decide +kernel
theorem dJ2_getChar_3b067_42 : decode cJ2_getChar_3b067 42 = .ok (.getstatic 59, 3) := by decide +kernel
theorem dJ2_getChar_3b067_45 : decode cJ2_getChar_3b067 45 = .ok (.ishl, 1) := by decide +kernel
theorem dJ2_getChar_3b067_46 : decode cJ2_getChar_3b067 46 = .ok (.aload_n 0, 1) := by decide +kernel
theorem dJ2_getChar_3b067_47 : decode cJ2_getChar_3b067 47 = .ok (.iload_n 1, 1) := by decide +kernel
theorem dJ2_getChar_3b067_48 : decode cJ2_getChar_3b067 48 = .ok (.baload, 1) := by decide +kernel
theorem dJ2_getChar_3b067_49 : decode cJ2_getChar_3b067 49 = .ok (.sipush 255, 3) := by decide +kernel
theorem dJ2_getChar_3b067_52 : decode cJ2_getChar_3b067 52 = .ok (.iand, 1) := by decide +kernel
theorem dJ2_getChar_3b067_53 : decode cJ2_getChar_3b067 53 = .ok (.getstatic 63, 3) := by decide +kernel
theorem dJ2_getChar_3b067_56 : decode cJ2_getChar_3b067 56 = .ok (.ishl, 1) := by decide +kernel
theorem dJ2_getChar_3b067_57 : decode cJ2_getChar_3b067 57 = .ok (.ior, 1) := by decide +kernel
theorem dJ2_getChar_3b067_58 : decode cJ2_getChar_3b067 58 = .ok (.i2c, 1) := by decide +kernel
theorem dJ2_getChar_3b067_59 : decode cJ2_getChar_3b067 59 = .ok (.ireturn, 1) := by decide +kernel
theorem dJ2_length_9d52b_0 : decode cJ2_length_9d52b 0 = .ok (.aload_n 0, 1) := by decide +kernel
theorem dJ2_length_9d52b_1 : decode cJ2_length_9d52b 1 = .ok (.arraylength, 1) := by decide +kernel
theorem dJ2_length_9d52b_2 : decode cJ2_length_9d52b 2 = .ok (.iconst 1, 1) := by decide +kernel
theorem dJ2_length_9d52b_3 : decode cJ2_length_9d52b 3 = .ok (.ishr, 1) := by decide +kernel
theorem dJ2_length_9d52b_4 : decode cJ2_length_9d52b 4 = .ok (.ireturn, 1) := by decide +kernel
theorem dJ2_charAt_3b067_0 : decode cJ2_charAt_3b067 0 = .ok (.iload_n 1, 1) := by decide +kernel
theorem dJ2_charAt_3b067_1 : decode cJ2_charAt_3b067 1 = .ok (.aload_n 0, 1) := by decide +kernel
theorem dJ2_charAt_3b067_2 : decode cJ2_charAt_3b067 2 = .ok (.invokestatic 67, 3) := by decide +kernel
theorem dJ2_charAt_3b067_5 : decode cJ2_charAt_3b067 5 = .ok (.aload_n 0, 1) := by decide +kernel
theorem dJ2_charAt_3b067_6 : decode cJ2_charAt_3b067 6 = .ok (.iload_n 1, 1) := by decide +kernel
theorem dJ2_charAt_3b067_7 : decode cJ2_charAt_3b067 7 = .ok (.invokestatic 71, 3) := by decide +kernel
theorem dJ2_charAt_3b067_10 : decode cJ2_charAt_3b067 10 = .ok (.ireturn, 1) := by decide +kernel
theorem dJ2_checkIndex_2214a_0 : decode cJ2_checkIndex_2214a 0 = .ok (.iload_n 0, 1) := by decide +kernel
theorem dJ2_checkIndex_2214a_1 : decode cJ2_checkIndex_2214a 1 = .ok (.aload_n 1, 1) := by decide +kernel
theorem dJ2_checkIndex_2214a_2 : decode cJ2_checkIndex_2214a 2 = .ok (.invokestatic 48, 3) := by decide +kernel
theorem dJ2_checkIndex_2214a_5 : decode cJ2_checkIndex_2214a 5 = .ok (.invokestatic 414, 3) := by decide +kernel
theorem dJ2_checkIndex_2214a_8 : decode cJ2_checkIndex_2214a 8 = .ok (.return_, 1) := by decide +kernel
theorem dJ3_checkIndex_8e157_0 : decode cJ3_checkIndex_8e157 0 = .ok (.iload_n 0, 1) := by decide +kernel
theorem dJ3_checkIndex_8e157_1 : decode cJ3_checkIndex_8e157 1 = .ok (.ifCond .lt 8, 3) := by decide +kernel
theorem dJ3_checkIndex_8e157_4 : decode cJ3_checkIndex_8e157 4 = .ok (.iload_n 0, 1) := by decide +kernel
theorem dJ3_checkIndex_8e157_5 : decode cJ3_checkIndex_8e157 5 = .ok (.iload_n 1, 1) := by decide +kernel
theorem dJ3_checkIndex_8e157_6 : decode cJ3_checkIndex_8e157 6 = .ok (.if_icmp .lt 10, 3) := by decide +kernel
theorem dJ3_checkIndex_8e157_9 : decode cJ3_checkIndex_8e157 9 = .ok (.aload_n 2, 1) := by decide +kernel
theorem dJ3_checkIndex_8e157_10 : decode cJ3_checkIndex_8e157 10 = .ok (.iload_n 0, 1) := by decide +kernel
theorem dJ3_checkIndex_8e157_11 : decode cJ3_checkIndex_8e157 11 = .ok (.iload_n 1, 1) := by decide +kernel
theorem dJ3_checkIndex_8e157_12 : decode cJ3_checkIndex_8e157 12 = .ok (.invokestatic 95, 3) := by decide +kernel
theorem dJ3_checkIndex_8e157_15 : decode cJ3_checkIndex_8e157 15 = .ok (.athrow, 1) := by decide +kernel
theorem dJ3_checkIndex_8e157_16 : decode cJ3_checkIndex_8e157 16 = .ok (.iload_n 0, 1) := by decide +kernel
theorem dJ3_checkIndex_8e157_17 : decode cJ3_checkIndex_8e157 17 = .ok (.ireturn, 1) := by decide +kernel
theorem dL_law_0 : decode cL_law 0 = .ok (.new 7, 3) := by decide +kernel
theorem dL_law_3 : decode cL_law 3 = .ok (.dup, 1) := by decide +kernel
theorem dL_law_4 : decode cL_law 4 = .ok (.invokespecial 9, 3) := by decide +kernel
theorem dL_law_7 : decode cL_law 7 = .ok (.astore_n 1, 1) := by decide +kernel
theorem dL_law_8 : decode cL_law 8 = .ok (.new 10, 3) := by decide +kernel
theorem dL_law_11 : decode cL_law 11 = .ok (.dup, 1) := by decide +kernel
theorem dL_law_12 : decode cL_law 12 = .ok (.invokespecial 12, 3) := by decide +kernel
theorem dL_law_15 : decode cL_law 15 = .ok (.astore_n 2, 1) := by decide +kernel
theorem dL_law_16 : decode cL_law 16 = .ok (.iconst 0, 1) := by decide +kernel
theorem dL_law_17 : decode cL_law 17 = .ok (.istore_n 3, 1) := by decide +kernel
theorem dL_law_18 : decode cL_law 18 = .ok (.iload_n 3, 1) := by decide +kernel
theorem dL_law_19 : decode cL_law 19 = .ok (.aload_n 0, 1) := by decide +kernel
theorem dL_law_20 : decode cL_law 20 = .ok (.arraylength, 1) := by decide +kernel
theorem dL_law_21 : decode cL_law 21 = .ok (.bipush 6, 2) := by decide +kernel
theorem dL_law_23 : decode cL_law 23 = .ok (.isub, 1) := by decide +kernel
theorem dL_law_24 : decode cL_law 24 = .ok (.if_icmp .gt 1128, 3) := by decide +kernel
theorem dL_law_27 : decode cL_law 27 = .ok (.aload_n 0, 1) := by decide +kernel
theorem dL_law_28 : decode cL_law 28 = .ok (.iload_n 3, 1) := by decide +kernel
theorem dL_law_29 : decode cL_law 29 = .ok (.iaload, 1) := by decide +kernel
theorem dL_law_30 : decode cL_law 30 = .ok (.bipush 63, 2) := by decide +kernel
theorem dL_law_32 : decode cL_law 32 = .ok (.iand, 1) := by decide +kernel
theorem dL_law_33 : decode cL_law 33 = .ok (.tableswitch 1113 0 33 #[151, 174, 187, 200, 213, 246, 279, 302, 335, 358, 381, 404, 437, 470, 483, 506, 529, 552, 595, 628, 651, 674, 707, 760, 803, 816, 829, 842, 875, 928, 971, 1004, 1067, 1090], 151) := by decide +kernel
theorem dL_law_184 : decode cL_law 184 = .ok (.aload_n 1, 1) := by decide +kernel
theorem dL_law_185 : decode cL_law 185 = .ok (.aload_n 0, 1) := by decide +kernel
theorem dL_law_186 : decode cL_law 186 = .ok (.iload_n 3, 1) := by decide +kernel
theorem dL_law_187 : decode cL_law 187 = .ok (.iconst 1, 1) := by decide +kernel
theorem dL_law_188 : decode cL_law 188 = .ok (.iadd, 1) := by decide +kernel
theorem dL_law_189 : decode cL_law 189 = .ok (.iaload, 1) := by decide +kernel
theorem dL_law_190 : decode cL_law 190 = .ok (.invokevirtual 13, 3) := by decide +kernel
theorem dL_law_193 : decode cL_law 193 = .ok (.aload_n 2, 1) := by decide +kernel
theorem dL_law_194 : decode cL_law 194 = .ok (.aload_n 0, 1) := by decide +kernel
theorem dL_law_195 : decode cL_law 195 = .ok (.iload_n 3, 1) := by decide +kernel
theorem dL_law_196 : decode cL_law 196 = .ok (.iconst 1, 1) := by decide +kernel
theorem dL_law_197 : decode cL_law 197 = .ok (.iadd, 1) := by decide +kernel
theorem dL_law_198 : decode cL_law 198 = .ok (.iaload, 1) := by decide +kernel
theorem dL_law_199 : decode cL_law 199 = .ok (.invokevirtual 17, 3) := by decide +kernel
theorem dL_law_202 : decode cL_law 202 = .ok (.if_icmp .eq 944, 3) := by decide +kernel
theorem dL_law_205 : decode cL_law 205 = .ok (.iconst 0, 1) := by decide +kernel
theorem dL_law_206 : decode cL_law 206 = .ok (.ireturn, 1) := by decide +kernel
theorem dL_law_207 : decode cL_law 207 = .ok (.aload_n 1, 1) := by decide +kernel
theorem dL_law_208 : decode cL_law 208 = .ok (.invokevirtual 18, 3) := by decide +kernel
theorem dL_law_211 : decode cL_law 211 = .ok (.aload_n 2, 1) := by decide +kernel
theorem dL_law_212 : decode cL_law 212 = .ok (.invokevirtual 22, 3) := by decide +kernel
theorem dL_law_215 : decode cL_law 215 = .ok (.if_icmp .eq 931, 3) := by decide +kernel
theorem dL_law_218 : decode cL_law 218 = .ok (.iconst 0, 1) := by decide +kernel
theorem dL_law_219 : decode cL_law 219 = .ok (.ireturn, 1) := by decide +kernel
theorem dL_law_220 : decode cL_law 220 = .ok (.aload_n 1, 1) := by decide +kernel
theorem dL_law_221 : decode cL_law 221 = .ok (.invokevirtual 23, 3) := by decide +kernel
theorem dL_law_224 : decode cL_law 224 = .ok (.aload_n 2, 1) := by decide +kernel
theorem dL_law_225 : decode cL_law 225 = .ok (.invokevirtual 26, 3) := by decide +kernel
theorem dL_law_228 : decode cL_law 228 = .ok (.if_icmp .eq 918, 3) := by decide +kernel
theorem dL_law_231 : decode cL_law 231 = .ok (.iconst 0, 1) := by decide +kernel
theorem dL_law_232 : decode cL_law 232 = .ok (.ireturn, 1) := by decide +kernel
theorem dL_law_233 : decode cL_law 233 = .ok (.aload_n 1, 1) := by decide +kernel
theorem dL_law_234 : decode cL_law 234 = .ok (.invokevirtual 27, 3) := by decide +kernel
theorem dL_law_237 : decode cL_law 237 = .ok (.aload_n 2, 1) := by decide +kernel
theorem dL_law_238 : decode cL_law 238 = .ok (.invokevirtual 30, 3) := by decide +kernel
theorem dL_law_241 : decode cL_law 241 = .ok (.if_icmp .eq 905, 3) := by decide +kernel
theorem dL_law_244 : decode cL_law 244 = .ok (.iconst 0, 1) := by decide +kernel
theorem dL_law_245 : decode cL_law 245 = .ok (.ireturn, 1) := by decide +kernel
theorem dL_law_246 : decode cL_law 246 = .ok (.aload_n 1, 1) := by decide +kernel
theorem dL_law_247 : decode cL_law 247 = .ok (.aload_n 0, 1) := by decide +kernel
theorem dL_law_248 : decode cL_law 248 = .ok (.iload_n 3, 1) := by decide +kernel
theorem dL_law_249 : decode cL_law 249 = .ok (.iconst 1, 1) := by decide +kernel
theorem dL_law_250 : decode cL_law 250 = .ok (.iadd, 1) := by decide +kernel
theorem dL_law_251 : decode cL_law 251 = .ok (.iaload, 1) := by decide +kernel
theorem dL_law_252 : decode cL_law 252 = .ok (.aload_n 0, 1) := by decide +kernel
theorem dL_law_253 : decode cL_law 253 = .ok (.iload_n 3, 1) := by decide +kernel
theorem dL_law_254 : decode cL_law 254 = .ok (.iconst 2, 1) := by decide +kernel
theorem dL_law_255 : decode cL_law 255 = .ok (.iadd, 1) := by decide +kernel
theorem dL_law_256 : decode cL_law 256 = .ok (.iaload, 1) := by decide +kernel
theorem dL_law_257 : decode cL_law 257 = .ok (.invokevirtual 31, 3) := by decide +kernel
theorem dL_law_260 : decode cL_law 260 = .ok (.aload_n 2, 1) := by decide +kernel
theorem dL_law_261 : decode cL_law 261 = .ok (.aload_n 0, 1) := by decide +kernel
theorem dL_law_262 : decode cL_law 262 = .ok (.iload_n 3, 1) := by decide +kernel
theorem dL_law_263 : decode cL_law 263 = .ok (.iconst 1, 1) := by decide +kernel
theorem dL_law_264 : decode cL_law 264 = .ok (.iadd, 1) := by decide +kernel
theorem dL_law_265 : decode cL_law 265 = .ok (.iaload, 1) := by decide +kernel
theorem dL_law_266 : decode cL_law 266 = .ok (.aload_n 0, 1) := by decide +kernel
theorem dL_law_267 : decode cL_law 267 = .ok (.iload_n 3, 1) := by decide +kernel
theorem dL_law_268 : decode cL_law 268 = .ok (.iconst 2, 1) := by decide +kernel
theorem dL_law_269 : decode cL_law 269 = .ok (.iadd, 1) := by decide +kernel
theorem dL_law_270 : decode cL_law 270 = .ok (.iaload, 1) := by decide +kernel
theorem dL_law_271 : decode cL_law 271 = .ok (.invokevirtual 35, 3) := by decide +kernel
theorem dL_law_274 : decode cL_law 274 = .ok (.if_icmp .eq 872, 3) := by decide +kernel
theorem dL_law_277 : decode cL_law 277 = .ok (.iconst 0, 1) := by decide +kernel
theorem dL_law_278 : decode cL_law 278 = .ok (.ireturn, 1) := by decide +kernel
theorem dL_law_279 : decode cL_law 279 = .ok (.aload_n 1, 1) := by decide +kernel
theorem dL_law_280 : decode cL_law 280 = .ok (.aload_n 0, 1) := by decide +kernel
theorem dL_law_281 : decode cL_law 281 = .ok (.iload_n 3, 1) := by decide +kernel
theorem dL_law_282 : decode cL_law 282 = .ok (.iconst 1, 1) := by decide +kernel
theorem dL_law_283 : decode cL_law 283 = .ok (.iadd, 1) := by decide +kernel
theorem dL_law_284 : decode cL_law 284 = .ok (.iaload, 1) := by decide +kernel
theorem dL_law_285 : decode cL_law 285 = .ok (.aload_n 0, 1) := by decide +kernel
theorem dL_law_286 : decode cL_law 286 = .ok (.iload_n 3, 1) := by decide +kernel
theorem dL_law_287 : decode cL_law 287 = .ok (.iconst 2, 1) := by decide +kernel
theorem dL_law_288 : decode cL_law 288 = .ok (.iadd, 1) := by decide +kernel
theorem dL_law_289 : decode cL_law 289 = .ok (.iaload, 1) := by decide +kernel
theorem dL_law_290 : decode cL_law 290 = .ok (.invokevirtual 36, 3) := by decide +kernel
theorem dL_law_293 : decode cL_law 293 = .ok (.aload_n 2, 1) := by decide +kernel
theorem dL_law_294 : decode cL_law 294 = .ok (.aload_n 0, 1) := by decide +kernel
theorem dL_law_295 : decode cL_law 295 = .ok (.iload_n 3, 1) := by decide +kernel
theorem dL_law_296 : decode cL_law 296 = .ok (.iconst 1, 1) := by decide +kernel
theorem dL_law_297 : decode cL_law 297 = .ok (.iadd, 1) := by decide +kernel
theorem dL_law_298 : decode cL_law 298 = .ok (.iaload, 1) := by decide +kernel
theorem dL_law_299 : decode cL_law 299 = .ok (.aload_n 0, 1) := by decide +kernel
theorem dL_law_300 : decode cL_law 300 = .ok (.iload_n 3, 1) := by decide +kernel
theorem dL_law_301 : decode cL_law 301 = .ok (.iconst 2, 1) := by decide +kernel
theorem dL_law_302 : decode cL_law 302 = .ok (.iadd, 1) := by decide +kernel
theorem dL_law_303 : decode cL_law 303 = .ok (.iaload, 1) := by decide +kernel
theorem dL_law_304 : decode cL_law 304 = .ok (.invokevirtual 39, 3) := by decide +kernel
theorem dL_law_307 : decode cL_law 307 = .ok (.if_icmp .eq 839, 3) := by decide +kernel
theorem dL_law_310 : decode cL_law 310 = .ok (.iconst 0, 1) := by decide +kernel
theorem dL_law_311 : decode cL_law 311 = .ok (.ireturn, 1) := by decide +kernel
theorem dL_law_312 : decode cL_law 312 = .ok (.aload_n 1, 1) := by decide +kernel
theorem dL_law_313 : decode cL_law 313 = .ok (.aload_n 0, 1) := by decide +kernel
theorem dL_law_314 : decode cL_law 314 = .ok (.iload_n 3, 1) := by decide +kernel
theorem dL_law_315 : decode cL_law 315 = .ok (.iconst 1, 1) := by decide +kernel
theorem dL_law_316 : decode cL_law 316 = .ok (.iadd, 1) := by decide +kernel
theorem dL_law_317 : decode cL_law 317 = .ok (.iaload, 1) := by decide +kernel
theorem dL_law_318 : decode cL_law 318 = .ok (.invokevirtual 40, 3) := by decide +kernel
theorem dL_law_321 : decode cL_law 321 = .ok (.aload_n 2, 1) := by decide +kernel
theorem dL_law_322 : decode cL_law 322 = .ok (.aload_n 0, 1) := by decide +kernel
theorem dL_law_323 : decode cL_law 323 = .ok (.iload_n 3, 1) := by decide +kernel
theorem dL_law_324 : decode cL_law 324 = .ok (.iconst 1, 1) := by decide +kernel
theorem dL_law_325 : decode cL_law 325 = .ok (.iadd, 1) := by decide +kernel
theorem dL_law_326 : decode cL_law 326 = .ok (.iaload, 1) := by decide +kernel
theorem dL_law_327 : decode cL_law 327 = .ok (.invokevirtual 43, 3) := by decide +kernel
theorem dL_law_330 : decode cL_law 330 = .ok (.if_icmp .eq 816, 3) := by decide +kernel
theorem dL_law_333 : decode cL_law 333 = .ok (.iconst 0, 1) := by decide +kernel
theorem dL_law_334 : decode cL_law 334 = .ok (.ireturn, 1) := by decide +kernel
theorem dL_law_335 : decode cL_law 335 = .ok (.aload_n 1, 1) := by decide +kernel
theorem dL_law_336 : decode cL_law 336 = .ok (.aload_n 0, 1) := by decide +kernel
theorem dL_law_337 : decode cL_law 337 = .ok (.iload_n 3, 1) := by decide +kernel
theorem dL_law_338 : decode cL_law 338 = .ok (.iconst 1, 1) := by decide +kernel
theorem dL_law_339 : decode cL_law 339 = .ok (.iadd, 1) := by decide +kernel
theorem dL_law_340 : decode cL_law 340 = .ok (.iaload, 1) := by decide +kernel
theorem dL_law_341 : decode cL_law 341 = .ok (.aload_n 0, 1) := by decide +kernel
theorem dL_law_342 : decode cL_law 342 = .ok (.iload_n 3, 1) := by decide +kernel
theorem dL_law_343 : decode cL_law 343 = .ok (.iconst 2, 1) := by decide +kernel
theorem dL_law_344 : decode cL_law 344 = .ok (.iadd, 1) := by decide +kernel
theorem dL_law_345 : decode cL_law 345 = .ok (.iaload, 1) := by decide +kernel
theorem dL_law_346 : decode cL_law 346 = .ok (.invokevirtual 44, 3) := by decide +kernel
theorem dL_law_349 : decode cL_law 349 = .ok (.aload_n 2, 1) := by decide +kernel
theorem dL_law_350 : decode cL_law 350 = .ok (.aload_n 0, 1) := by decide +kernel
theorem dL_law_351 : decode cL_law 351 = .ok (.iload_n 3, 1) := by decide +kernel
theorem dL_law_352 : decode cL_law 352 = .ok (.iconst 1, 1) := by decide +kernel
theorem dL_law_353 : decode cL_law 353 = .ok (.iadd, 1) := by decide +kernel
theorem dL_law_354 : decode cL_law 354 = .ok (.iaload, 1) := by decide +kernel
theorem dL_law_355 : decode cL_law 355 = .ok (.aload_n 0, 1) := by decide +kernel
theorem dL_law_356 : decode cL_law 356 = .ok (.iload_n 3, 1) := by decide +kernel
theorem dL_law_357 : decode cL_law 357 = .ok (.iconst 2, 1) := by decide +kernel
theorem dL_law_358 : decode cL_law 358 = .ok (.iadd, 1) := by decide +kernel
theorem dL_law_359 : decode cL_law 359 = .ok (.iaload, 1) := by decide +kernel
theorem dL_law_360 : decode cL_law 360 = .ok (.invokevirtual 47, 3) := by decide +kernel
theorem dL_law_363 : decode cL_law 363 = .ok (.if_icmp .eq 783, 3) := by decide +kernel
theorem dL_law_366 : decode cL_law 366 = .ok (.iconst 0, 1) := by decide +kernel
theorem dL_law_367 : decode cL_law 367 = .ok (.ireturn, 1) := by decide +kernel
theorem dL_law_368 : decode cL_law 368 = .ok (.aload_n 1, 1) := by decide +kernel
theorem dL_law_369 : decode cL_law 369 = .ok (.aload_n 0, 1) := by decide +kernel
theorem dL_law_370 : decode cL_law 370 = .ok (.iload_n 3, 1) := by decide +kernel
theorem dL_law_371 : decode cL_law 371 = .ok (.iconst 1, 1) := by decide +kernel
theorem dL_law_372 : decode cL_law 372 = .ok (.iadd, 1) := by decide +kernel
theorem dL_law_373 : decode cL_law 373 = .ok (.iaload, 1) := by decide +kernel
theorem dL_law_374 : decode cL_law 374 = .ok (.invokevirtual 48, 3) := by decide +kernel
theorem dL_law_377 : decode cL_law 377 = .ok (.aload_n 2, 1) := by decide +kernel
theorem dL_law_378 : decode cL_law 378 = .ok (.aload_n 0, 1) := by decide +kernel
theorem dL_law_379 : decode cL_law 379 = .ok (.iload_n 3, 1) := by decide +kernel
theorem dL_law_380 : decode cL_law 380 = .ok (.iconst 1, 1) := by decide +kernel
theorem dL_law_381 : decode cL_law 381 = .ok (.iadd, 1) := by decide +kernel
theorem dL_law_382 : decode cL_law 382 = .ok (.iaload, 1) := by decide +kernel
theorem dL_law_383 : decode cL_law 383 = .ok (.invokevirtual 51, 3) := by decide +kernel
theorem dL_law_386 : decode cL_law 386 = .ok (.if_icmp .eq 760, 3) := by decide +kernel
theorem dL_law_389 : decode cL_law 389 = .ok (.iconst 0, 1) := by decide +kernel
theorem dL_law_390 : decode cL_law 390 = .ok (.ireturn, 1) := by decide +kernel
theorem dL_law_391 : decode cL_law 391 = .ok (.aload_n 1, 1) := by decide +kernel
theorem dL_law_392 : decode cL_law 392 = .ok (.aload_n 0, 1) := by decide +kernel
theorem dL_law_393 : decode cL_law 393 = .ok (.iload_n 3, 1) := by decide +kernel
theorem dL_law_394 : decode cL_law 394 = .ok (.iconst 1, 1) := by decide +kernel
theorem dL_law_395 : decode cL_law 395 = .ok (.iadd, 1) := by decide +kernel
theorem dL_law_396 : decode cL_law 396 = .ok (.iaload, 1) := by decide +kernel
theorem dL_law_397 : decode cL_law 397 = .ok (.invokevirtual 52, 3) := by decide +kernel
theorem dL_law_400 : decode cL_law 400 = .ok (.aload_n 2, 1) := by decide +kernel
theorem dL_law_401 : decode cL_law 401 = .ok (.aload_n 0, 1) := by decide +kernel
theorem dL_law_402 : decode cL_law 402 = .ok (.iload_n 3, 1) := by decide +kernel
theorem dL_law_403 : decode cL_law 403 = .ok (.iconst 1, 1) := by decide +kernel
theorem dL_law_404 : decode cL_law 404 = .ok (.iadd, 1) := by decide +kernel
theorem dL_law_405 : decode cL_law 405 = .ok (.iaload, 1) := by decide +kernel
theorem dL_law_406 : decode cL_law 406 = .ok (.invokevirtual 55, 3) := by decide +kernel
theorem dL_law_409 : decode cL_law 409 = .ok (.if_icmp .eq 737, 3) := by decide +kernel
theorem dL_law_412 : decode cL_law 412 = .ok (.iconst 0, 1) := by decide +kernel
theorem dL_law_413 : decode cL_law 413 = .ok (.ireturn, 1) := by decide +kernel
theorem dL_law_414 : decode cL_law 414 = .ok (.aload_n 1, 1) := by decide +kernel
theorem dL_law_415 : decode cL_law 415 = .ok (.aload_n 0, 1) := by decide +kernel
theorem dL_law_416 : decode cL_law 416 = .ok (.iload_n 3, 1) := by decide +kernel
theorem dL_law_417 : decode cL_law 417 = .ok (.iconst 1, 1) := by decide +kernel
theorem dL_law_418 : decode cL_law 418 = .ok (.iadd, 1) := by decide +kernel
theorem dL_law_419 : decode cL_law 419 = .ok (.iaload, 1) := by decide +kernel
theorem dL_law_420 : decode cL_law 420 = .ok (.invokevirtual 56, 3) := by decide +kernel
theorem dL_law_423 : decode cL_law 423 = .ok (.aload_n 2, 1) := by decide +kernel
theorem dL_law_424 : decode cL_law 424 = .ok (.aload_n 0, 1) := by decide +kernel
theorem dL_law_425 : decode cL_law 425 = .ok (.iload_n 3, 1) := by decide +kernel
theorem dL_law_426 : decode cL_law 426 = .ok (.iconst 1, 1) := by decide +kernel
theorem dL_law_427 : decode cL_law 427 = .ok (.iadd, 1) := by decide +kernel
theorem dL_law_428 : decode cL_law 428 = .ok (.iaload, 1) := by decide +kernel
theorem dL_law_429 : decode cL_law 429 = .ok (.invokevirtual 59, 3) := by decide +kernel
theorem dL_law_432 : decode cL_law 432 = .ok (.if_icmp .eq 714, 3) := by decide +kernel
theorem dL_law_435 : decode cL_law 435 = .ok (.iconst 0, 1) := by decide +kernel
theorem dL_law_436 : decode cL_law 436 = .ok (.ireturn, 1) := by decide +kernel
theorem dL_law_437 : decode cL_law 437 = .ok (.aload_n 1, 1) := by decide +kernel
theorem dL_law_438 : decode cL_law 438 = .ok (.aload_n 0, 1) := by decide +kernel
theorem dL_law_439 : decode cL_law 439 = .ok (.iload_n 3, 1) := by decide +kernel
theorem dL_law_440 : decode cL_law 440 = .ok (.iconst 1, 1) := by decide +kernel
theorem dL_law_441 : decode cL_law 441 = .ok (.iadd, 1) := by decide +kernel
theorem dL_law_442 : decode cL_law 442 = .ok (.iaload, 1) := by decide +kernel
theorem dL_law_443 : decode cL_law 443 = .ok (.aload_n 0, 1) := by decide +kernel
theorem dL_law_444 : decode cL_law 444 = .ok (.iload_n 3, 1) := by decide +kernel
theorem dL_law_445 : decode cL_law 445 = .ok (.iconst 2, 1) := by decide +kernel
theorem dL_law_446 : decode cL_law 446 = .ok (.iadd, 1) := by decide +kernel
theorem dL_law_447 : decode cL_law 447 = .ok (.iaload, 1) := by decide +kernel
theorem dL_law_448 : decode cL_law 448 = .ok (.invokevirtual 60, 3) := by decide +kernel
theorem dL_law_451 : decode cL_law 451 = .ok (.aload_n 2, 1) := by decide +kernel
theorem dL_law_452 : decode cL_law 452 = .ok (.aload_n 0, 1) := by decide +kernel
theorem dL_law_453 : decode cL_law 453 = .ok (.iload_n 3, 1) := by decide +kernel
theorem dL_law_454 : decode cL_law 454 = .ok (.iconst 1, 1) := by decide +kernel
theorem dL_law_455 : decode cL_law 455 = .ok (.iadd, 1) := by decide +kernel
theorem dL_law_456 : decode cL_law 456 = .ok (.iaload, 1) := by decide +kernel
theorem dL_law_457 : decode cL_law 457 = .ok (.aload_n 0, 1) := by decide +kernel
theorem dL_law_458 : decode cL_law 458 = .ok (.iload_n 3, 1) := by decide +kernel
theorem dL_law_459 : decode cL_law 459 = .ok (.iconst 2, 1) := by decide +kernel
theorem dL_law_460 : decode cL_law 460 = .ok (.iadd, 1) := by decide +kernel
theorem dL_law_461 : decode cL_law 461 = .ok (.iaload, 1) := by decide +kernel
theorem dL_law_462 : decode cL_law 462 = .ok (.invokevirtual 63, 3) := by decide +kernel
theorem dL_law_465 : decode cL_law 465 = .ok (.if_icmp .eq 681, 3) := by decide +kernel
theorem dL_law_468 : decode cL_law 468 = .ok (.iconst 0, 1) := by decide +kernel
theorem dL_law_469 : decode cL_law 469 = .ok (.ireturn, 1) := by decide +kernel
theorem dL_law_470 : decode cL_law 470 = .ok (.aload_n 1, 1) := by decide +kernel
theorem dL_law_471 : decode cL_law 471 = .ok (.aload_n 0, 1) := by decide +kernel
theorem dL_law_472 : decode cL_law 472 = .ok (.iload_n 3, 1) := by decide +kernel
theorem dL_law_473 : decode cL_law 473 = .ok (.iconst 1, 1) := by decide +kernel
theorem dL_law_474 : decode cL_law 474 = .ok (.iadd, 1) := by decide +kernel
theorem dL_law_475 : decode cL_law 475 = .ok (.iaload, 1) := by decide +kernel
theorem dL_law_476 : decode cL_law 476 = .ok (.aload_n 0, 1) := by decide +kernel
theorem dL_law_477 : decode cL_law 477 = .ok (.iload_n 3, 1) := by decide +kernel
theorem dL_law_478 : decode cL_law 478 = .ok (.iconst 2, 1) := by decide +kernel
theorem dL_law_479 : decode cL_law 479 = .ok (.iadd, 1) := by decide +kernel
theorem dL_law_480 : decode cL_law 480 = .ok (.iaload, 1) := by decide +kernel
theorem dL_law_481 : decode cL_law 481 = .ok (.invokevirtual 64, 3) := by decide +kernel
theorem dL_law_484 : decode cL_law 484 = .ok (.aload_n 2, 1) := by decide +kernel
theorem dL_law_485 : decode cL_law 485 = .ok (.aload_n 0, 1) := by decide +kernel
theorem dL_law_486 : decode cL_law 486 = .ok (.iload_n 3, 1) := by decide +kernel
theorem dL_law_487 : decode cL_law 487 = .ok (.iconst 1, 1) := by decide +kernel
theorem dL_law_488 : decode cL_law 488 = .ok (.iadd, 1) := by decide +kernel
theorem dL_law_489 : decode cL_law 489 = .ok (.iaload, 1) := by decide +kernel
theorem dL_law_490 : decode cL_law 490 = .ok (.aload_n 0, 1) := by decide +kernel
theorem dL_law_491 : decode cL_law 491 = .ok (.iload_n 3, 1) := by decide +kernel
theorem dL_law_492 : decode cL_law 492 = .ok (.iconst 2, 1) := by decide +kernel
theorem dL_law_493 : decode cL_law 493 = .ok (.iadd, 1) := by decide +kernel
theorem dL_law_494 : decode cL_law 494 = .ok (.iaload, 1) := by decide +kernel
theorem dL_law_495 : decode cL_law 495 = .ok (.invokevirtual 67, 3) := by decide +kernel
theorem dL_law_498 : decode cL_law 498 = .ok (.if_icmp .eq 648, 3) := by decide +kernel
theorem dL_law_501 : decode cL_law 501 = .ok (.iconst 0, 1) := by decide +kernel
theorem dL_law_502 : decode cL_law 502 = .ok (.ireturn, 1) := by decide +kernel
theorem dL_law_503 : decode cL_law 503 = .ok (.aload_n 1, 1) := by decide +kernel
theorem dL_law_504 : decode cL_law 504 = .ok (.invokevirtual 68, 3) := by decide +kernel
theorem dL_law_507 : decode cL_law 507 = .ok (.aload_n 2, 1) := by decide +kernel
theorem dL_law_508 : decode cL_law 508 = .ok (.invokevirtual 71, 3) := by decide +kernel
theorem dL_law_511 : decode cL_law 511 = .ok (.if_icmp .eq 635, 3) := by decide +kernel
theorem dL_law_514 : decode cL_law 514 = .ok (.iconst 0, 1) := by decide +kernel
theorem dL_law_515 : decode cL_law 515 = .ok (.ireturn, 1) := by decide +kernel
theorem dL_law_516 : decode cL_law 516 = .ok (.aload_n 1, 1) := by decide +kernel
theorem dL_law_517 : decode cL_law 517 = .ok (.aload_n 0, 1) := by decide +kernel
theorem dL_law_518 : decode cL_law 518 = .ok (.iload_n 3, 1) := by decide +kernel
theorem dL_law_519 : decode cL_law 519 = .ok (.iconst 1, 1) := by decide +kernel
theorem dL_law_520 : decode cL_law 520 = .ok (.iadd, 1) := by decide +kernel
theorem dL_law_521 : decode cL_law 521 = .ok (.iaload, 1) := by decide +kernel
theorem dL_law_522 : decode cL_law 522 = .ok (.invokevirtual 72, 3) := by decide +kernel
theorem dL_law_525 : decode cL_law 525 = .ok (.aload_n 2, 1) := by decide +kernel
theorem dL_law_526 : decode cL_law 526 = .ok (.aload_n 0, 1) := by decide +kernel
theorem dL_law_527 : decode cL_law 527 = .ok (.iload_n 3, 1) := by decide +kernel
theorem dL_law_528 : decode cL_law 528 = .ok (.iconst 1, 1) := by decide +kernel
theorem dL_law_529 : decode cL_law 529 = .ok (.iadd, 1) := by decide +kernel
theorem dL_law_530 : decode cL_law 530 = .ok (.iaload, 1) := by decide +kernel
theorem dL_law_531 : decode cL_law 531 = .ok (.invokevirtual 75, 3) := by decide +kernel
theorem dL_law_534 : decode cL_law 534 = .ok (.if_icmp .eq 612, 3) := by decide +kernel
theorem dL_law_537 : decode cL_law 537 = .ok (.iconst 0, 1) := by decide +kernel
theorem dL_law_538 : decode cL_law 538 = .ok (.ireturn, 1) := by decide +kernel
theorem dL_law_539 : decode cL_law 539 = .ok (.aload_n 1, 1) := by decide +kernel
theorem dL_law_540 : decode cL_law 540 = .ok (.aload_n 0, 1) := by decide +kernel
theorem dL_law_541 : decode cL_law 541 = .ok (.iload_n 3, 1) := by decide +kernel
theorem dL_law_542 : decode cL_law 542 = .ok (.iconst 1, 1) := by decide +kernel
theorem dL_law_543 : decode cL_law 543 = .ok (.iadd, 1) := by decide +kernel
theorem dL_law_544 : decode cL_law 544 = .ok (.iaload, 1) := by decide +kernel
theorem dL_law_545 : decode cL_law 545 = .ok (.invokevirtual 76, 3) := by decide +kernel
theorem dL_law_548 : decode cL_law 548 = .ok (.aload_n 2, 1) := by decide +kernel
theorem dL_law_549 : decode cL_law 549 = .ok (.aload_n 0, 1) := by decide +kernel
theorem dL_law_550 : decode cL_law 550 = .ok (.iload_n 3, 1) := by decide +kernel
theorem dL_law_551 : decode cL_law 551 = .ok (.iconst 1, 1) := by decide +kernel
theorem dL_law_552 : decode cL_law 552 = .ok (.iadd, 1) := by decide +kernel
theorem dL_law_553 : decode cL_law 553 = .ok (.iaload, 1) := by decide +kernel
theorem dL_law_554 : decode cL_law 554 = .ok (.invokevirtual 79, 3) := by decide +kernel
theorem dL_law_557 : decode cL_law 557 = .ok (.if_icmp .eq 589, 3) := by decide +kernel
theorem dL_law_560 : decode cL_law 560 = .ok (.iconst 0, 1) := by decide +kernel
theorem dL_law_561 : decode cL_law 561 = .ok (.ireturn, 1) := by decide +kernel
theorem dL_law_562 : decode cL_law 562 = .ok (.aload_n 1, 1) := by decide +kernel
theorem dL_law_563 : decode cL_law 563 = .ok (.aload_n 0, 1) := by decide +kernel
theorem dL_law_564 : decode cL_law 564 = .ok (.iload_n 3, 1) := by decide +kernel
theorem dL_law_565 : decode cL_law 565 = .ok (.iconst 1, 1) := by decide +kernel
theorem dL_law_566 : decode cL_law 566 = .ok (.iadd, 1) := by decide +kernel
theorem dL_law_567 : decode cL_law 567 = .ok (.iaload, 1) := by decide +kernel
theorem dL_law_568 : decode cL_law 568 = .ok (.invokevirtual 80, 3) := by decide +kernel
theorem dL_law_571 : decode cL_law 571 = .ok (.aload_n 2, 1) := by decide +kernel
theorem dL_law_572 : decode cL_law 572 = .ok (.aload_n 0, 1) := by decide +kernel
theorem dL_law_573 : decode cL_law 573 = .ok (.iload_n 3, 1) := by decide +kernel
theorem dL_law_574 : decode cL_law 574 = .ok (.iconst 1, 1) := by decide +kernel
theorem dL_law_575 : decode cL_law 575 = .ok (.iadd, 1) := by decide +kernel
theorem dL_law_576 : decode cL_law 576 = .ok (.iaload, 1) := by decide +kernel
theorem dL_law_577 : decode cL_law 577 = .ok (.invokevirtual 83, 3) := by decide +kernel
theorem dL_law_580 : decode cL_law 580 = .ok (.if_icmp .eq 566, 3) := by decide +kernel
theorem dL_law_583 : decode cL_law 583 = .ok (.iconst 0, 1) := by decide +kernel
theorem dL_law_584 : decode cL_law 584 = .ok (.ireturn, 1) := by decide +kernel
theorem dL_law_585 : decode cL_law 585 = .ok (.aload_n 1, 1) := by decide +kernel
theorem dL_law_586 : decode cL_law 586 = .ok (.aload_n 0, 1) := by decide +kernel
theorem dL_law_587 : decode cL_law 587 = .ok (.iload_n 3, 1) := by decide +kernel
theorem dL_law_588 : decode cL_law 588 = .ok (.iconst 1, 1) := by decide +kernel
theorem dL_law_589 : decode cL_law 589 = .ok (.iadd, 1) := by decide +kernel
theorem dL_law_590 : decode cL_law 590 = .ok (.iaload, 1) := by decide +kernel
theorem dL_law_591 : decode cL_law 591 = .ok (.aload_n 0, 1) := by decide +kernel
theorem dL_law_592 : decode cL_law 592 = .ok (.iload_n 3, 1) := by decide +kernel
theorem dL_law_593 : decode cL_law 593 = .ok (.iconst 2, 1) := by decide +kernel
theorem dL_law_594 : decode cL_law 594 = .ok (.iadd, 1) := by decide +kernel
theorem dL_law_595 : decode cL_law 595 = .ok (.iaload, 1) := by decide +kernel
theorem dL_law_596 : decode cL_law 596 = .ok (.aload_n 0, 1) := by decide +kernel
theorem dL_law_597 : decode cL_law 597 = .ok (.iload_n 3, 1) := by decide +kernel
theorem dL_law_598 : decode cL_law 598 = .ok (.iconst 3, 1) := by decide +kernel
theorem dL_law_599 : decode cL_law 599 = .ok (.iadd, 1) := by decide +kernel
theorem dL_law_600 : decode cL_law 600 = .ok (.iaload, 1) := by decide +kernel
theorem dL_law_601 : decode cL_law 601 = .ok (.invokevirtual 84, 3) := by decide +kernel
theorem dL_law_604 : decode cL_law 604 = .ok (.aload_n 2, 1) := by decide +kernel
theorem dL_law_605 : decode cL_law 605 = .ok (.aload_n 0, 1) := by decide +kernel
theorem dL_law_606 : decode cL_law 606 = .ok (.iload_n 3, 1) := by decide +kernel
theorem dL_law_607 : decode cL_law 607 = .ok (.iconst 1, 1) := by decide +kernel
theorem dL_law_608 : decode cL_law 608 = .ok (.iadd, 1) := by decide +kernel
theorem dL_law_609 : decode cL_law 609 = .ok (.iaload, 1) := by decide +kernel
theorem dL_law_610 : decode cL_law 610 = .ok (.aload_n 0, 1) := by decide +kernel
theorem dL_law_611 : decode cL_law 611 = .ok (.iload_n 3, 1) := by decide +kernel
theorem dL_law_612 : decode cL_law 612 = .ok (.iconst 2, 1) := by decide +kernel
theorem dL_law_613 : decode cL_law 613 = .ok (.iadd, 1) := by decide +kernel
theorem dL_law_614 : decode cL_law 614 = .ok (.iaload, 1) := by decide +kernel
theorem dL_law_615 : decode cL_law 615 = .ok (.aload_n 0, 1) := by decide +kernel
theorem dL_law_616 : decode cL_law 616 = .ok (.iload_n 3, 1) := by decide +kernel
theorem dL_law_617 : decode cL_law 617 = .ok (.iconst 3, 1) := by decide +kernel
theorem dL_law_618 : decode cL_law 618 = .ok (.iadd, 1) := by decide +kernel
theorem dL_law_619 : decode cL_law 619 = .ok (.iaload, 1) := by decide +kernel
theorem dL_law_620 : decode cL_law 620 = .ok (.invokevirtual 88, 3) := by decide +kernel
theorem dL_law_623 : decode cL_law 623 = .ok (.if_icmp .eq 523, 3) := by decide +kernel
theorem dL_law_626 : decode cL_law 626 = .ok (.iconst 0, 1) := by decide +kernel
theorem dL_law_627 : decode cL_law 627 = .ok (.ireturn, 1) := by decide +kernel
theorem dL_law_628 : decode cL_law 628 = .ok (.aload_n 1, 1) := by decide +kernel
theorem dL_law_629 : decode cL_law 629 = .ok (.aload_n 0, 1) := by decide +kernel
theorem dL_law_630 : decode cL_law 630 = .ok (.iload_n 3, 1) := by decide +kernel
theorem dL_law_631 : decode cL_law 631 = .ok (.iconst 1, 1) := by decide +kernel
theorem dL_law_632 : decode cL_law 632 = .ok (.iadd, 1) := by decide +kernel
theorem dL_law_633 : decode cL_law 633 = .ok (.iaload, 1) := by decide +kernel
theorem dL_law_634 : decode cL_law 634 = .ok (.aload_n 0, 1) := by decide +kernel
theorem dL_law_635 : decode cL_law 635 = .ok (.iload_n 3, 1) := by decide +kernel
theorem dL_law_636 : decode cL_law 636 = .ok (.iconst 2, 1) := by decide +kernel
theorem dL_law_637 : decode cL_law 637 = .ok (.iadd, 1) := by decide +kernel
theorem dL_law_638 : decode cL_law 638 = .ok (.iaload, 1) := by decide +kernel
theorem dL_law_639 : decode cL_law 639 = .ok (.invokevirtual 89, 3) := by decide +kernel
theorem dL_law_642 : decode cL_law 642 = .ok (.aload_n 2, 1) := by decide +kernel
theorem dL_law_643 : decode cL_law 643 = .ok (.aload_n 0, 1) := by decide +kernel
theorem dL_law_644 : decode cL_law 644 = .ok (.iload_n 3, 1) := by decide +kernel
theorem dL_law_645 : decode cL_law 645 = .ok (.iconst 1, 1) := by decide +kernel
theorem dL_law_646 : decode cL_law 646 = .ok (.iadd, 1) := by decide +kernel
theorem dL_law_647 : decode cL_law 647 = .ok (.iaload, 1) := by decide +kernel
theorem dL_law_648 : decode cL_law 648 = .ok (.aload_n 0, 1) := by decide +kernel
theorem dL_law_649 : decode cL_law 649 = .ok (.iload_n 3, 1) := by decide +kernel
theorem dL_law_650 : decode cL_law 650 = .ok (.iconst 2, 1) := by decide +kernel
theorem dL_law_651 : decode cL_law 651 = .ok (.iadd, 1) := by decide +kernel
theorem dL_law_652 : decode cL_law 652 = .ok (.iaload, 1) := by decide +kernel
theorem dL_law_653 : decode cL_law 653 = .ok (.invokevirtual 92, 3) := by decide +kernel
theorem dL_law_656 : decode cL_law 656 = .ok (.if_icmp .eq 490, 3) := by decide +kernel
theorem dL_law_659 : decode cL_law 659 = .ok (.iconst 0, 1) := by decide +kernel
theorem dL_law_660 : decode cL_law 660 = .ok (.ireturn, 1) := by decide +kernel
theorem dL_law_661 : decode cL_law 661 = .ok (.aload_n 1, 1) := by decide +kernel
theorem dL_law_662 : decode cL_law 662 = .ok (.aload_n 0, 1) := by decide +kernel
theorem dL_law_663 : decode cL_law 663 = .ok (.iload_n 3, 1) := by decide +kernel
theorem dL_law_664 : decode cL_law 664 = .ok (.iconst 1, 1) := by decide +kernel
theorem dL_law_665 : decode cL_law 665 = .ok (.iadd, 1) := by decide +kernel
theorem dL_law_666 : decode cL_law 666 = .ok (.iaload, 1) := by decide +kernel
theorem dL_law_667 : decode cL_law 667 = .ok (.invokevirtual 93, 3) := by decide +kernel
theorem dL_law_670 : decode cL_law 670 = .ok (.aload_n 2, 1) := by decide +kernel
theorem dL_law_671 : decode cL_law 671 = .ok (.aload_n 0, 1) := by decide +kernel
theorem dL_law_672 : decode cL_law 672 = .ok (.iload_n 3, 1) := by decide +kernel
theorem dL_law_673 : decode cL_law 673 = .ok (.iconst 1, 1) := by decide +kernel
theorem dL_law_674 : decode cL_law 674 = .ok (.iadd, 1) := by decide +kernel
theorem dL_law_675 : decode cL_law 675 = .ok (.iaload, 1) := by decide +kernel
theorem dL_law_676 : decode cL_law 676 = .ok (.invokevirtual 96, 3) := by decide +kernel
theorem dL_law_679 : decode cL_law 679 = .ok (.if_icmp .eq 467, 3) := by decide +kernel
theorem dL_law_682 : decode cL_law 682 = .ok (.iconst 0, 1) := by decide +kernel
theorem dL_law_683 : decode cL_law 683 = .ok (.ireturn, 1) := by decide +kernel
theorem dL_law_684 : decode cL_law 684 = .ok (.aload_n 1, 1) := by decide +kernel
theorem dL_law_685 : decode cL_law 685 = .ok (.aload_n 0, 1) := by decide +kernel
theorem dL_law_686 : decode cL_law 686 = .ok (.iload_n 3, 1) := by decide +kernel
theorem dL_law_687 : decode cL_law 687 = .ok (.iconst 1, 1) := by decide +kernel
theorem dL_law_688 : decode cL_law 688 = .ok (.iadd, 1) := by decide +kernel
theorem dL_law_689 : decode cL_law 689 = .ok (.iaload, 1) := by decide +kernel
theorem dL_law_690 : decode cL_law 690 = .ok (.invokevirtual 97, 3) := by decide +kernel
theorem dL_law_693 : decode cL_law 693 = .ok (.aload_n 2, 1) := by decide +kernel
theorem dL_law_694 : decode cL_law 694 = .ok (.aload_n 0, 1) := by decide +kernel
theorem dL_law_695 : decode cL_law 695 = .ok (.iload_n 3, 1) := by decide +kernel
theorem dL_law_696 : decode cL_law 696 = .ok (.iconst 1, 1) := by decide +kernel
theorem dL_law_697 : decode cL_law 697 = .ok (.iadd, 1) := by decide +kernel
theorem dL_law_698 : decode cL_law 698 = .ok (.iaload, 1) := by decide +kernel
theorem dL_law_699 : decode cL_law 699 = .ok (.invokevirtual 100, 3) := by decide +kernel
theorem dL_law_702 : decode cL_law 702 = .ok (.if_icmp .eq 444, 3) := by decide +kernel
theorem dL_law_705 : decode cL_law 705 = .ok (.iconst 0, 1) := by decide +kernel
theorem dL_law_706 : decode cL_law 706 = .ok (.ireturn, 1) := by decide +kernel
theorem dL_law_707 : decode cL_law 707 = .ok (.aload_n 1, 1) := by decide +kernel
theorem dL_law_708 : decode cL_law 708 = .ok (.aload_n 0, 1) := by decide +kernel
theorem dL_law_709 : decode cL_law 709 = .ok (.iload_n 3, 1) := by decide +kernel
theorem dL_law_710 : decode cL_law 710 = .ok (.iconst 1, 1) := by decide +kernel
theorem dL_law_711 : decode cL_law 711 = .ok (.iadd, 1) := by decide +kernel
theorem dL_law_712 : decode cL_law 712 = .ok (.iaload, 1) := by decide +kernel
theorem dL_law_713 : decode cL_law 713 = .ok (.aload_n 0, 1) := by decide +kernel
theorem dL_law_714 : decode cL_law 714 = .ok (.iload_n 3, 1) := by decide +kernel
theorem dL_law_715 : decode cL_law 715 = .ok (.iconst 2, 1) := by decide +kernel
theorem dL_law_716 : decode cL_law 716 = .ok (.iadd, 1) := by decide +kernel
theorem dL_law_717 : decode cL_law 717 = .ok (.iaload, 1) := by decide +kernel
theorem dL_law_718 : decode cL_law 718 = .ok (.invokevirtual 101, 3) := by decide +kernel
theorem dL_law_721 : decode cL_law 721 = .ok (.aload_n 2, 1) := by decide +kernel
theorem dL_law_722 : decode cL_law 722 = .ok (.aload_n 0, 1) := by decide +kernel
theorem dL_law_723 : decode cL_law 723 = .ok (.iload_n 3, 1) := by decide +kernel
theorem dL_law_724 : decode cL_law 724 = .ok (.iconst 1, 1) := by decide +kernel
theorem dL_law_725 : decode cL_law 725 = .ok (.iadd, 1) := by decide +kernel
theorem dL_law_726 : decode cL_law 726 = .ok (.iaload, 1) := by decide +kernel
theorem dL_law_727 : decode cL_law 727 = .ok (.aload_n 0, 1) := by decide +kernel
theorem dL_law_728 : decode cL_law 728 = .ok (.iload_n 3, 1) := by decide +kernel
theorem dL_law_729 : decode cL_law 729 = .ok (.iconst 2, 1) := by decide +kernel
theorem dL_law_730 : decode cL_law 730 = .ok (.iadd, 1) := by decide +kernel
theorem dL_law_731 : decode cL_law 731 = .ok (.iaload, 1) := by decide +kernel
theorem dL_law_732 : decode cL_law 732 = .ok (.invokevirtual 104, 3) := by decide +kernel
theorem dL_law_735 : decode cL_law 735 = .ok (.if_icmp .eq 411, 3) := by decide +kernel
theorem dL_law_738 : decode cL_law 738 = .ok (.iconst 0, 1) := by decide +kernel
theorem dL_law_739 : decode cL_law 739 = .ok (.ireturn, 1) := by decide +kernel
theorem dL_law_740 : decode cL_law 740 = .ok (.aload_n 1, 1) := by decide +kernel
theorem dL_law_741 : decode cL_law 741 = .ok (.aload_n 0, 1) := by decide +kernel
theorem dL_law_742 : decode cL_law 742 = .ok (.iload_n 3, 1) := by decide +kernel
theorem dL_law_743 : decode cL_law 743 = .ok (.iconst 1, 1) := by decide +kernel
theorem dL_law_744 : decode cL_law 744 = .ok (.iadd, 1) := by decide +kernel
theorem dL_law_745 : decode cL_law 745 = .ok (.iaload, 1) := by decide +kernel
theorem dL_law_746 : decode cL_law 746 = .ok (.aload_n 0, 1) := by decide +kernel
theorem dL_law_747 : decode cL_law 747 = .ok (.iload_n 3, 1) := by decide +kernel
theorem dL_law_748 : decode cL_law 748 = .ok (.iconst 2, 1) := by decide +kernel
theorem dL_law_749 : decode cL_law 749 = .ok (.iadd, 1) := by decide +kernel
theorem dL_law_750 : decode cL_law 750 = .ok (.iaload, 1) := by decide +kernel
theorem dL_law_751 : decode cL_law 751 = .ok (.aload_n 0, 1) := by decide +kernel
theorem dL_law_752 : decode cL_law 752 = .ok (.iload_n 3, 1) := by decide +kernel
theorem dL_law_753 : decode cL_law 753 = .ok (.iconst 3, 1) := by decide +kernel
theorem dL_law_754 : decode cL_law 754 = .ok (.iadd, 1) := by decide +kernel
theorem dL_law_755 : decode cL_law 755 = .ok (.iaload, 1) := by decide +kernel
theorem dL_law_756 : decode cL_law 756 = .ok (.aload_n 0, 1) := by decide +kernel
theorem dL_law_757 : decode cL_law 757 = .ok (.iload_n 3, 1) := by decide +kernel
theorem dL_law_758 : decode cL_law 758 = .ok (.iconst 4, 1) := by decide +kernel
theorem dL_law_759 : decode cL_law 759 = .ok (.iadd, 1) := by decide +kernel
theorem dL_law_760 : decode cL_law 760 = .ok (.iaload, 1) := by decide +kernel
theorem dL_law_761 : decode cL_law 761 = .ok (.invokevirtual 105, 3) := by decide +kernel
theorem dL_law_764 : decode cL_law 764 = .ok (.aload_n 2, 1) := by decide +kernel
theorem dL_law_765 : decode cL_law 765 = .ok (.aload_n 0, 1) := by decide +kernel
theorem dL_law_766 : decode cL_law 766 = .ok (.iload_n 3, 1) := by decide +kernel
theorem dL_law_767 : decode cL_law 767 = .ok (.iconst 1, 1) := by decide +kernel
theorem dL_law_768 : decode cL_law 768 = .ok (.iadd, 1) := by decide +kernel
theorem dL_law_769 : decode cL_law 769 = .ok (.iaload, 1) := by decide +kernel
theorem dL_law_770 : decode cL_law 770 = .ok (.aload_n 0, 1) := by decide +kernel
theorem dL_law_771 : decode cL_law 771 = .ok (.iload_n 3, 1) := by decide +kernel
theorem dL_law_772 : decode cL_law 772 = .ok (.iconst 2, 1) := by decide +kernel
theorem dL_law_773 : decode cL_law 773 = .ok (.iadd, 1) := by decide +kernel
theorem dL_law_774 : decode cL_law 774 = .ok (.iaload, 1) := by decide +kernel
theorem dL_law_775 : decode cL_law 775 = .ok (.aload_n 0, 1) := by decide +kernel
theorem dL_law_776 : decode cL_law 776 = .ok (.iload_n 3, 1) := by decide +kernel
theorem dL_law_777 : decode cL_law 777 = .ok (.iconst 3, 1) := by decide +kernel
theorem dL_law_778 : decode cL_law 778 = .ok (.iadd, 1) := by decide +kernel
theorem dL_law_779 : decode cL_law 779 = .ok (.iaload, 1) := by decide +kernel
theorem dL_law_780 : decode cL_law 780 = .ok (.aload_n 0, 1) := by decide +kernel
theorem dL_law_781 : decode cL_law 781 = .ok (.iload_n 3, 1) := by decide +kernel
theorem dL_law_782 : decode cL_law 782 = .ok (.iconst 4, 1) := by decide +kernel
theorem dL_law_783 : decode cL_law 783 = .ok (.iadd, 1) := by decide +kernel
theorem dL_law_784 : decode cL_law 784 = .ok (.iaload, 1) := by decide +kernel
theorem dL_law_785 : decode cL_law 785 = .ok (.invokevirtual 109, 3) := by decide +kernel
theorem dL_law_788 : decode cL_law 788 = .ok (.if_icmp .eq 358, 3) := by decide +kernel
theorem dL_law_791 : decode cL_law 791 = .ok (.iconst 0, 1) := by decide +kernel
theorem dL_law_792 : decode cL_law 792 = .ok (.ireturn, 1) := by decide +kernel
theorem dL_law_793 : decode cL_law 793 = .ok (.aload_n 1, 1) := by decide +kernel
theorem dL_law_794 : decode cL_law 794 = .ok (.aload_n 0, 1) := by decide +kernel
theorem dL_law_795 : decode cL_law 795 = .ok (.iload_n 3, 1) := by decide +kernel
theorem dL_law_796 : decode cL_law 796 = .ok (.iconst 1, 1) := by decide +kernel
theorem dL_law_797 : decode cL_law 797 = .ok (.iadd, 1) := by decide +kernel
theorem dL_law_798 : decode cL_law 798 = .ok (.iaload, 1) := by decide +kernel
theorem dL_law_799 : decode cL_law 799 = .ok (.aload_n 0, 1) := by decide +kernel
theorem dL_law_800 : decode cL_law 800 = .ok (.iload_n 3, 1) := by decide +kernel
theorem dL_law_801 : decode cL_law 801 = .ok (.iconst 2, 1) := by decide +kernel
theorem dL_law_802 : decode cL_law 802 = .ok (.iadd, 1) := by decide +kernel
theorem dL_law_803 : decode cL_law 803 = .ok (.iaload, 1) := by decide +kernel
theorem dL_law_804 : decode cL_law 804 = .ok (.aload_n 0, 1) := by decide +kernel
theorem dL_law_805 : decode cL_law 805 = .ok (.iload_n 3, 1) := by decide +kernel
theorem dL_law_806 : decode cL_law 806 = .ok (.iconst 3, 1) := by decide +kernel
theorem dL_law_807 : decode cL_law 807 = .ok (.iadd, 1) := by decide +kernel
theorem dL_law_808 : decode cL_law 808 = .ok (.iaload, 1) := by decide +kernel
theorem dL_law_809 : decode cL_law 809 = .ok (.invokevirtual 110, 3) := by decide +kernel
theorem dL_law_812 : decode cL_law 812 = .ok (.aload_n 2, 1) := by decide +kernel
theorem dL_law_813 : decode cL_law 813 = .ok (.aload_n 0, 1) := by decide +kernel
theorem dL_law_814 : decode cL_law 814 = .ok (.iload_n 3, 1) := by decide +kernel
theorem dL_law_815 : decode cL_law 815 = .ok (.iconst 1, 1) := by decide +kernel
theorem dL_law_816 : decode cL_law 816 = .ok (.iadd, 1) := by decide +kernel
theorem dL_law_817 : decode cL_law 817 = .ok (.iaload, 1) := by decide +kernel
theorem dL_law_818 : decode cL_law 818 = .ok (.aload_n 0, 1) := by decide +kernel
theorem dL_law_819 : decode cL_law 819 = .ok (.iload_n 3, 1) := by decide +kernel
theorem dL_law_820 : decode cL_law 820 = .ok (.iconst 2, 1) := by decide +kernel
theorem dL_law_821 : decode cL_law 821 = .ok (.iadd, 1) := by decide +kernel
theorem dL_law_822 : decode cL_law 822 = .ok (.iaload, 1) := by decide +kernel
theorem dL_law_823 : decode cL_law 823 = .ok (.aload_n 0, 1) := by decide +kernel
theorem dL_law_824 : decode cL_law 824 = .ok (.iload_n 3, 1) := by decide +kernel
theorem dL_law_825 : decode cL_law 825 = .ok (.iconst 3, 1) := by decide +kernel
theorem dL_law_826 : decode cL_law 826 = .ok (.iadd, 1) := by decide +kernel
theorem dL_law_827 : decode cL_law 827 = .ok (.iaload, 1) := by decide +kernel
theorem dL_law_828 : decode cL_law 828 = .ok (.invokevirtual 113, 3) := by decide +kernel
theorem dL_law_831 : decode cL_law 831 = .ok (.if_icmp .eq 315, 3) := by decide +kernel
theorem dL_law_834 : decode cL_law 834 = .ok (.iconst 0, 1) := by decide +kernel
theorem dL_law_835 : decode cL_law 835 = .ok (.ireturn, 1) := by decide +kernel
theorem dL_law_836 : decode cL_law 836 = .ok (.aload_n 1, 1) := by decide +kernel
theorem dL_law_837 : decode cL_law 837 = .ok (.invokevirtual 114, 3) := by decide +kernel
theorem dL_law_840 : decode cL_law 840 = .ok (.aload_n 2, 1) := by decide +kernel
theorem dL_law_841 : decode cL_law 841 = .ok (.invokevirtual 117, 3) := by decide +kernel
theorem dL_law_844 : decode cL_law 844 = .ok (.if_icmp .eq 302, 3) := by decide +kernel
theorem dL_law_847 : decode cL_law 847 = .ok (.iconst 0, 1) := by decide +kernel
theorem dL_law_848 : decode cL_law 848 = .ok (.ireturn, 1) := by decide +kernel
theorem dL_law_849 : decode cL_law 849 = .ok (.aload_n 1, 1) := by decide +kernel
theorem dL_law_850 : decode cL_law 850 = .ok (.invokevirtual 118, 3) := by decide +kernel
theorem dL_law_853 : decode cL_law 853 = .ok (.aload_n 2, 1) := by decide +kernel
theorem dL_law_854 : decode cL_law 854 = .ok (.invokevirtual 121, 3) := by decide +kernel
theorem dL_law_857 : decode cL_law 857 = .ok (.if_icmp .eq 289, 3) := by decide +kernel
theorem dL_law_860 : decode cL_law 860 = .ok (.iconst 0, 1) := by decide +kernel
theorem dL_law_861 : decode cL_law 861 = .ok (.ireturn, 1) := by decide +kernel
theorem dL_law_862 : decode cL_law 862 = .ok (.aload_n 1, 1) := by decide +kernel
theorem dL_law_863 : decode cL_law 863 = .ok (.invokevirtual 122, 3) := by decide +kernel
theorem dL_law_866 : decode cL_law 866 = .ok (.aload_n 2, 1) := by decide +kernel
theorem dL_law_867 : decode cL_law 867 = .ok (.invokevirtual 125, 3) := by decide +kernel
theorem dL_law_870 : decode cL_law 870 = .ok (.if_icmp .eq 276, 3) := by decide +kernel
theorem dL_law_873 : decode cL_law 873 = .ok (.iconst 0, 1) := by decide +kernel
theorem dL_law_874 : decode cL_law 874 = .ok (.ireturn, 1) := by decide +kernel
theorem dL_law_875 : decode cL_law 875 = .ok (.aload_n 1, 1) := by decide +kernel
theorem dL_law_876 : decode cL_law 876 = .ok (.aload_n 0, 1) := by decide +kernel
theorem dL_law_877 : decode cL_law 877 = .ok (.iload_n 3, 1) := by decide +kernel
theorem dL_law_878 : decode cL_law 878 = .ok (.iconst 1, 1) := by decide +kernel
theorem dL_law_879 : decode cL_law 879 = .ok (.iadd, 1) := by decide +kernel
theorem dL_law_880 : decode cL_law 880 = .ok (.iaload, 1) := by decide +kernel
theorem dL_law_881 : decode cL_law 881 = .ok (.aload_n 0, 1) := by decide +kernel
theorem dL_law_882 : decode cL_law 882 = .ok (.iload_n 3, 1) := by decide +kernel
theorem dL_law_883 : decode cL_law 883 = .ok (.iconst 2, 1) := by decide +kernel
theorem dL_law_884 : decode cL_law 884 = .ok (.iadd, 1) := by decide +kernel
theorem dL_law_885 : decode cL_law 885 = .ok (.iaload, 1) := by decide +kernel
theorem dL_law_886 : decode cL_law 886 = .ok (.invokevirtual 126, 3) := by decide +kernel
theorem dL_law_889 : decode cL_law 889 = .ok (.aload_n 2, 1) := by decide +kernel
theorem dL_law_890 : decode cL_law 890 = .ok (.aload_n 0, 1) := by decide +kernel
theorem dL_law_891 : decode cL_law 891 = .ok (.iload_n 3, 1) := by decide +kernel
theorem dL_law_892 : decode cL_law 892 = .ok (.iconst 1, 1) := by decide +kernel
theorem dL_law_893 : decode cL_law 893 = .ok (.iadd, 1) := by decide +kernel
theorem dL_law_894 : decode cL_law 894 = .ok (.iaload, 1) := by decide +kernel
theorem dL_law_895 : decode cL_law 895 = .ok (.aload_n 0, 1) := by decide +kernel
theorem dL_law_896 : decode cL_law 896 = .ok (.iload_n 3, 1) := by decide +kernel
theorem dL_law_897 : decode cL_law 897 = .ok (.iconst 2, 1) := by decide +kernel
theorem dL_law_898 : decode cL_law 898 = .ok (.iadd, 1) := by decide +kernel
theorem dL_law_899 : decode cL_law 899 = .ok (.iaload, 1) := by decide +kernel
theorem dL_law_900 : decode cL_law 900 = .ok (.invokevirtual 129, 3) := by decide +kernel
theorem dL_law_903 : decode cL_law 903 = .ok (.if_icmp .eq 243, 3) := by decide +kernel
theorem dL_law_906 : decode cL_law 906 = .ok (.iconst 0, 1) := by decide +kernel
theorem dL_law_907 : decode cL_law 907 = .ok (.ireturn, 1) := by decide +kernel
theorem dL_law_908 : decode cL_law 908 = .ok (.aload_n 1, 1) := by decide +kernel
theorem dL_law_909 : decode cL_law 909 = .ok (.aload_n 0, 1) := by decide +kernel
theorem dL_law_910 : decode cL_law 910 = .ok (.iload_n 3, 1) := by decide +kernel
theorem dL_law_911 : decode cL_law 911 = .ok (.iconst 1, 1) := by decide +kernel
theorem dL_law_912 : decode cL_law 912 = .ok (.iadd, 1) := by decide +kernel
theorem dL_law_913 : decode cL_law 913 = .ok (.iaload, 1) := by decide +kernel
theorem dL_law_914 : decode cL_law 914 = .ok (.aload_n 0, 1) := by decide +kernel
theorem dL_law_915 : decode cL_law 915 = .ok (.iload_n 3, 1) := by decide +kernel
theorem dL_law_916 : decode cL_law 916 = .ok (.iconst 2, 1) := by decide +kernel
theorem dL_law_917 : decode cL_law 917 = .ok (.iadd, 1) := by decide +kernel
theorem dL_law_918 : decode cL_law 918 = .ok (.iaload, 1) := by decide +kernel
theorem dL_law_919 : decode cL_law 919 = .ok (.aload_n 0, 1) := by decide +kernel
theorem dL_law_920 : decode cL_law 920 = .ok (.iload_n 3, 1) := by decide +kernel
theorem dL_law_921 : decode cL_law 921 = .ok (.iconst 3, 1) := by decide +kernel
theorem dL_law_922 : decode cL_law 922 = .ok (.iadd, 1) := by decide +kernel
theorem dL_law_923 : decode cL_law 923 = .ok (.iaload, 1) := by decide +kernel
theorem dL_law_924 : decode cL_law 924 = .ok (.aload_n 0, 1) := by decide +kernel
theorem dL_law_925 : decode cL_law 925 = .ok (.iload_n 3, 1) := by decide +kernel
theorem dL_law_926 : decode cL_law 926 = .ok (.iconst 4, 1) := by decide +kernel
theorem dL_law_927 : decode cL_law 927 = .ok (.iadd, 1) := by decide +kernel
theorem dL_law_928 : decode cL_law 928 = .ok (.iaload, 1) := by decide +kernel
theorem dL_law_929 : decode cL_law 929 = .ok (.invokevirtual 130, 3) := by decide +kernel
theorem dL_law_932 : decode cL_law 932 = .ok (.aload_n 2, 1) := by decide +kernel
theorem dL_law_933 : decode cL_law 933 = .ok (.aload_n 0, 1) := by decide +kernel
theorem dL_law_934 : decode cL_law 934 = .ok (.iload_n 3, 1) := by decide +kernel
theorem dL_law_935 : decode cL_law 935 = .ok (.iconst 1, 1) := by decide +kernel
theorem dL_law_936 : decode cL_law 936 = .ok (.iadd, 1) := by decide +kernel
theorem dL_law_937 : decode cL_law 937 = .ok (.iaload, 1) := by decide +kernel
theorem dL_law_938 : decode cL_law 938 = .ok (.aload_n 0, 1) := by decide +kernel
theorem dL_law_939 : decode cL_law 939 = .ok (.iload_n 3, 1) := by decide +kernel
theorem dL_law_940 : decode cL_law 940 = .ok (.iconst 2, 1) := by decide +kernel
theorem dL_law_941 : decode cL_law 941 = .ok (.iadd, 1) := by decide +kernel
theorem dL_law_942 : decode cL_law 942 = .ok (.iaload, 1) := by decide +kernel
theorem dL_law_943 : decode cL_law 943 = .ok (.aload_n 0, 1) := by decide +kernel
theorem dL_law_944 : decode cL_law 944 = .ok (.iload_n 3, 1) := by decide +kernel
theorem dL_law_945 : decode cL_law 945 = .ok (.iconst 3, 1) := by decide +kernel
theorem dL_law_946 : decode cL_law 946 = .ok (.iadd, 1) := by decide +kernel
theorem dL_law_947 : decode cL_law 947 = .ok (.iaload, 1) := by decide +kernel
theorem dL_law_948 : decode cL_law 948 = .ok (.aload_n 0, 1) := by decide +kernel
theorem dL_law_949 : decode cL_law 949 = .ok (.iload_n 3, 1) := by decide +kernel
theorem dL_law_950 : decode cL_law 950 = .ok (.iconst 4, 1) := by decide +kernel
theorem dL_law_951 : decode cL_law 951 = .ok (.iadd, 1) := by decide +kernel
theorem dL_law_952 : decode cL_law 952 = .ok (.iaload, 1) := by decide +kernel
theorem dL_law_953 : decode cL_law 953 = .ok (.invokevirtual 133, 3) := by decide +kernel
theorem dL_law_956 : decode cL_law 956 = .ok (.if_icmp .eq 190, 3) := by decide +kernel
theorem dL_law_959 : decode cL_law 959 = .ok (.iconst 0, 1) := by decide +kernel
theorem dL_law_960 : decode cL_law 960 = .ok (.ireturn, 1) := by decide +kernel
theorem dL_law_961 : decode cL_law 961 = .ok (.aload_n 1, 1) := by decide +kernel
theorem dL_law_962 : decode cL_law 962 = .ok (.aload_n 0, 1) := by decide +kernel
theorem dL_law_963 : decode cL_law 963 = .ok (.iload_n 3, 1) := by decide +kernel
theorem dL_law_964 : decode cL_law 964 = .ok (.iconst 1, 1) := by decide +kernel
theorem dL_law_965 : decode cL_law 965 = .ok (.iadd, 1) := by decide +kernel
theorem dL_law_966 : decode cL_law 966 = .ok (.iaload, 1) := by decide +kernel
theorem dL_law_967 : decode cL_law 967 = .ok (.aload_n 0, 1) := by decide +kernel
theorem dL_law_968 : decode cL_law 968 = .ok (.iload_n 3, 1) := by decide +kernel
theorem dL_law_969 : decode cL_law 969 = .ok (.iconst 2, 1) := by decide +kernel
theorem dL_law_970 : decode cL_law 970 = .ok (.iadd, 1) := by decide +kernel
theorem dL_law_971 : decode cL_law 971 = .ok (.iaload, 1) := by decide +kernel
theorem dL_law_972 : decode cL_law 972 = .ok (.aload_n 0, 1) := by decide +kernel
theorem dL_law_973 : decode cL_law 973 = .ok (.iload_n 3, 1) := by decide +kernel
theorem dL_law_974 : decode cL_law 974 = .ok (.iconst 3, 1) := by decide +kernel
theorem dL_law_975 : decode cL_law 975 = .ok (.iadd, 1) := by decide +kernel
theorem dL_law_976 : decode cL_law 976 = .ok (.iaload, 1) := by decide +kernel
theorem dL_law_977 : decode cL_law 977 = .ok (.invokevirtual 134, 3) := by decide +kernel
theorem dL_law_980 : decode cL_law 980 = .ok (.aload_n 2, 1) := by decide +kernel
theorem dL_law_981 : decode cL_law 981 = .ok (.aload_n 0, 1) := by decide +kernel
theorem dL_law_982 : decode cL_law 982 = .ok (.iload_n 3, 1) := by decide +kernel
theorem dL_law_983 : decode cL_law 983 = .ok (.iconst 1, 1) := by decide +kernel
theorem dL_law_984 : decode cL_law 984 = .ok (.iadd, 1) := by decide +kernel
theorem dL_law_985 : decode cL_law 985 = .ok (.iaload, 1) := by decide +kernel
theorem dL_law_986 : decode cL_law 986 = .ok (.aload_n 0, 1) := by decide +kernel
theorem dL_law_987 : decode cL_law 987 = .ok (.iload_n 3, 1) := by decide +kernel
theorem dL_law_988 : decode cL_law 988 = .ok (.iconst 2, 1) := by decide +kernel
theorem dL_law_989 : decode cL_law 989 = .ok (.iadd, 1) := by decide +kernel
theorem dL_law_990 : decode cL_law 990 = .ok (.iaload, 1) := by decide +kernel
theorem dL_law_991 : decode cL_law 991 = .ok (.aload_n 0, 1) := by decide +kernel
theorem dL_law_992 : decode cL_law 992 = .ok (.iload_n 3, 1) := by decide +kernel
theorem dL_law_993 : decode cL_law 993 = .ok (.iconst 3, 1) := by decide +kernel
theorem dL_law_994 : decode cL_law 994 = .ok (.iadd, 1) := by decide +kernel
theorem dL_law_995 : decode cL_law 995 = .ok (.iaload, 1) := by decide +kernel
theorem dL_law_996 : decode cL_law 996 = .ok (.invokevirtual 137, 3) := by decide +kernel
theorem dL_law_999 : decode cL_law 999 = .ok (.if_icmp .eq 147, 3) := by decide +kernel
theorem dL_law_1002 : decode cL_law 1002 = .ok (.iconst 0, 1) := by decide +kernel
theorem dL_law_1003 : decode cL_law 1003 = .ok (.ireturn, 1) := by decide +kernel
theorem dL_law_1004 : decode cL_law 1004 = .ok (.aload_n 1, 1) := by decide +kernel
theorem dL_law_1005 : decode cL_law 1005 = .ok (.aload_n 0, 1) := by decide +kernel
theorem dL_law_1006 : decode cL_law 1006 = .ok (.iload_n 3, 1) := by decide +kernel
theorem dL_law_1007 : decode cL_law 1007 = .ok (.iconst 1, 1) := by decide +kernel
theorem dL_law_1008 : decode cL_law 1008 = .ok (.iadd, 1) := by decide +kernel
theorem dL_law_1009 : decode cL_law 1009 = .ok (.iaload, 1) := by decide +kernel
theorem dL_law_1010 : decode cL_law 1010 = .ok (.aload_n 0, 1) := by decide +kernel
theorem dL_law_1011 : decode cL_law 1011 = .ok (.iload_n 3, 1) := by decide +kernel
theorem dL_law_1012 : decode cL_law 1012 = .ok (.iconst 2, 1) := by decide +kernel
theorem dL_law_1013 : decode cL_law 1013 = .ok (.iadd, 1) := by decide +kernel
theorem dL_law_1014 : decode cL_law 1014 = .ok (.iaload, 1) := by decide +kernel
theorem dL_law_1015 : decode cL_law 1015 = .ok (.invokevirtual 138, 3) := by decide +kernel
theorem dL_law_1018 : decode cL_law 1018 = .ok (.aload_n 2, 1) := by decide +kernel
theorem dL_law_1019 : decode cL_law 1019 = .ok (.aload_n 0, 1) := by decide +kernel
theorem dL_law_1020 : decode cL_law 1020 = .ok (.iload_n 3, 1) := by decide +kernel
theorem dL_law_1021 : decode cL_law 1021 = .ok (.iconst 1, 1) := by decide +kernel
theorem dL_law_1022 : decode cL_law 1022 = .ok (.iadd, 1) := by decide +kernel
theorem dL_law_1023 : decode cL_law 1023 = .ok (.iaload, 1) := by decide +kernel
theorem dL_law_1024 : decode cL_law 1024 = .ok (.aload_n 0, 1) := by decide +kernel
theorem dL_law_1025 : decode cL_law 1025 = .ok (.iload_n 3, 1) := by decide +kernel
theorem dL_law_1026 : decode cL_law 1026 = .ok (.iconst 2, 1) := by decide +kernel
theorem dL_law_1027 : decode cL_law 1027 = .ok (.iadd, 1) := by decide +kernel
theorem dL_law_1028 : decode cL_law 1028 = .ok (.iaload, 1) := by decide +kernel
theorem dL_law_1029 : decode cL_law 1029 = .ok (.invokevirtual 141, 3) := by decide +kernel
theorem dL_law_1032 : decode cL_law 1032 = .ok (.if_icmp .eq 114, 3) := by decide +kernel
theorem dL_law_1035 : decode cL_law 1035 = .ok (.iconst 0, 1) := by decide +kernel
theorem dL_law_1036 : decode cL_law 1036 = .ok (.ireturn, 1) := by decide +kernel
theorem dL_law_1037 : decode cL_law 1037 = .ok (.aload_n 1, 1) := by decide +kernel
theorem dL_law_1038 : decode cL_law 1038 = .ok (.aload_n 0, 1) := by decide +kernel
theorem dL_law_1039 : decode cL_law 1039 = .ok (.iload_n 3, 1) := by decide +kernel
theorem dL_law_1040 : decode cL_law 1040 = .ok (.iconst 1, 1) := by decide +kernel
theorem dL_law_1041 : decode cL_law 1041 = .ok (.iadd, 1) := by decide +kernel
theorem dL_law_1042 : decode cL_law 1042 = .ok (.iaload, 1) := by decide +kernel
theorem dL_law_1043 : decode cL_law 1043 = .ok (.aload_n 0, 1) := by decide +kernel
theorem dL_law_1044 : decode cL_law 1044 = .ok (.iload_n 3, 1) := by decide +kernel
theorem dL_law_1045 : decode cL_law 1045 = .ok (.iconst 2, 1) := by decide +kernel
theorem dL_law_1046 : decode cL_law 1046 = .ok (.iadd, 1) := by decide +kernel
theorem dL_law_1047 : decode cL_law 1047 = .ok (.iaload, 1) := by decide +kernel
theorem dL_law_1048 : decode cL_law 1048 = .ok (.aload_n 0, 1) := by decide +kernel
theorem dL_law_1049 : decode cL_law 1049 = .ok (.iload_n 3, 1) := by decide +kernel
theorem dL_law_1050 : decode cL_law 1050 = .ok (.iconst 3, 1) := by decide +kernel
theorem dL_law_1051 : decode cL_law 1051 = .ok (.iadd, 1) := by decide +kernel
theorem dL_law_1052 : decode cL_law 1052 = .ok (.iaload, 1) := by decide +kernel
theorem dL_law_1053 : decode cL_law 1053 = .ok (.aload_n 0, 1) := by decide +kernel
theorem dL_law_1054 : decode cL_law 1054 = .ok (.iload_n 3, 1) := by decide +kernel
theorem dL_law_1055 : decode cL_law 1055 = .ok (.iconst 4, 1) := by decide +kernel
theorem dL_law_1056 : decode cL_law 1056 = .ok (.iadd, 1) := by decide +kernel
theorem dL_law_1057 : decode cL_law 1057 = .ok (.iaload, 1) := by decide +kernel
theorem dL_law_1058 : decode cL_law 1058 = .ok (.aload_n 0, 1) := by decide +kernel
theorem dL_law_1059 : decode cL_law 1059 = .ok (.iload_n 3, 1) := by decide +kernel
theorem dL_law_1060 : decode cL_law 1060 = .ok (.iconst 5, 1) := by decide +kernel
theorem dL_law_1061 : decode cL_law 1061 = .ok (.iadd, 1) := by decide +kernel
theorem dL_law_1062 : decode cL_law 1062 = .ok (.iaload, 1) := by decide +kernel
theorem dL_law_1063 : decode cL_law 1063 = .ok (.invokevirtual 142, 3) := by decide +kernel
theorem dL_law_1066 : decode cL_law 1066 = .ok (.aload_n 2, 1) := by decide +kernel
theorem dL_law_1067 : decode cL_law 1067 = .ok (.aload_n 0, 1) := by decide +kernel
theorem dL_law_1068 : decode cL_law 1068 = .ok (.iload_n 3, 1) := by decide +kernel
theorem dL_law_1069 : decode cL_law 1069 = .ok (.iconst 1, 1) := by decide +kernel
theorem dL_law_1070 : decode cL_law 1070 = .ok (.iadd, 1) := by decide +kernel
theorem dL_law_1071 : decode cL_law 1071 = .ok (.iaload, 1) := by decide +kernel
theorem dL_law_1072 : decode cL_law 1072 = .ok (.aload_n 0, 1) := by decide +kernel
theorem dL_law_1073 : decode cL_law 1073 = .ok (.iload_n 3, 1) := by decide +kernel
theorem dL_law_1074 : decode cL_law 1074 = .ok (.iconst 2, 1) := by decide +kernel
theorem dL_law_1075 : decode cL_law 1075 = .ok (.iadd, 1) := by decide +kernel
theorem dL_law_1076 : decode cL_law 1076 = .ok (.iaload, 1) := by decide +kernel
theorem dL_law_1077 : decode cL_law 1077 = .ok (.aload_n 0, 1) := by decide +kernel
theorem dL_law_1078 : decode cL_law 1078 = .ok (.iload_n 3, 1) := by decide +kernel
theorem dL_law_1079 : decode cL_law 1079 = .ok (.iconst 3, 1) := by decide +kernel
theorem dL_law_1080 : decode cL_law 1080 = .ok (.iadd, 1) := by decide +kernel
theorem dL_law_1081 : decode cL_law 1081 = .ok (.iaload, 1) := by decide +kernel
theorem dL_law_1082 : decode cL_law 1082 = .ok (.aload_n 0, 1) := by decide +kernel
theorem dL_law_1083 : decode cL_law 1083 = .ok (.iload_n 3, 1) := by decide +kernel
theorem dL_law_1084 : decode cL_law 1084 = .ok (.iconst 4, 1) := by decide +kernel
theorem dL_law_1085 : decode cL_law 1085 = .ok (.iadd, 1) := by decide +kernel
theorem dL_law_1086 : decode cL_law 1086 = .ok (.iaload, 1) := by decide +kernel
theorem dL_law_1087 : decode cL_law 1087 = .ok (.aload_n 0, 1) := by decide +kernel
theorem dL_law_1088 : decode cL_law 1088 = .ok (.iload_n 3, 1) := by decide +kernel
theorem dL_law_1089 : decode cL_law 1089 = .ok (.iconst 5, 1) := by decide +kernel
theorem dL_law_1090 : decode cL_law 1090 = .ok (.iadd, 1) := by decide +kernel
theorem dL_law_1091 : decode cL_law 1091 = .ok (.iaload, 1) := by decide +kernel
theorem dL_law_1092 : decode cL_law 1092 = .ok (.invokevirtual 146, 3) := by decide +kernel
theorem dL_law_1095 : decode cL_law 1095 = .ok (.if_icmp .eq 51, 3) := by decide +kernel
theorem dL_law_1098 : decode cL_law 1098 = .ok (.iconst 0, 1) := by decide +kernel
theorem dL_law_1099 : decode cL_law 1099 = .ok (.ireturn, 1) := by decide +kernel
theorem dL_law_1100 : decode cL_law 1100 = .ok (.aload_n 1, 1) := by decide +kernel
theorem dL_law_1101 : decode cL_law 1101 = .ok (.aload_n 0, 1) := by decide +kernel
theorem dL_law_1102 : decode cL_law 1102 = .ok (.iload_n 3, 1) := by decide +kernel
theorem dL_law_1103 : decode cL_law 1103 = .ok (.iconst 1, 1) := by decide +kernel
theorem dL_law_1104 : decode cL_law 1104 = .ok (.iadd, 1) := by decide +kernel
theorem dL_law_1105 : decode cL_law 1105 = .ok (.iaload, 1) := by decide +kernel
theorem dL_law_1106 : decode cL_law 1106 = .ok (.invokevirtual 147, 3) := by decide +kernel
theorem dL_law_1109 : decode cL_law 1109 = .ok (.aload_n 2, 1) := by decide +kernel
theorem dL_law_1110 : decode cL_law 1110 = .ok (.aload_n 0, 1) := by decide +kernel
theorem dL_law_1111 : decode cL_law 1111 = .ok (.iload_n 3, 1) := by decide +kernel
theorem dL_law_1112 : decode cL_law 1112 = .ok (.iconst 1, 1) := by decide +kernel
theorem dL_law_1113 : decode cL_law 1113 = .ok (.iadd, 1) := by decide +kernel
theorem dL_law_1114 : decode cL_law 1114 = .ok (.iaload, 1) := by decide +kernel
theorem dL_law_1115 : decode cL_law 1115 = .ok (.invokevirtual 150, 3) := by decide +kernel
theorem dL_law_1118 : decode cL_law 1118 = .ok (.if_icmp .eq 28, 3) := by decide +kernel
theorem dL_law_1121 : decode cL_law 1121 = .ok (.iconst 0, 1) := by decide +kernel
theorem dL_law_1122 : decode cL_law 1122 = .ok (.ireturn, 1) := by decide +kernel
theorem dL_law_1123 : decode cL_law 1123 = .ok (.aload_n 1, 1) := by decide +kernel
theorem dL_law_1124 : decode cL_law 1124 = .ok (.aload_n 0, 1) := by decide +kernel
theorem dL_law_1125 : decode cL_law 1125 = .ok (.iload_n 3, 1) := by decide +kernel
theorem dL_law_1126 : decode cL_law 1126 = .ok (.iconst 1, 1) := by decide +kernel
theorem dL_law_1127 : decode cL_law 1127 = .ok (.iadd, 1) := by decide +kernel
theorem dL_law_1128 : decode cL_law 1128 = .ok (.iaload, 1) := by decide +kernel
theorem dL_law_1129 : decode cL_law 1129 = .ok (.invokevirtual 151, 3) := by decide +kernel
theorem dL_law_1132 : decode cL_law 1132 = .ok (.aload_n 2, 1) := by decide +kernel
theorem dL_law_1133 : decode cL_law 1133 = .ok (.aload_n 0, 1) := by decide +kernel
theorem dL_law_1134 : decode cL_law 1134 = .ok (.iload_n 3, 1) := by decide +kernel
theorem dL_law_1135 : decode cL_law 1135 = .ok (.iconst 1, 1) := by decide +kernel
theorem dL_law_1136 : decode cL_law 1136 = .ok (.iadd, 1) := by decide +kernel
theorem dL_law_1137 : decode cL_law 1137 = .ok (.iaload, 1) := by decide +kernel
theorem dL_law_1138 : decode cL_law 1138 = .ok (.invokevirtual 154, 3) := by decide +kernel
theorem dL_law_1141 : decode cL_law 1141 = .ok (.if_icmp .eq 5, 3) := by decide +kernel
theorem dL_law_1144 : decode cL_law 1144 = .ok (.iconst 0, 1) := by decide +kernel
theorem dL_law_1145 : decode cL_law 1145 = .ok (.ireturn, 1) := by decide +kernel
theorem dL_law_1146 : decode cL_law 1146 = .ok (.iinc 3 6, 3) := by decide +kernel
theorem dL_law_1149 : decode cL_law 1149 = .ok (.goto (-1131), 3) := by decide +kernel
theorem dL_law_1152 : decode cL_law 1152 = .ok (.iconst 1, 1) := by decide +kernel
theorem dL_law_1153 : decode cL_law 1153 = .ok (.ireturn, 1) := by decide +kernel
end
section
/-! ===== THE FLAT WORLD: shapes (how many cells, their kinds, what refers to what) and the numbers in them ===== -/
def zW : List Cond := lw_tbl.filter goodWord
theorem zW_of {i : Nat} {w : Cond} (h : lw_tbl[i]? = some w) (hg : goodWord w = true) : w ∈ zW := List.mem_filter.mpr ⟨List.mem_of_getElem? h, hg⟩
theorem zW_tbl {w : Cond} (h : w ∈ zW) : w ∈ lw_tbl := (List.mem_filter.mp h).1
theorem zW_good {ws : List Cond} (h : ∀ w ∈ ws, w ∈ zW) : GoodIn zW ws := fun w hw => ⟨h w hw, good_of_word (List.mem_filter.mp (h w hw)).2⟩
/-- how many cells; of each its kind (a class's place in vwCl, or 20 int[], 21 boolean[], 22 Day[], 23 Book[]) and size; what its places refer to (0 nothing, k + 1 cell k) -/
abbrev zS : Type := Nat × (Nat → Nat × Nat) × (Nat → Nat → Nat)
/-- the numbers -/
abbrev zM : Type := Nat → Nat → Int32
/-- the base, the classes' numbers, their fields' slots, the arrays' classes, the text constants' addresses and their rows' -/
abbrev zG : Type := Nat × (Nat → ClassId) × (Nat → Nat → Nat) × (Nat → ClassId) × (Nat → Nat) × (Nat → Nat)
def z_up (M : zM) (k j : Nat) (x : Int32) : zM := fun k' => if k' = k then upd (M k) j x else M k'
theorem z_up_s (M : zM) (k j : Nat) (x : Int32) : z_up M k j x k = upd (M k) j x := if_pos rfl
theorem z_up_n (M : zM) {k k' : Nat} (j : Nat) (x : Int32) (h : k' ≠ k) : z_up M k j x k' = M k' := if_neg h
def zD (g : zG) : va_G := (g.2.1, g.2.2.1)
def zcA (g : zG) : Nat → ClassId := g.2.2.2.1
def zTy (g : zG) : List (ClassId × FieldType) := [(zcA g 20, .int), (zcA g 21, .boolean), (zcA g 22, .object "OstlerHours$Day"), (zcA g 23, .object "OstlerHours$Book")]
def zA0 (g : zG) : Nat → Prop := fun q => g.1 ≤ q
/-- which fields are references -/
def zIrT : List (List Bool) := [[true, true, false], [true, false, true, true, true, false, true, true, true], [true, true, false, false], [true, true, false], [true, false, false], [false, false, false, true, true, true, true, true, true], [true], [true, true, true, false], [true, false, false, false, false], [true, true, true, true, true, true, true, true, true, true, true], [true, false, true, true, false, false, true, true, true, true, true, true, false, false, false, false, false, false, false, true, true, true, true, true, true, true, true, true, false, false, true, true, true, true]]
def zIr (ci j : Nat) : Bool := (zIrT.getD ci []).getD j false
def zrf (g : zG) (x : Nat) : Option Nat := if x = 0 then none else some (g.1 + (x - 1))
def zFv (g : zG) (S : zS) (M : zM) (k ci j : Nat) : Value := if zIr ci j = true then va_rf (zrf g (S.2.2 k j)) else .int (M k j)
def zCell (g : zG) (S : zS) (M : zM) (k : Nat) : va_E :=
  if (S.2.1 k).1 = 20 ∨ (S.2.1 k).1 = 21 then .inl (zcA g (S.2.1 k).1, (S.2.1 k).2, .inl (M k))
  else if (S.2.1 k).1 = 22 ∨ (S.2.1 k).1 = 23 then .inl (zcA g (S.2.1 k).1, (S.2.1 k).2, .inr (.inr (.inr (.inr (fun i => zrf g (S.2.2 k i))))))
  else .inr ((S.2.1 k).1, (List.range (S.2.1 k).2).map (zFv g S M k (S.2.1 k).1))
def zWs (g : zG) (S : zS) (M : zM) : va_W := (List.range S.1).map (fun k => (g.1 + k, zCell g S M k))
theorem zWs_get {g : zG} {S : zS} {M : zM} {k : Nat} (h : k < S.1) : (zWs g S M)[k]? = some (g.1 + k, zCell g S M k) := by
  simp [zWs, List.getElem?_map, List.getElem?_range h]
theorem zWs_out {g : zG} {S : zS} {M : zM} {k : Nat} {q : Nat × va_E} (h : (zWs g S M)[k]? = some q) : k < S.1 ∧ q = (g.1 + k, zCell g S M k) := by
  have h1 : k < S.1 := by
    have := (List.getElem?_eq_some_iff.mp h).1
    simpa [zWs] using this
  rw [zWs_get h1] at h
  exact ⟨h1, (Option.some.inj h).symm⟩
theorem zWs_D (g : zG) (S : zS) (M : zM) : va_D (zA0 g) (zWs g S M) := by
  refine ⟨fun i j p q hi hj h => ?_, fun k q hk => ?_⟩
  · obtain ⟨-, rfl⟩ := zWs_out hi
    obtain ⟨-, rfl⟩ := zWs_out hj
    have h' : g.1 + i = g.1 + j := h
    omega
  · obtain ⟨-, rfl⟩ := zWs_out hk
    exact Nat.le_add_right _ _
theorem z_list_set {α : Type} (f : Nat → α) (N j : Nat) (v : α) : ((List.range N).map f).set j v = (List.range N).map (fun i => if i = j then v else f i) := by
  apply List.ext_getElem?
  intro i
  rw [List.getElem?_set]
  by_cases hi : i < N
  · by_cases hj : j = i
    · subst hj
      simp [hi, List.getElem?_range hi]
    · simp [hj, List.getElem?_range hi, Ne.symm hj]
  · by_cases hj : j = i
    · subst hj
      simp [hi]
    · simp [hj, hi]
theorem zWs_set {g : zG} {S S' : zS} {M M' : zM} {k : Nat} {c : va_E} (hn : S'.1 = S.1) (hc : zCell g S' M' k = c) (ho : ∀ i, i ≠ k → zCell g S' M' i = zCell g S M i) : (zWs g S M).set k (g.1 + k, c) = zWs g S' M' := by
  rw [zWs, z_list_set, zWs, hn]
  refine List.map_congr_left fun i _ => ?_
  by_cases h : i = k
  · subst h
    rw [if_pos rfl, hc]
  · rw [if_neg h, ho i h]
theorem zWs_push {g : zG} {S S' : zS} {M M' : zM} {c : va_E} (hn : S'.1 = S.1 + 1) (hc : zCell g S' M' S.1 = c) (ho : ∀ i, i < S.1 → zCell g S' M' i = zCell g S M i) : zWs g S M ++ [(g.1 + S.1, c)] = zWs g S' M' := by
  rw [zWs, zWs, hn, List.range_succ, List.map_append]
  congr 1
  · refine List.map_congr_left fun i hi => ?_
    rw [ho i (List.mem_range.mp hi)]
  · simp [hc]
/-- the text constants: where each stands -/
def zKon : List (String × Nat × String) := [("OstlerHours$Parser", 71, "hack"), ("OstlerHours$Parser", 79, "vicious"), ("OstlerHours$Parser", 81, "dawn"), ("OstlerHours$Parser", 83, "grey"), ("OstlerHours$Parser", 85, "midnight"), ("OstlerHours$Parser", 87, "road"), ("OstlerHours$Parser", 89, "inn"), ("OstlerHours$Parser", 91, "rider")]
def zad (g : zG) (k : Nat) : Nat := if k < 1000 then g.1 + k else if k < 2000 then g.2.2.2.2.1 (k - 1000) else g.2.2.2.2.2 (k - 2000)
def z_v (g : zG) : Value → Value
  | .ref k => .ref (zad g k)
  | v => v
theorem z_v_cat (g : zG) (v : Value) : (z_v g v).category = v.category := by cases v <;> rfl
theorem z_v_nn (g : zG) {v : Value} (h : v ≠ .null) : z_v g v ≠ .null := by cases v <;> simp_all [z_v]
theorem zad_k (g : zG) {i : Nat} (h : i < 8) : zad g (1000 + i) = g.2.2.2.2.1 i := by
  unfold zad
  rw [if_neg (by omega), if_pos (by omega), Nat.add_sub_cancel_left]
theorem zad_v (g : zG) {i : Nat} : zad g (2000 + i) = g.2.2.2.2.2 i := by
  unfold zad
  rw [if_neg (by omega), if_neg (by omega), Nat.add_sub_cancel_left]
theorem zad_lo (g : zG) {k : Nat} (h : k < 1000) : zad g k = g.1 + k := if_pos h
/-! the locals: a list by place; null: nothing known there -/
def zL (g : zG) (nL : Nat) (lo : List Value) (ls : Array Slot) : Prop := ls.size = nL ∧ lv_wf ls ∧ ∀ (i : Nat) (v : Value), lo[i]? = some v → v ≠ .null → ls[i]? = some (.val (z_v g v))
def zTo (g : zG) (lo : List Value) : List (Nat × Value) := (List.range lo.length).filterMap (fun i => match lo[i]? with
  | some Value.null => none
  | some v => some (i, z_v g v)
  | none => none)
theorem zTo_in {g : zG} {lo : List Value} {i : Nat} {v : Value} (h : lo[i]? = some v) (hv : v ≠ .null) : (i, z_v g v) ∈ zTo g lo := by
  refine List.mem_filterMap.mpr ⟨i, List.mem_range.mpr (List.getElem?_eq_some_iff.mp h).1, ?_⟩
  rw [h]
  cases v <;> first | rfl | exact absurd rfl hv
theorem zTo_out {g : zG} {lo : List Value} {q : Nat × Value} (h : q ∈ zTo g lo) : ∃ v, lo[q.1]? = some v ∧ v ≠ .null ∧ q.2 = z_v g v := by
  obtain ⟨i, hi, he⟩ := List.mem_filterMap.mp h
  cases hl : lo[i]? with
  | none => rw [hl] at he; cases he
  | some v =>
    rw [hl] at he
    cases v <;> first | (cases he; done) | (obtain rfl := Option.some.inj he; exact ⟨_, hl, by simp, rfl⟩)
theorem zL.has {g : zG} {nL : Nat} {lo : List Value} {ls : Array Slot} (h : zL g nL lo ls) : lv_has ls nL (zTo g lo) :=
  ⟨h.1, h.2.1, fun q hq => by
    obtain ⟨v, h1, h2, h3⟩ := zTo_out hq
    rw [h3]
    exact h.2.2 q.1 v h1 h2⟩
theorem zL.hasC {g : zG} {nL : Nat} {lo : List Value} {ls : Array Slot} (h : zL g nL lo ls) {i : Nat} {v : Value} (hl : lo[i]? = some v) (hv : v ≠ .null) : lv_has ls nL ((i, z_v g v) :: zTo g lo) :=
  ⟨h.1, h.2.1, fun q hq => by
    rcases List.mem_cons.mp hq with rfl | hq
    · exact h.2.2 i v hl hv
    · exact h.has.2.2 q hq⟩
theorem zL.at {g : zG} {nL : Nat} {lo : List Value} {ls : Array Slot} (h : zL g nL lo ls) {i : Nat} {v : Value} (hl : lo[i]? = some v) (hv : v ≠ .null) : ls[i]? = some (.val (z_v g v)) := h.2.2 i v hl hv
/-- no long stands right ahead of place i -/
def zPv (lo : List Value) (i : Nat) : Bool := match i with
  | 0 => true
  | j + 1 => match lo[j]? with
    | some (.long _) => false
    | some (.double _) => false
    | _ => true
theorem zPv_use {lo : List Value} {i j : Nat} (h : zPv lo i = true) (hj : j + 1 = i) {v : Value} (hv : lo[j]? = some v) : ¬ v.category = 2 := by
  subst hj
  simp only [zPv, hv] at h
  cases v <;> simp_all [Value.category]
theorem zL_set1 {g : zG} {nL i : Nat} {lo : List Value} {L : List (Nat × Value)} {ls' : Array Slot} {v : Value} (hsub : ∀ q ∈ zTo g lo, q ∈ L) (hp : zPv lo i = true)
    (h : lv_has ls' nL ((i, z_v g v) :: L.filter (fun q => !(q.1 == i) && !(q.1 + 1 == i && q.2.category == 2)))) : zL g nL (lo.set i v) ls' := by
  refine ⟨h.1, h.2.1, fun j w hj hw => ?_⟩
  rw [List.getElem?_set] at hj
  by_cases hij : i = j
  · subst hij
    rw [if_pos rfl] at hj
    split at hj
    · cases hj
      exact h.2.2 _ List.mem_cons_self
    · cases hj
  · rw [if_neg hij] at hj
    refine h.2.2 (j, z_v g w) (List.mem_cons_of_mem _ (List.mem_filter.mpr ⟨hsub _ (zTo_in hj hw), ?_⟩))
    have h1 : ¬ j = i := fun e => hij e.symm
    by_cases h2 : j + 1 = i
    · have h3 := zPv_use hp h2 hj
      simp [h1, z_v_cat, h3]
    · simp [h1, h2]
theorem zL_set2 {g : zG} {nL i : Nat} {lo : List Value} {L : List (Nat × Value)} {ls' : Array Slot} {v : Value} (hsub : ∀ q ∈ zTo g lo, q ∈ L) (hp : zPv lo i = true)
    (h : lv_has ls' nL ((i, z_v g v) :: L.filter (fun q => !(q.1 == i) && (!(q.1 == i + 1) && !(q.1 + 1 == i && q.2.category == 2))))) : zL g nL ((lo.set i v).set (i + 1) .null) ls' := by
  refine ⟨h.1, h.2.1, fun j w hj hw => ?_⟩
  rw [List.getElem?_set] at hj
  by_cases hi1 : i + 1 = j
  · rw [if_pos hi1] at hj
    split at hj
    · cases hj
      exact absurd rfl hw
    · cases hj
  · rw [if_neg hi1, List.getElem?_set] at hj
    by_cases hij : i = j
    · subst hij
      rw [if_pos rfl] at hj
      split at hj
      · cases hj
        exact h.2.2 _ List.mem_cons_self
      · cases hj
    · rw [if_neg hij] at hj
      refine h.2.2 (j, z_v g w) (List.mem_cons_of_mem _ (List.mem_filter.mpr ⟨hsub _ (zTo_in hj hw), ?_⟩))
      have h1 : ¬ j = i := fun e => hij e.symm
      have h1' : ¬ j = i + 1 := fun e => hi1 e.symm
      by_cases h2 : j + 1 = i
      · have h3 := zPv_use hp h2 hj
        simp [h1, h1', z_v_cat, h3]
      · simp [h1, h1', h2]
end
section
/-! ===== THE JUDGEMENT zA: a method at a place, in flat words; its rows ===== -/
def zConLen : List Nat := [4, 7, 4, 4, 8, 4, 3, 5]
def zConByt : List (List Int32) := [[104, 97, 99, 107], [118, 105, 99, 105, 111, 117, 115], [100, 97, 119, 110], [103, 114, 101, 121], [109, 105, 100, 110, 105, 103, 104, 116], [114, 111, 97, 100], [105, 110, 110], [114, 105, 100, 101, 114]]
/-- what is known of the launch's own cells: the text constants, String's COMPACT_STRINGS -/
def zNe : List (String × Nat × MethodName × String) := [(RX11, 9, yX7_init, RX11), (RX11, 18, yX10_init, RX11), (RX11, 61, yX4_init, RX11), (RX11, 68, yX9_init, RX11), (RX5, 11, yX7_init, RX11), (RX8, 17, yX0_init, RX11)]
def zZ (g : zG) (s : State) (H : Heap) : Prop :=
  (∀ q ∈ zNe, va_Nw (.methodLinkNest q.1 q.2.1 q.2.2.1 q.2.2.2) s) ∧ vk_S 8 zConLen zConByt g.2.2.2.2.1 g.2.2.2.2.2 (zA0 g) s H ∧ (∀ i : Nat, i < 8 → vk_R (zKon.getD i ("", 0, "")).1 (zKon.getD i ("", 0, "")).2.1 (zKon.getD i ("", 0, "")).2.2 (g.2.2.2.2.1 i) s) ∧ va_Z "java/lang/String" "COMPACT_STRINGS" "Z" (.int 1) (zA0 g) s H ∧
  (va_Z "jdk/internal/util/Preconditions" "SIOOBE_FORMATTER" "Ljava/util/function/BiFunction;" .null (zA0 g) s H ∨ va_Z "jdk/internal/util/Preconditions" "SIOOBE_FORMATTER" "Ljava/util/function/BiFunction;" (.ref (g.2.2.2.2.2 101)) (zA0 g) s H)
theorem zZ.moved {g : zG} {s U : State} {H H1 : Heap} (hW : s.WarmedH U.vm) (hq : ∀ a : Nat, a < H.size → ¬ zA0 g a → H1[a]? = H[a]?) (h : zZ g s H) : zZ g U H1 :=
  ⟨fun q hq2 => (h.1 q hq2).warmM hW, (h.2.1.moved hW.alike).kept hq, fun i hi => (h.2.2.1 i hi).warm hW, (h.2.2.2.1.moved hW.alike).kept hq, h.2.2.2.2.imp (fun q => (q.moved hW.alike).kept hq) (fun q => (q.moved hW.alike).kept hq)⟩
theorem zZ.same {g : zG} {s U : State} {H : Heap} (hv : U.vm = s.vm) (h : zZ g s H) : zZ g U H :=
  ⟨fun q hq2 => va_tabs rfl hv.symm (h.1 q hq2), h.2.1.moved (by rw [hv]; exact Vm.Alike.refl _), fun i hi => (h.2.2.1 i hi).same hv, h.2.2.2.1.moved (by rw [hv]; exact Vm.Alike.refl _), h.2.2.2.2.imp (fun q => q.moved (by rw [hv]; exact Vm.Alike.refl _)) (fun q => q.moved (by rw [hv]; exact Vm.Alike.refl _))⟩
/-- what stays the same while a method runs -/
def zX (g : zG) (y : MethodName) (cc : ByteArray) (nL : Nat) (ret : Option FieldType) (d mc ms : Nat) (p : Program) (R : Room) (s : State) (m : MethodId) (args : Array Value) (meth : Method) (c : Code) : Prop :=
  p.tables.exec = Jvm.exec ∧ c.code = cc ∧ c.maxLocals = nL ∧ s.vm.findClass y.cls = some m.cls ∧ (∀ w ∈ zW, w.before args s = true) ∧ meth.sig.returnType = ret ∧ meth.name = y.name ∧ meth.locks = false ∧
  d ≤ R.frames ∧ 100 * d ≤ R.locals ∧ mc ≤ R.cells ∧ ms ≤ R.slots ∧ va_K (zD g) vwCl (zTy g) s ∧ zZ g s s.heap ∧ g.1 ≤ s.heap.size
/-- the world -/
def zR (g : zG) (S : zS) (M : zM) (s : State) (H : Heap) (locs : List Loc) : Prop :=
  va_P (zD g) vwCl (zWs g S M) H ∧ H.size = g.1 + S.1 ∧ S.1 ≤ 1000 ∧ va_S (zA0 g) s.heap H locs
def zEnd (cc : ByteArray) (ret : Option FieldType) (pc : Nat) (v : Option Value) : Prop :=
  (ret = none ∧ v = none ∧ decode cc pc = .ok (.return_, 1)) ∨ (∃ (ty : FieldType) (x : Int32), ret = some ty ∧ v = some (.int x) ∧ narrow ty (.int x) = .int x ∧ decode cc pc = .ok (.ireturn, 1)) ∨ (∃ x : Int64, ret = some .long ∧ v = some (.long x) ∧ decode cc pc = .ok (.lreturn, 1))
def zA (g : zG) (l : Launch) (y : MethodName) (cc : ByteArray) (nL : Nat) (ret : Option FieldType) (d mc ms : Nat) (P : Option Value → zS → zM → Prop) (pc ks ns : Nat) (S : zS) (M : zM) (lo st : List Value) : Prop :=
  ∀ (p : Program) (e : Env) (R : Room) (s : State) (m : MethodId) (args : Array Value) (below : List Frame) (meth : Method) (c : Code) (H : Heap) (locs : List Loc) (ls : Array Slot) (Q : State → Prop),
    zX g y cc nL ret d mc ms p R s m args meth c → zR g S M s H locs → zL g nL lo ls →
    (∀ (v : Option Value) (S' : zS) (M' : zM) (H' : Heap) (locs' : List Loc) (ls' : Array Slot) (pc' : Nat), P v S' M' → zR g S' M' s H' locs' → zEnd cc ret pc' v → W p l e R s m args below meth c H' locs' mc ms Q (F0 m pc' ls' (v.toList.map (z_v g)))) →
    W p l e R s m args below meth c H locs ks ns Q (F0 m pc ls (st.map (z_v g)))
section ZRULES
variable {g : zG} {l : Launch} {y : MethodName} {cc : ByteArray} {nL : Nat} {ret : Option FieldType} {d mc ms : Nat} {P : Option Value → zS → zM → Prop} {pc ks ns : Nat} {S : zS} {M : zM} {lo st : List Value}
theorem z_iconst {n : Int} {v : Int32} (hdg : decode cc pc = .ok (.iconst n, 1)) (hv : Int32.ofInt n = v) (k : zA g l y cc nL ret d mc ms P (pc + 1) ks ns S M lo (.int v :: st)) : zA g l y cc nL ret d mc ms P pc ks ns S M lo st :=
  fun p e R s m args below meth c H locs ls Q X hR hL hE => lv_iconst X.1 X.2.1 hdg hv (k p e R s m args below meth c H locs ls Q X hR hL hE)
theorem z_bipush {n : Int} {v : Int32} (hdg : decode cc pc = .ok (.bipush n, 2)) (hv : (Int8.ofInt n).toInt32 = v) (k : zA g l y cc nL ret d mc ms P (pc + 2) ks ns S M lo (.int v :: st)) : zA g l y cc nL ret d mc ms P pc ks ns S M lo st :=
  fun p e R s m args below meth c H locs ls Q X hR hL hE => lv_bipush X.1 X.2.1 hdg hv (k p e R s m args below meth c H locs ls Q X hR hL hE)
theorem z_sipush {n : Int} {v : Int32} (hdg : decode cc pc = .ok (.sipush n, 3)) (hv : (Int16.ofInt n).toInt32 = v) (k : zA g l y cc nL ret d mc ms P (pc + 3) ks ns S M lo (.int v :: st)) : zA g l y cc nL ret d mc ms P pc ks ns S M lo st :=
  fun p e R s m args below meth c H locs ls Q X hR hL hE => lv_sipush X.1 X.2.1 hdg hv (k p e R s m args below meth c H locs ls Q X hR hL hE)
theorem z_lconst {n : Fin 2} {v : Int64} (hdg : decode cc pc = .ok (.lconst n, 1)) (hv : Int64.ofNat (n : Nat) = v) (k : zA g l y cc nL ret d mc ms P (pc + 1) ks ns S M lo (.long v :: st)) : zA g l y cc nL ret d mc ms P pc ks ns S M lo st :=
  fun p e R s m args below meth c H locs ls Q X hR hL hE => lv_lconst X.1 X.2.1 hdg hv (k p e R s m args below meth c H locs ls Q X hR hL hE)
theorem z_ldc {v : Int32} {index : Nat} (hc : Cond.constant y.cls index v ∈ zW) (hdg : decode cc pc = .ok (.ldc index, 2)) (k : zA g l y cc nL ret d mc ms P (pc + 2) ks ns S M lo (.int v :: st)) : zA g l y cc nL ret d mc ms P pc ks ns S M lo st :=
  fun p e R s m args below meth c H locs ls Q X hR hL hE => lv_ldc X.1 X.2.1 X.2.2.2.1 (X.2.2.2.2.1 _ hc) hdg (k p e R s m args below meth c H locs ls Q X hR hL hE)
theorem z_ldcw {v : Int32} {index : Nat} (hc : Cond.constant y.cls index v ∈ zW) (hdg : decode cc pc = .ok (.ldc_w index, 3)) (k : zA g l y cc nL ret d mc ms P (pc + 3) ks ns S M lo (.int v :: st)) : zA g l y cc nL ret d mc ms P pc ks ns S M lo st :=
  fun p e R s m args below meth c H locs ls Q X hR hL hE => lv_ldcw X.1 X.2.1 X.2.2.2.1 (X.2.2.2.2.1 _ hc) hdg (k p e R s m args below meth c H locs ls Q X hR hL hE)
theorem z_ldc2 {v : Int64} {index : Nat} (hc : Cond.constantLong y.cls index v ∈ zW) (hdg : decode cc pc = .ok (.ldc2_w index, 3)) (k : zA g l y cc nL ret d mc ms P (pc + 3) ks ns S M lo (.long v :: st)) : zA g l y cc nL ret d mc ms P pc ks ns S M lo st :=
  fun p e R s m args below meth c H locs ls Q X hR hL hE => lv_ldc2 X.1 X.2.1 X.2.2.2.1 (X.2.2.2.2.1 _ hc) hdg (k p e R s m args below meth c H locs ls Q X hR hL hE)
theorem z_iload_n {k : Fin 4} {x : Int32} (hdg : decode cc pc = .ok (.iload_n k, 1)) (hl : lo[(k : Nat)]? = some (.int x)) (kk : zA g l y cc nL ret d mc ms P (pc + 1) ks ns S M lo (.int x :: st)) : zA g l y cc nL ret d mc ms P pc ks ns S M lo st :=
  fun p e R s m args below meth c H locs ls Q X hR hL hE => lv_iload_n X.1 X.2.1 hdg rfl (hL.at hl (by simp)) (kk p e R s m args below meth c H locs ls Q X hR hL hE)
theorem z_iload {k : Nat} {x : Int32} (hdg : decode cc pc = .ok (.iload k, 2)) (hl : lo[k]? = some (.int x)) (kk : zA g l y cc nL ret d mc ms P (pc + 2) ks ns S M lo (.int x :: st)) : zA g l y cc nL ret d mc ms P pc ks ns S M lo st :=
  fun p e R s m args below meth c H locs ls Q X hR hL hE => lv_iload X.1 X.2.1 hdg (hL.at hl (by simp)) (kk p e R s m args below meth c H locs ls Q X hR hL hE)
theorem z_lload_n {k : Fin 4} {x : Int64} (hdg : decode cc pc = .ok (.lload_n k, 1)) (hl : lo[(k : Nat)]? = some (.long x)) (kk : zA g l y cc nL ret d mc ms P (pc + 1) ks ns S M lo (.long x :: st)) : zA g l y cc nL ret d mc ms P pc ks ns S M lo st :=
  fun p e R s m args below meth c H locs ls Q X hR hL hE => lv_lload_n X.1 X.2.1 hdg rfl (hL.at hl (by simp)) (kk p e R s m args below meth c H locs ls Q X hR hL hE)
theorem z_lload {k : Nat} {x : Int64} (hdg : decode cc pc = .ok (.lload k, 2)) (hl : lo[k]? = some (.long x)) (kk : zA g l y cc nL ret d mc ms P (pc + 2) ks ns S M lo (.long x :: st)) : zA g l y cc nL ret d mc ms P pc ks ns S M lo st :=
  fun p e R s m args below meth c H locs ls Q X hR hL hE => lv_lload X.1 X.2.1 hdg (hL.at hl (by simp)) (kk p e R s m args below meth c H locs ls Q X hR hL hE)
theorem z_aload_n {k : Fin 4} {x : Nat} (hdg : decode cc pc = .ok (.aload_n k, 1)) (hl : lo[(k : Nat)]? = some (.ref x)) (kk : zA g l y cc nL ret d mc ms P (pc + 1) ks ns S M lo (.ref x :: st)) : zA g l y cc nL ret d mc ms P pc ks ns S M lo st :=
  fun p e R s m args below meth c H locs ls Q X hR hL hE => lv_aload_n X.1 X.2.1 hdg rfl (hL.at hl (by simp)) (kk p e R s m args below meth c H locs ls Q X hR hL hE)
theorem z_aload {k : Nat} {x : Nat} (hdg : decode cc pc = .ok (.aload k, 2)) (hl : lo[k]? = some (.ref x)) (kk : zA g l y cc nL ret d mc ms P (pc + 2) ks ns S M lo (.ref x :: st)) : zA g l y cc nL ret d mc ms P pc ks ns S M lo st :=
  fun p e R s m args below meth c H locs ls Q X hR hL hE => lv_aload X.1 X.2.1 hdg (hL.at hl (by simp)) (kk p e R s m args below meth c H locs ls Q X hR hL hE)
theorem z_istore_n {k : Fin 4} {x : Int32} {lo' : List Value} (hdg : decode cc pc = .ok (.istore_n k, 1)) (hn : (k : Nat) < nL) (hp : zPv lo k = true) (hlo : lo.set k (.int x) = lo') (kk : zA g l y cc nL ret d mc ms P (pc + 1) ks ns S M lo' st) : zA g l y cc nL ret d mc ms P pc ks ns S M lo (.int x :: st) :=
  fun p e R s m args below meth c H locs ls Q X hR hL hE => lv_istore_n X.1 X.2.1 hdg rfl hL.has hn rfl (fun ls' h' => kk p e R s m args below meth c H locs ls' Q X hR (hlo ▸ zL_set1 (fun _ h => h) hp h') hE)
theorem z_istore {k : Nat} {x : Int32} {lo' : List Value} (hdg : decode cc pc = .ok (.istore k, 2)) (hn : k < nL) (hp : zPv lo k = true) (hlo : lo.set k (.int x) = lo') (kk : zA g l y cc nL ret d mc ms P (pc + 2) ks ns S M lo' st) : zA g l y cc nL ret d mc ms P pc ks ns S M lo (.int x :: st) :=
  fun p e R s m args below meth c H locs ls Q X hR hL hE => lv_istore X.1 X.2.1 hdg hL.has hn rfl (fun ls' h' => kk p e R s m args below meth c H locs ls' Q X hR (hlo ▸ zL_set1 (fun _ h => h) hp h') hE)
theorem z_astore_n {k : Fin 4} {x : Nat} {lo' : List Value} (hdg : decode cc pc = .ok (.astore_n k, 1)) (hn : (k : Nat) < nL) (hp : zPv lo k = true) (hlo : lo.set k (.ref x) = lo') (kk : zA g l y cc nL ret d mc ms P (pc + 1) ks ns S M lo' st) : zA g l y cc nL ret d mc ms P pc ks ns S M lo (.ref x :: st) :=
  fun p e R s m args below meth c H locs ls Q X hR hL hE => lv_astore_n X.1 X.2.1 hdg rfl hL.has hn rfl (fun ls' h' => kk p e R s m args below meth c H locs ls' Q X hR (hlo ▸ zL_set1 (v := .ref x) (fun _ h => h) hp h') hE)
theorem z_astore {k : Nat} {x : Nat} {lo' : List Value} (hdg : decode cc pc = .ok (.astore k, 2)) (hn : k < nL) (hp : zPv lo k = true) (hlo : lo.set k (.ref x) = lo') (kk : zA g l y cc nL ret d mc ms P (pc + 2) ks ns S M lo' st) : zA g l y cc nL ret d mc ms P pc ks ns S M lo (.ref x :: st) :=
  fun p e R s m args below meth c H locs ls Q X hR hL hE => lv_astore X.1 X.2.1 hdg hL.has hn rfl (fun ls' h' => kk p e R s m args below meth c H locs ls' Q X hR (hlo ▸ zL_set1 (v := .ref x) (fun _ h => h) hp h') hE)
theorem z_lstore_n {k : Fin 4} {x : Int64} {lo' : List Value} (hdg : decode cc pc = .ok (.lstore_n k, 1)) (hn : (k : Nat) + 1 < nL) (hp : zPv lo k = true) (hlo : (lo.set k (.long x)).set (k + 1) .null = lo') (kk : zA g l y cc nL ret d mc ms P (pc + 1) ks ns S M lo' st) : zA g l y cc nL ret d mc ms P pc ks ns S M lo (.long x :: st) :=
  fun p e R s m args below meth c H locs ls Q X hR hL hE => lv_lstore_n X.1 X.2.1 hdg rfl hL.has hn rfl (fun ls' h' => kk p e R s m args below meth c H locs ls' Q X hR (hlo ▸ zL_set2 (fun _ h => h) hp h') hE)
theorem z_lstore {k : Nat} {x : Int64} {lo' : List Value} (hdg : decode cc pc = .ok (.lstore k, 2)) (hn : k + 1 < nL) (hp : zPv lo k = true) (hlo : (lo.set k (.long x)).set (k + 1) .null = lo') (kk : zA g l y cc nL ret d mc ms P (pc + 2) ks ns S M lo' st) : zA g l y cc nL ret d mc ms P pc ks ns S M lo (.long x :: st) :=
  fun p e R s m args below meth c H locs ls Q X hR hL hE => lv_lstore X.1 X.2.1 hdg hL.has hn rfl (fun ls' h' => kk p e R s m args below meth c H locs ls' Q X hR (hlo ▸ zL_set2 (fun _ h => h) hp h') hE)
theorem z_iinc {i : Nat} {n : Int} {x v : Int32} {lo' : List Value} (hdg : decode cc pc = .ok (.iinc i n, 3)) (hl : lo[i]? = some (.int x)) (hv : x + Int32.ofInt n = v) (hn : i < nL) (hp : zPv lo i = true) (hlo : lo.set i (.int v) = lo') (kk : zA g l y cc nL ret d mc ms P (pc + 3) ks ns S M lo' st) : zA g l y cc nL ret d mc ms P pc ks ns S M lo st :=
  fun p e R s m args below meth c H locs ls Q X hR hL hE => lv_iinc X.1 X.2.1 (k := 0) (x := x) hdg (hL.hasC hl (by simp)) rfl hv hn rfl (fun ls' h' => kk p e R s m args below meth c H locs ls' Q X hR (hlo ▸ zL_set1 (fun _ h => List.mem_cons_of_mem _ h) hp h') hE)
theorem z_iincW {i : Nat} {n : Int} {x v : Int32} {lo' : List Value} (hdg : decode cc pc = .ok (.iinc i n, 6)) (hl : lo[i]? = some (.int x)) (hv : x + Int32.ofInt n = v) (hn : i < nL) (hp : zPv lo i = true) (hlo : lo.set i (.int v) = lo') (kk : zA g l y cc nL ret d mc ms P (pc + 6) ks ns S M lo' st) : zA g l y cc nL ret d mc ms P pc ks ns S M lo st :=
  fun p e R s m args below meth c H locs ls Q X hR hL hE => lv_iincW X.1 X.2.1 (k := 0) (x := x) hdg (hL.hasC hl (by simp)) rfl hv hn rfl (fun ls' h' => kk p e R s m args below meth c H locs ls' Q X hR (hlo ▸ zL_set1 (fun _ h => List.mem_cons_of_mem _ h) hp h') hE)
theorem z_iadd {x z : Int32} (hdg : decode cc pc = .ok (.iadd, 1))  (k : zA g l y cc nL ret d mc ms P (pc + 1) ks ns S M lo (.int (x + z) :: st)) : zA g l y cc nL ret d mc ms P pc ks ns S M lo (.int z :: .int x :: st) :=
  fun p e R s m args below meth c H locs ls Q X hR hL hE => lv_iadd X.1 X.2.1 hdg  (k p e R s m args below meth c H locs ls Q X hR hL hE)
theorem z_isub {x z : Int32} (hdg : decode cc pc = .ok (.isub, 1))  (k : zA g l y cc nL ret d mc ms P (pc + 1) ks ns S M lo (.int (x - z) :: st)) : zA g l y cc nL ret d mc ms P pc ks ns S M lo (.int z :: .int x :: st) :=
  fun p e R s m args below meth c H locs ls Q X hR hL hE => lv_isub X.1 X.2.1 hdg  (k p e R s m args below meth c H locs ls Q X hR hL hE)
theorem z_imul {x z : Int32} (hdg : decode cc pc = .ok (.imul, 1))  (k : zA g l y cc nL ret d mc ms P (pc + 1) ks ns S M lo (.int (x * z) :: st)) : zA g l y cc nL ret d mc ms P pc ks ns S M lo (.int z :: .int x :: st) :=
  fun p e R s m args below meth c H locs ls Q X hR hL hE => lv_imul X.1 X.2.1 hdg  (k p e R s m args below meth c H locs ls Q X hR hL hE)
theorem z_iand {x z : Int32} (hdg : decode cc pc = .ok (.iand, 1))  (k : zA g l y cc nL ret d mc ms P (pc + 1) ks ns S M lo (.int (x &&& z) :: st)) : zA g l y cc nL ret d mc ms P pc ks ns S M lo (.int z :: .int x :: st) :=
  fun p e R s m args below meth c H locs ls Q X hR hL hE => lv_iand X.1 X.2.1 hdg  (k p e R s m args below meth c H locs ls Q X hR hL hE)
theorem z_ior {x z : Int32} (hdg : decode cc pc = .ok (.ior, 1))  (k : zA g l y cc nL ret d mc ms P (pc + 1) ks ns S M lo (.int (x ||| z) :: st)) : zA g l y cc nL ret d mc ms P pc ks ns S M lo (.int z :: .int x :: st) :=
  fun p e R s m args below meth c H locs ls Q X hR hL hE => lv_ior X.1 X.2.1 hdg  (k p e R s m args below meth c H locs ls Q X hR hL hE)
theorem z_ixor {x z : Int32} (hdg : decode cc pc = .ok (.ixor, 1))  (k : zA g l y cc nL ret d mc ms P (pc + 1) ks ns S M lo (.int (x ^^^ z) :: st)) : zA g l y cc nL ret d mc ms P pc ks ns S M lo (.int z :: .int x :: st) :=
  fun p e R s m args below meth c H locs ls Q X hR hL hE => lv_ixor X.1 X.2.1 hdg  (k p e R s m args below meth c H locs ls Q X hR hL hE)
theorem z_idiv {x z : Int32} (hdg : decode cc pc = .ok (.idiv, 1)) (hne : ¬ z = 0) (k : zA g l y cc nL ret d mc ms P (pc + 1) ks ns S M lo (.int (x / z) :: st)) : zA g l y cc nL ret d mc ms P pc ks ns S M lo (.int z :: .int x :: st) :=
  fun p e R s m args below meth c H locs ls Q X hR hL hE => lv_idiv X.1 X.2.1 hdg hne (k p e R s m args below meth c H locs ls Q X hR hL hE)
theorem z_irem {x z : Int32} (hdg : decode cc pc = .ok (.irem, 1)) (hne : ¬ z = 0) (k : zA g l y cc nL ret d mc ms P (pc + 1) ks ns S M lo (.int (x - x / z * z) :: st)) : zA g l y cc nL ret d mc ms P pc ks ns S M lo (.int z :: .int x :: st) :=
  fun p e R s m args below meth c H locs ls Q X hR hL hE => lv_irem X.1 X.2.1 hdg hne (k p e R s m args below meth c H locs ls Q X hR hL hE)
theorem z_ldiv {x z : Int64} (hdg : decode cc pc = .ok (.ldiv, 1)) (hne : ¬ z = 0) (k : zA g l y cc nL ret d mc ms P (pc + 1) ks ns S M lo (.long (x / z) :: st)) : zA g l y cc nL ret d mc ms P pc ks ns S M lo (.long z :: .long x :: st) :=
  fun p e R s m args below meth c H locs ls Q X hR hL hE => lv_ldiv X.1 X.2.1 hdg hne (k p e R s m args below meth c H locs ls Q X hR hL hE)
theorem z_lrem {x z : Int64} (hdg : decode cc pc = .ok (.lrem, 1)) (hne : ¬ z = 0) (k : zA g l y cc nL ret d mc ms P (pc + 1) ks ns S M lo (.long (x - x / z * z) :: st)) : zA g l y cc nL ret d mc ms P pc ks ns S M lo (.long z :: .long x :: st) :=
  fun p e R s m args below meth c H locs ls Q X hR hL hE => lv_lrem X.1 X.2.1 hdg hne (k p e R s m args below meth c H locs ls Q X hR hL hE)
theorem z_ladd {x z : Int64} (hdg : decode cc pc = .ok (.ladd, 1))  (k : zA g l y cc nL ret d mc ms P (pc + 1) ks ns S M lo (.long (x + z) :: st)) : zA g l y cc nL ret d mc ms P pc ks ns S M lo (.long z :: .long x :: st) :=
  fun p e R s m args below meth c H locs ls Q X hR hL hE => lv_ladd X.1 X.2.1 hdg  (k p e R s m args below meth c H locs ls Q X hR hL hE)
theorem z_lmul {x z : Int64} (hdg : decode cc pc = .ok (.lmul, 1))  (k : zA g l y cc nL ret d mc ms P (pc + 1) ks ns S M lo (.long (x * z) :: st)) : zA g l y cc nL ret d mc ms P pc ks ns S M lo (.long z :: .long x :: st) :=
  fun p e R s m args below meth c H locs ls Q X hR hL hE => lv_lmul X.1 X.2.1 hdg  (k p e R s m args below meth c H locs ls Q X hR hL hE)
theorem z_lcmp {x z : Int64} (hdg : decode cc pc = .ok (.lcmp, 1))  (k : zA g l y cc nL ret d mc ms P (pc + 1) ks ns S M lo (.int (lg_cmp x z) :: st)) : zA g l y cc nL ret d mc ms P pc ks ns S M lo (.long z :: .long x :: st) :=
  fun p e R s m args below meth c H locs ls Q X hR hL hE => W.lcmp X.1 X.2.1 hdg  (k p e R s m args below meth c H locs ls Q X hR hL hE)
theorem z_ishl {x z : Int32} (hdg : decode cc pc = .ok (.ishl, 1))  (k : zA g l y cc nL ret d mc ms P (pc + 1) ks ns S M lo (.int (x <<< (z &&& 31)) :: st)) : zA g l y cc nL ret d mc ms P pc ks ns S M lo (.int z :: .int x :: st) :=
  fun p e R s m args below meth c H locs ls Q X hR hL hE => lv_ishl X.1 X.2.1 hdg  (k p e R s m args below meth c H locs ls Q X hR hL hE)
theorem z_ishr {x z : Int32} (hdg : decode cc pc = .ok (.ishr, 1))  (k : zA g l y cc nL ret d mc ms P (pc + 1) ks ns S M lo (.int (x >>> (z &&& 31)) :: st)) : zA g l y cc nL ret d mc ms P pc ks ns S M lo (.int z :: .int x :: st) :=
  fun p e R s m args below meth c H locs ls Q X hR hL hE => lv_ishr X.1 X.2.1 hdg  (k p e R s m args below meth c H locs ls Q X hR hL hE)
theorem z_iushr {x z : Int32} (hdg : decode cc pc = .ok (.iushr, 1))  (k : zA g l y cc nL ret d mc ms P (pc + 1) ks ns S M lo (.int (x.toUInt32 >>> (z.toUInt32 &&& Int32.toUInt32 31)).toInt32 :: st)) : zA g l y cc nL ret d mc ms P pc ks ns S M lo (.int z :: .int x :: st) :=
  fun p e R s m args below meth c H locs ls Q X hR hL hE => lv_iushr X.1 X.2.1 hdg rfl (k p e R s m args below meth c H locs ls Q X hR hL hE)
theorem z_i2l {x : Int32} (hdg : decode cc pc = .ok (.i2l, 1))  (k : zA g l y cc nL ret d mc ms P (pc + 1) ks ns S M lo (.long x.toInt64 :: st)) : zA g l y cc nL ret d mc ms P pc ks ns S M lo (.int x :: st) :=
  fun p e R s m args below meth c H locs ls Q X hR hL hE => lv_i2l X.1 X.2.1 hdg rfl (k p e R s m args below meth c H locs ls Q X hR hL hE)
theorem z_l2i {x : Int64} (hdg : decode cc pc = .ok (.l2i, 1))  (k : zA g l y cc nL ret d mc ms P (pc + 1) ks ns S M lo (.int x.toInt32 :: st)) : zA g l y cc nL ret d mc ms P pc ks ns S M lo (.long x :: st) :=
  fun p e R s m args below meth c H locs ls Q X hR hL hE => lv_l2i X.1 X.2.1 hdg rfl (k p e R s m args below meth c H locs ls Q X hR hL hE)
theorem z_dup {v : Value} (hdg : decode cc pc = .ok (.dup, 1)) (hv : v.category = 1) (k : zA g l y cc nL ret d mc ms P (pc + 1) ks ns S M lo (v :: v :: st)) : zA g l y cc nL ret d mc ms P pc ks ns S M lo (v :: st) :=
  fun p e R s m args below meth c H locs ls Q X hR hL hE => lv_dup X.1 X.2.1 hdg ((z_v_cat g v).trans hv) (k p e R s m args below meth c H locs ls Q X hR hL hE)
theorem z_pop {v : Value} (hdg : decode cc pc = .ok (.pop, 1)) (hv : v.category = 1) (k : zA g l y cc nL ret d mc ms P (pc + 1) ks ns S M lo (st)) : zA g l y cc nL ret d mc ms P pc ks ns S M lo (v :: st) :=
  fun p e R s m args below meth c H locs ls Q X hR hL hE => lv_pop X.1 X.2.1 hdg ((z_v_cat g v).trans hv) (k p e R s m args below meth c H locs ls Q X hR hL hE)
theorem z_dup2 {v w : Value} (hdg : decode cc pc = .ok (.dup2, 1)) (hv : v.category = 1) (hw : w.category = 1) (k : zA g l y cc nL ret d mc ms P (pc + 1) ks ns S M lo (v :: w :: v :: w :: st)) : zA g l y cc nL ret d mc ms P pc ks ns S M lo (v :: w :: st) :=
  fun p e R s m args below meth c H locs ls Q X hR hL hE => lv_dup2_11 X.1 X.2.1 hdg ((z_v_cat g v).trans hv) ((z_v_cat g w).trans hw) (k p e R s m args below meth c H locs ls Q X hR hL hE)
theorem z_icmp_eq {x z : Int32} {off : Int} {tgt : Nat} (hdg : decode cc pc = .ok (.if_icmp .eq off, 3)) (ht : (pc : Int) + off = (tgt : Int)) (kt : x = z → zA g l y cc nL ret d mc ms P tgt ks ns S M lo st) (kf : ¬ x = z → zA g l y cc nL ret d mc ms P (pc + 3) ks ns S M lo st) : zA g l y cc nL ret d mc ms P pc ks ns S M lo (.int z :: .int x :: st) :=
  fun p e R s m args below meth c H locs ls Q X hR hL hE => lv_icmp_eq X.1 X.2.1 hdg ht (fun q => kt q p e R s m args below meth c H locs ls Q X hR hL hE) (fun q => kf q p e R s m args below meth c H locs ls Q X hR hL hE)
theorem z_if_eq {x : Int32} {off : Int} {tgt : Nat} (hdg : decode cc pc = .ok (.ifCond .eq off, 3)) (ht : (pc : Int) + off = (tgt : Int)) (kt : x = 0 → zA g l y cc nL ret d mc ms P tgt ks ns S M lo st) (kf : ¬ x = 0 → zA g l y cc nL ret d mc ms P (pc + 3) ks ns S M lo st) : zA g l y cc nL ret d mc ms P pc ks ns S M lo (.int x :: st) :=
  fun p e R s m args below meth c H locs ls Q X hR hL hE => lv_if_eq X.1 X.2.1 hdg ht (fun q => kt q p e R s m args below meth c H locs ls Q X hR hL hE) (fun q => kf q p e R s m args below meth c H locs ls Q X hR hL hE)
theorem z_icmp_ne {x z : Int32} {off : Int} {tgt : Nat} (hdg : decode cc pc = .ok (.if_icmp .ne off, 3)) (ht : (pc : Int) + off = (tgt : Int)) (kt : ¬ x = z → zA g l y cc nL ret d mc ms P tgt ks ns S M lo st) (kf : x = z → zA g l y cc nL ret d mc ms P (pc + 3) ks ns S M lo st) : zA g l y cc nL ret d mc ms P pc ks ns S M lo (.int z :: .int x :: st) :=
  fun p e R s m args below meth c H locs ls Q X hR hL hE => lv_icmp_ne X.1 X.2.1 hdg ht (fun q => kt q p e R s m args below meth c H locs ls Q X hR hL hE) (fun q => kf q p e R s m args below meth c H locs ls Q X hR hL hE)
theorem z_if_ne {x : Int32} {off : Int} {tgt : Nat} (hdg : decode cc pc = .ok (.ifCond .ne off, 3)) (ht : (pc : Int) + off = (tgt : Int)) (kt : ¬ x = 0 → zA g l y cc nL ret d mc ms P tgt ks ns S M lo st) (kf : x = 0 → zA g l y cc nL ret d mc ms P (pc + 3) ks ns S M lo st) : zA g l y cc nL ret d mc ms P pc ks ns S M lo (.int x :: st) :=
  fun p e R s m args below meth c H locs ls Q X hR hL hE => lv_if_ne X.1 X.2.1 hdg ht (fun q => kt q p e R s m args below meth c H locs ls Q X hR hL hE) (fun q => kf q p e R s m args below meth c H locs ls Q X hR hL hE)
theorem z_icmp_lt {x z : Int32} {off : Int} {tgt : Nat} (hdg : decode cc pc = .ok (.if_icmp .lt off, 3)) (ht : (pc : Int) + off = (tgt : Int)) (kt : x < z → zA g l y cc nL ret d mc ms P tgt ks ns S M lo st) (kf : ¬ x < z → zA g l y cc nL ret d mc ms P (pc + 3) ks ns S M lo st) : zA g l y cc nL ret d mc ms P pc ks ns S M lo (.int z :: .int x :: st) :=
  fun p e R s m args below meth c H locs ls Q X hR hL hE => lv_icmp_lt X.1 X.2.1 hdg ht (fun q => kt q p e R s m args below meth c H locs ls Q X hR hL hE) (fun q => kf q p e R s m args below meth c H locs ls Q X hR hL hE)
theorem z_if_lt {x : Int32} {off : Int} {tgt : Nat} (hdg : decode cc pc = .ok (.ifCond .lt off, 3)) (ht : (pc : Int) + off = (tgt : Int)) (kt : x < 0 → zA g l y cc nL ret d mc ms P tgt ks ns S M lo st) (kf : ¬ x < 0 → zA g l y cc nL ret d mc ms P (pc + 3) ks ns S M lo st) : zA g l y cc nL ret d mc ms P pc ks ns S M lo (.int x :: st) :=
  fun p e R s m args below meth c H locs ls Q X hR hL hE => lv_if_lt X.1 X.2.1 hdg ht (fun q => kt q p e R s m args below meth c H locs ls Q X hR hL hE) (fun q => kf q p e R s m args below meth c H locs ls Q X hR hL hE)
theorem z_icmp_ge {x z : Int32} {off : Int} {tgt : Nat} (hdg : decode cc pc = .ok (.if_icmp .ge off, 3)) (ht : (pc : Int) + off = (tgt : Int)) (kt : z ≤ x → zA g l y cc nL ret d mc ms P tgt ks ns S M lo st) (kf : ¬ z ≤ x → zA g l y cc nL ret d mc ms P (pc + 3) ks ns S M lo st) : zA g l y cc nL ret d mc ms P pc ks ns S M lo (.int z :: .int x :: st) :=
  fun p e R s m args below meth c H locs ls Q X hR hL hE => lv_icmp_ge X.1 X.2.1 hdg ht (fun q => kt q p e R s m args below meth c H locs ls Q X hR hL hE) (fun q => kf q p e R s m args below meth c H locs ls Q X hR hL hE)
theorem z_if_ge {x : Int32} {off : Int} {tgt : Nat} (hdg : decode cc pc = .ok (.ifCond .ge off, 3)) (ht : (pc : Int) + off = (tgt : Int)) (kt : 0 ≤ x → zA g l y cc nL ret d mc ms P tgt ks ns S M lo st) (kf : ¬ 0 ≤ x → zA g l y cc nL ret d mc ms P (pc + 3) ks ns S M lo st) : zA g l y cc nL ret d mc ms P pc ks ns S M lo (.int x :: st) :=
  fun p e R s m args below meth c H locs ls Q X hR hL hE => lv_if_ge X.1 X.2.1 hdg ht (fun q => kt q p e R s m args below meth c H locs ls Q X hR hL hE) (fun q => kf q p e R s m args below meth c H locs ls Q X hR hL hE)
theorem z_icmp_gt {x z : Int32} {off : Int} {tgt : Nat} (hdg : decode cc pc = .ok (.if_icmp .gt off, 3)) (ht : (pc : Int) + off = (tgt : Int)) (kt : z < x → zA g l y cc nL ret d mc ms P tgt ks ns S M lo st) (kf : ¬ z < x → zA g l y cc nL ret d mc ms P (pc + 3) ks ns S M lo st) : zA g l y cc nL ret d mc ms P pc ks ns S M lo (.int z :: .int x :: st) :=
  fun p e R s m args below meth c H locs ls Q X hR hL hE => lv_icmp_gt X.1 X.2.1 hdg ht (fun q => kt q p e R s m args below meth c H locs ls Q X hR hL hE) (fun q => kf q p e R s m args below meth c H locs ls Q X hR hL hE)
theorem z_if_gt {x : Int32} {off : Int} {tgt : Nat} (hdg : decode cc pc = .ok (.ifCond .gt off, 3)) (ht : (pc : Int) + off = (tgt : Int)) (kt : 0 < x → zA g l y cc nL ret d mc ms P tgt ks ns S M lo st) (kf : ¬ 0 < x → zA g l y cc nL ret d mc ms P (pc + 3) ks ns S M lo st) : zA g l y cc nL ret d mc ms P pc ks ns S M lo (.int x :: st) :=
  fun p e R s m args below meth c H locs ls Q X hR hL hE => lv_if_gt X.1 X.2.1 hdg ht (fun q => kt q p e R s m args below meth c H locs ls Q X hR hL hE) (fun q => kf q p e R s m args below meth c H locs ls Q X hR hL hE)
theorem z_icmp_le {x z : Int32} {off : Int} {tgt : Nat} (hdg : decode cc pc = .ok (.if_icmp .le off, 3)) (ht : (pc : Int) + off = (tgt : Int)) (kt : x ≤ z → zA g l y cc nL ret d mc ms P tgt ks ns S M lo st) (kf : ¬ x ≤ z → zA g l y cc nL ret d mc ms P (pc + 3) ks ns S M lo st) : zA g l y cc nL ret d mc ms P pc ks ns S M lo (.int z :: .int x :: st) :=
  fun p e R s m args below meth c H locs ls Q X hR hL hE => lv_icmp_le X.1 X.2.1 hdg ht (fun q => kt q p e R s m args below meth c H locs ls Q X hR hL hE) (fun q => kf q p e R s m args below meth c H locs ls Q X hR hL hE)
theorem z_if_le {x : Int32} {off : Int} {tgt : Nat} (hdg : decode cc pc = .ok (.ifCond .le off, 3)) (ht : (pc : Int) + off = (tgt : Int)) (kt : x ≤ 0 → zA g l y cc nL ret d mc ms P tgt ks ns S M lo st) (kf : ¬ x ≤ 0 → zA g l y cc nL ret d mc ms P (pc + 3) ks ns S M lo st) : zA g l y cc nL ret d mc ms P pc ks ns S M lo (.int x :: st) :=
  fun p e R s m args below meth c H locs ls Q X hR hL hE => lv_if_le X.1 X.2.1 hdg ht (fun q => kt q p e R s m args below meth c H locs ls Q X hR hL hE) (fun q => kf q p e R s m args below meth c H locs ls Q X hR hL hE)
theorem z_goto {off : Int} {tgt : Nat} (hdg : decode cc pc = .ok (.goto off, 3)) (ht : (pc : Int) + off = (tgt : Int)) (k : zA g l y cc nL ret d mc ms P tgt ks ns S M lo st) : zA g l y cc nL ret d mc ms P pc ks ns S M lo st :=
  fun p e R s m args below meth c H locs ls Q X hR hL hE => lv_goto X.1 X.2.1 hdg ht (k p e R s m args below meth c H locs ls Q X hR hL hE)
theorem z_tableIn {dflt lw hi : Int} {offs : Array Int} {len : Nat} {x : Int32} {off : Int} {tgt : Nat} (hdg : decode cc pc = .ok (.tableswitch dflt lw hi offs, len)) (h1 : ¬ x.toInt < lw) (h2 : ¬ hi < x.toInt) (ho : offs[(x.toInt - lw).toNat]? = some off) (ht : (pc : Int) + off = (tgt : Int)) (k : zA g l y cc nL ret d mc ms P tgt ks ns S M lo st) : zA g l y cc nL ret d mc ms P pc ks ns S M lo (.int x :: st) :=
  fun p e R s m args below meth c H locs ls Q X hR hL hE => lv_tableIn X.1 X.2.1 hdg h1 h2 ho ht (k p e R s m args below meth c H locs ls Q X hR hL hE)
theorem z_tableOut {dflt lw hi : Int} {offs : Array Int} {len : Nat} {x : Int32} {tgt : Nat} (hdg : decode cc pc = .ok (.tableswitch dflt lw hi offs, len)) (h : x.toInt < lw ∨ hi < x.toInt) (ht : (pc : Int) + dflt = (tgt : Int)) (k : zA g l y cc nL ret d mc ms P tgt ks ns S M lo st) : zA g l y cc nL ret d mc ms P pc ks ns S M lo (.int x :: st) :=
  fun p e R s m args below meth c H locs ls Q X hR hL hE => lv_tableOut X.1 X.2.1 hdg h ht (k p e R s m args below meth c H locs ls Q X hR hL hE)
theorem z_lookup {dflt : Int} {ps : Array (Int × Int)} {len : Nat} {x : Int32} {off : Int} {tgt : Nat} (hdg : decode cc pc = .ok (.lookupswitch dflt ps, len)) (hp : (ps.toList.zip (ps.toList.drop 1)).all (fun (a, next) => a.1 < next.1) = true) (ho : Op.lookupswitch.offset ps.toList dflt x.toInt = off) (ht : (pc : Int) + off = (tgt : Int)) (k : zA g l y cc nL ret d mc ms P tgt ks ns S M lo st) : zA g l y cc nL ret d mc ms P pc ks ns S M lo (.int x :: st) :=
  fun p e R s m args below meth c H locs ls Q X hR hL hE => lv_lookup X.1 X.2.1 hdg hp ho ht (k p e R s m args below meth c H locs ls Q X hR hL hE)
theorem z_ireturn {ty : FieldType} {x : Int32} (hdg : decode cc pc = .ok (.ireturn, 1)) (hr : ret = some ty) (hn : narrow ty (.int x) = .int x) (hk : ks ≤ mc) (hs : ns ≤ ms) (h : P (some (.int x)) S M) : zA g l y cc nL ret d mc ms P pc ks ns S M lo [.int x] :=
  fun p e R s m args below meth c H locs ls Q X hR hL hE => W.widen hk hs (hE (some (.int x)) S M H locs ls pc h hR (Or.inr (Or.inl ⟨ty, x, hr, rfl, hn, hdg⟩)))
theorem z_lreturn {x : Int64} (hdg : decode cc pc = .ok (.lreturn, 1)) (hr : ret = some .long) (hk : ks ≤ mc) (hs : ns ≤ ms) (h : P (some (.long x)) S M) : zA g l y cc nL ret d mc ms P pc ks ns S M lo [.long x] :=
  fun p e R s m args below meth c H locs ls Q X hR hL hE => W.widen hk hs (hE (some (.long x)) S M H locs ls pc h hR (Or.inr (Or.inr ⟨x, hr, rfl, hdg⟩)))
theorem z_return (hdg : decode cc pc = .ok (.return_, 1)) (hr : ret = none) (hk : ks ≤ mc) (hs : ns ≤ ms) (h : P none S M) : zA g l y cc nL ret d mc ms P pc ks ns S M lo [] :=
  fun p e R s m args below meth c H locs ls Q X hR hL hE => W.widen hk hs (hE none S M H locs ls pc h hR (Or.inl ⟨hr, rfl, hdg⟩))
theorem zA.weak {P' : Option Value → zS → zM → Prop} (h : zA g l y cc nL ret d mc ms P' pc ks ns S M lo st) (hP : ∀ v S' M', P' v S' M' → P v S' M') : zA g l y cc nL ret d mc ms P pc ks ns S M lo st :=
  fun p e R s m args below meth c H locs ls Q X hR hL hE => h p e R s m args below meth c H locs ls Q X hR hL (fun v S' M' H' locs' ls' pc' q => hE v S' M' H' locs' ls' pc' (hP v S' M' q))
/-- fewer locals known -/
theorem zA.locs {lo' : List Value} (h : zA g l y cc nL ret d mc ms P pc ks ns S M lo' st) (hl : ∀ (i : Nat) (v : Value), lo'[i]? = some v → v ≠ .null → lo[i]? = some v) : zA g l y cc nL ret d mc ms P pc ks ns S M lo st :=
  fun p e R s m args below meth c H locs ls Q X hR hL hE => h p e R s m args below meth c H locs ls Q X hR ⟨hL.1, hL.2.1, fun i v h1 h2 => hL.2.2 i v (hl i v h1 h2) h2⟩ hE
end ZRULES
end
section
/-! ===== fields, arrays, new objects ===== -/
theorem zFv_congr {g : zG} {S S' : zS} {M M' : zM} {k : Nat} (h : M' k = M k) (hr : S'.2.2 k = S.2.2 k) (ci j : Nat) : zFv g S' M' k ci j = zFv g S M k ci j := by
  unfold zFv
  rw [h, hr]
theorem zCell_congr {g : zG} {S S' : zS} {M M' : zM} {k : Nat} (h : M' k = M k) (hs : S'.2.1 k = S.2.1 k) (hr : S'.2.2 k = S.2.2 k) : zCell g S' M' k = zCell g S M k := by
  have e : zFv g S' M' k = zFv g S M k := by
    funext ci j
    exact zFv_congr h hr ci j
  unfold zCell
  rw [hs, e, h, hr]
theorem zCell_o {g : zG} {S : zS} {M : zM} {k ci N : Nat} (hs : S.2.1 k = (ci, N)) (hci : ci < 20) : zCell g S M k = .inr (ci, (List.range N).map (zFv g S M k ci)) := by
  have h1 : ¬ (ci = 20 ∨ ci = 21) := by omega
  have h2 : ¬ (ci = 22 ∨ ci = 23) := by omega
  unfold zCell
  rw [hs]
  simp only [h1, h2, if_false]
theorem zCell_n {g : zG} {S : zS} {M : zM} {k q n : Nat} (hs : S.2.1 k = (q, n)) (hq : q = 20 ∨ q = 21) : zCell g S M k = .inl (zcA g q, n, .inl (M k)) := by
  unfold zCell
  rw [hs]
  simp only [hq, if_true]
theorem zCell_q {g : zG} {S : zS} {M : zM} {k q n : Nat} (hs : S.2.1 k = (q, n)) (hq : q = 22 ∨ q = 23) : zCell g S M k = .inl (zcA g q, n, .inr (.inr (.inr (.inr (fun i => zrf g (S.2.2 k i)))))) := by
  have h1 : ¬ (q = 20 ∨ q = 21) := by omega
  unfold zCell
  rw [hs]
  simp only [h1, hq, if_false, if_true]
/-- a class: its place in vwCl, its fields' words, their types, their names apart -/
def zCls (ci : Nat) (C : String) (T : u_T) (N : Nat) (t0 : Nat → FieldType) : Prop :=
  vwCl[ci]? = some (C, T, N) ∧ (∀ w ∈ u_ws C T N, w ∈ zW) ∧ (∀ k, k < N → parseFieldDescriptor (T k).2.2.1 = some (t0 k)) ∧ (∀ a, a < N → ∀ b, b < N → a ≠ b → (T a).2.1 ≠ (T b).2.1)
theorem zCls.lt {ci : Nat} {C : String} {T : u_T} {N : Nat} {t0 : Nat → FieldType} (h : zCls ci C T N t0) : ci < 20 := by
  have := (List.getElem?_eq_some_iff.mp h.1).1
  have h2 : vwCl.length = 11 := rfl
  omega
theorem z_at {g : zG} {S : zS} {M : zM} {k : Nat} {e : va_E} (hk : k < S.1) (h : zCell g S M k = e) : (zWs g S M)[k]? = some (g.1 + k, e) := by rw [zWs_get hk, h]
theorem z_fld {g : zG} {S : zS} {M : zM} {k ci N j : Nat} (hj : j < N) : ((List.range N).map (zFv g S M k ci))[j]? = some (zFv g S M k ci j) := by
  simp [List.getElem?_map, List.getElem?_range hj]
/-- the world after a number is written into an object -/
theorem z_setO {g : zG} {S : zS} {M : zM} {k ci N j : Nat} {x : Int32} (hs : S.2.1 k = (ci, N)) (hci : ci < 20) (hir : zIr ci j = false) :
    (zWs g S M).set k (g.1 + k, .inr (ci, ((List.range N).map (zFv g S M k ci)).set j (.int x))) = zWs g S (z_up M k j x) := by
  refine zWs_set rfl ?_ fun i hi => zCell_congr (z_up_n M j x hi) rfl rfl
  rw [zCell_o hs hci, z_list_set]
  congr 2
  refine List.map_congr_left fun i _ => ?_
  by_cases h : i = j
  · subst h
    rw [if_pos rfl]
    simp [zFv, hir, z_up_s, upd]
  · rw [if_neg h]
    simp [zFv, z_up_s, upd, h]
def z_upR (S : zS) (k j r : Nat) : zS := (S.1, S.2.1, fun k' => if k' = k then (fun j' => if j' = j then r else S.2.2 k j') else S.2.2 k')
theorem z_setR {g : zG} {S : zS} {M : zM} {k ci N j r : Nat} (hs : S.2.1 k = (ci, N)) (hci : ci < 20) (hir : zIr ci j = true) :
    (zWs g S M).set k (g.1 + k, .inr (ci, ((List.range N).map (zFv g S M k ci)).set j (.ref (g.1 + r)))) = zWs g (z_upR S k j (r + 1)) M := by
  refine zWs_set rfl ?_ fun i hi => zCell_congr rfl rfl (by simp [z_upR, hi])
  rw [zCell_o (S := z_upR S k j (r + 1)) hs hci, z_list_set]
  congr 2
  refine List.map_congr_left fun i _ => ?_
  by_cases h : i = j
  · subst h
    rw [if_pos rfl]
    simp [zFv, hir, z_upR, zrf, va_rf]
  · rw [if_neg h]
    simp [zFv, z_upR, h]
theorem z_setA {g : zG} {S : zS} {M : zM} {k q n j : Nat} {x : Int32} (hs : S.2.1 k = (q, n)) (hq : q = 20 ∨ q = 21) :
    (zWs g S M).set k (g.1 + k, .inl (zcA g q, n, .inl (upd (M k) j x))) = zWs g S (z_up M k j x) := by
  refine zWs_set rfl ?_ fun i hi => zCell_congr (z_up_n M j x hi) rfl rfl
  rw [zCell_n hs hq, z_up_s]
def z_row (M : zM) (k : Nat) (f : Nat → Int32) : zM := fun k' => if k' = k then f else M k'
theorem z_row_s (M : zM) (k : Nat) (f : Nat → Int32) : z_row M k f k = f := if_pos rfl
theorem z_row_n (M : zM) {k k' : Nat} (f : Nat → Int32) (h : k' ≠ k) : z_row M k f k' = M k' := if_neg h
theorem z_setF {g : zG} {S : zS} {M : zM} {k q n : Nat} {f : Nat → Int32} (hs : S.2.1 k = (q, n)) (hq : q = 20 ∨ q = 21) :
    (zWs g S M).set k (g.1 + k, .inl (zcA g q, n, .inl f)) = zWs g S (z_row M k f) := by
  refine zWs_set rfl ?_ fun i hi => zCell_congr (z_row_n M f hi) rfl rfl
  rw [zCell_n hs hq, z_row_s]
theorem z_setQ {g : zG} {S : zS} {M : zM} {k q n j r : Nat} (hs : S.2.1 k = (q, n)) (hq : q = 22 ∨ q = 23) :
    (zWs g S M).set k (g.1 + k, .inl (zcA g q, n, .inr (.inr (.inr (.inr (va_up (fun i => zrf g (S.2.2 k i)) j (some (g.1 + r)))))))) = zWs g (z_upR S k j (r + 1)) M := by
  refine zWs_set rfl ?_ fun i hi => zCell_congr rfl rfl (by simp [z_upR, hi])
  rw [zCell_q (S := z_upR S k j (r + 1)) hs hq]
  congr 7
  funext i
  by_cases h : i = j
  · subst h
    simp [va_up, z_upR, zrf]
  · simp [va_up, z_upR, h]
/-- a new cell -/
def zSn (S : zS) (q : Nat × Nat) : zS := (S.1 + 1, fun i => if i = S.1 then q else S.2.1 i, fun i => if i = S.1 then (fun _ => 0) else S.2.2 i)
def zMn (n : Nat) (M : zM) : zM := fun i => if i = n then (fun _ => 0) else M i
theorem z_pushO {g : zG} {S : zS} {M : zM} {ci N : Nat} (hci : ci < 20) : zWs g S M ++ [(g.1 + S.1, .inr (ci, (List.range N).map (fun j => if zIr ci j = true then .null else .int 0)))] = zWs g (zSn S (ci, N)) (zMn S.1 M) := by
  refine zWs_push rfl ?_ fun i hi => zCell_congr (by simp [zMn, Nat.ne_of_lt hi]) (by simp [zSn, Nat.ne_of_lt hi]) (by simp [zSn, Nat.ne_of_lt hi])
  rw [zCell_o (S := zSn S (ci, N)) (ci := ci) (N := N) (by simp [zSn]) hci]
  congr 2
  refine List.map_congr_left fun i _ => ?_
  simp [zFv, zSn, zMn, zrf, va_rf]
theorem z_pushA {g : zG} {S : zS} {M : zM} {q n : Nat} (hq : q = 20 ∨ q = 21) : zWs g S M ++ [(g.1 + S.1, .inl (zcA g q, n, .inl (fun _ => 0)))] = zWs g (zSn S (q, n)) (zMn S.1 M) := by
  refine zWs_push rfl ?_ fun i hi => zCell_congr (by simp [zMn, Nat.ne_of_lt hi]) (by simp [zSn, Nat.ne_of_lt hi]) (by simp [zSn, Nat.ne_of_lt hi])
  rw [zCell_n (S := zSn S (q, n)) (q := q) (n := n) (by simp [zSn]) hq]
  simp [zMn]
theorem z_pushQ {g : zG} {S : zS} {M : zM} {q n : Nat} (hq : q = 22 ∨ q = 23) : zWs g S M ++ [(g.1 + S.1, .inl (zcA g q, n, .inr (.inr (.inr (.inr (fun _ => none))))))] = zWs g (zSn S (q, n)) (zMn S.1 M) := by
  refine zWs_push rfl ?_ fun i hi => zCell_congr (by simp [zMn, Nat.ne_of_lt hi]) (by simp [zSn, Nat.ne_of_lt hi]) (by simp [zSn, Nat.ne_of_lt hi])
  rw [zCell_q (S := zSn S (q, n)) (q := q) (n := n) (by simp [zSn]) hq]
  simp [zSn, zrf]
section ZHEAP
variable {g : zG} {l : Launch} {y : MethodName} {cc : ByteArray} {nL : Nat} {ret : Option FieldType} {d mc ms : Nat} {P : Option Value → zS → zM → Prop} {pc ks ns : Nat} {S : zS} {M : zM} {lo st : List Value}
variable {ci N k j index : Nat} {C : String} {T : u_T} {t0 : Nat → FieldType}
theorem z_stk {g : zG} {k : Nat} {st : List Value} (h : k < 1000) : (Value.ref k :: st).map (z_v g) = .ref (g.1 + k) :: st.map (z_v g) := by
  show Value.ref (zad g k) :: _ = _
  rw [zad_lo g h]
theorem z_getI (K : zCls ci C T N t0) (hl : Cond.fieldLink y.cls index (T j).1 (T j).2.1 (T j).2.2.1 ∈ zW) (hj : j < N) (hir : zIr ci j = false) (hdg : decode cc pc = .ok (.getfield index, 3)) (hk : k < S.1) (hs : S.2.1 k = (ci, N))
    (kk : zA g l y cc nL ret d mc ms P (pc + 3) ks ns S M lo (.int (M k j) :: st)) : zA g l y cc nL ret d mc ms P pc ks ns S M lo (.ref k :: st) := by
  intro p e R s m args below meth c H locs ls Q X hR hL hE
  rw [z_stk (Nat.lt_of_lt_of_le hk hR.2.2.1)]
  refine va_get (ref := (T j).1) (v := .int (M k j)) X.1 X.2.1 (Ts := zW) X.2.2.2.2.1 K.2.1 X.2.2.2.1 X.2.2.2.2.2.2.2.2.2.2.2.2.1 hR.1 k (z_at hk (zCell_o hs K.lt)) K.1 j hj (X.2.2.2.2.1 _ hl) (fun x h => h) ?_ hdg (kk p e R s m args below meth c H locs ls Q X hR hL hE)
  rw [z_fld hj]
  simp [zFv, hir]
theorem z_getR {r : Nat} (K : zCls ci C T N t0) (hl : Cond.fieldLink y.cls index (T j).1 (T j).2.1 (T j).2.2.1 ∈ zW) (hj : j < N) (hir : zIr ci j = true) (hdg : decode cc pc = .ok (.getfield index, 3)) (hk : k < S.1) (hs : S.2.1 k = (ci, N)) (hr : S.2.2 k j = r + 1) (hr2 : r < 1000)
    (kk : zA g l y cc nL ret d mc ms P (pc + 3) ks ns S M lo (.ref r :: st)) : zA g l y cc nL ret d mc ms P pc ks ns S M lo (.ref k :: st) := by
  intro p e R s m args below meth c H locs ls Q X hR hL hE
  rw [z_stk (Nat.lt_of_lt_of_le hk hR.2.2.1)]
  have kk' := kk p e R s m args below meth c H locs ls Q X hR hL hE
  rw [z_stk hr2] at kk'
  refine va_get (ref := (T j).1) (v := .ref (g.1 + r)) X.1 X.2.1 (Ts := zW) X.2.2.2.2.1 K.2.1 X.2.2.2.1 X.2.2.2.2.2.2.2.2.2.2.2.2.1 hR.1 k (z_at hk (zCell_o hs K.lt)) K.1 j hj (X.2.2.2.2.1 _ hl) (fun x h => h) ?_ hdg kk'
  rw [z_fld hj]
  simp [zFv, hir, hr, zrf, va_rf]
theorem z_putI {x : Int32} {ty : FieldType} (K : zCls ci C T N t0) (hl : Cond.fieldLink y.cls index (T j).1 (T j).2.1 (T j).2.2.1 ∈ zW) (hj : j < N) (hir : zIr ci j = false) (hfin : (T j).2.2.2 = false) (hd : parseFieldDescriptor (T j).2.2.1 = some ty) (hn : narrow ty (.int x) = .int x) (hfit : fits ty (.int x) = true)
    (hdg : decode cc pc = .ok (.putfield index, 3)) (hk : k < S.1) (hs : S.2.1 k = (ci, N))
    (kk : zA g l y cc nL ret d mc ms P (pc + 3) ks ns S (z_up M k j x) lo st) : zA g l y cc nL ret d mc ms P pc ks ns S M lo (.int x :: .ref k :: st) := by
  intro p e R s m args below meth c H locs ls Q X hR hL hE
  show W p l e R s m args below meth c H locs ks ns Q (F0 m pc ls (.int x :: (Value.ref k :: st).map (z_v g)))
  rw [z_stk (Nat.lt_of_lt_of_le hk hR.2.2.1)]
  have hK := X.2.2.2.2.2.2.2.2.2.2.2.2.1
  have hts := X.2.2.2.2.1
  have hap := va_apart (own := y.cls) hts K.2.1 t0 K.2.2.1 K.2.2.2 hK K.1
  have he := z_at (g := g) (M := M) hk (zCell_o hs K.lt)
  obtain ⟨r, h1, cell, q1, q2, q3, q4⟩ := hR.1 k _ he
  have hr : r = (C, T, N) := Option.some.inj (h1.symm.trans K.1)
  subst hr
  obtain ⟨hS, hfc, kC, hkC, hkind⟩ := hK.1 ci _ K.1
  obtain ⟨cf, kf, fi, f, hi, hsl⟩ := hS j hj
  have hlay := hts _ (K.2.1 _ (u_in_lay hj))
  unfold u_lay at hlay
  rw [if_neg (by rw [hfin]; decide)] at hlay
  have hst := (u_facts hfc hkC (u_lays hts K.2.1 hj) hi).1
  have h6 := u_store hfc hkC hkind hlay hi hd hn hfit
  refine W.putK X.1 X.2.1 (f := f) ⟨X.2.2.2.1, hts _ hl, ⟨_, _, _, hi⟩, hst⟩ (by rw [q2]; exact h6) q1 q3 (by rw [hsl]; exact k2_hasslot (q4 j hj)) rfl rfl hdg fun H' e1 e2 e3 => ?_
  rw [hsl] at e1 ⊢
  have hP1 := hR.1.set (zWs_D g S M) he (e := .inr (ci, ((List.range N).map (zFv g S M k ci)).set j (.int x))) ⟨_, K.1, t_OB.to (V := updV (vp_V _) j (.int x)) ⟨_, e1, q2, q3, t_set q4 hap hj _⟩ (fun i _ => vp_updV_set (by simpa using hj) _ i)⟩ e3
  rw [z_setO hs K.lt hir] at hP1
  exact kk p e R s m args below meth c H' _ ls Q X ⟨hP1, e2.trans hR.2.1, hR.2.2.1, hR.2.2.2.put e2 e3 (Nat.le_add_right _ _)⟩ hL hE
theorem z_putF {r : Nat} {ty : FieldType} (K : zCls ci C T N t0) (hl : Cond.fieldLink y.cls index (T j).1 (T j).2.1 (T j).2.2.1 ∈ zW) (hj : j < N) (hir : zIr ci j = true) (hfin : (T j).2.2.2 = true) (hinit : y.name = "<init>") (hdecl : (T j).1 = y.cls) (hd : parseFieldDescriptor (T j).2.2.1 = some ty) (hn : ∀ a : Nat, narrow ty (.ref a) = .ref a) (hfit : ∀ a : Nat, fits ty (.ref a) = true)
    (hdg : decode cc pc = .ok (.putfield index, 3)) (hk : k < S.1) (hs : S.2.1 k = (ci, N)) (hr2 : r < 1000)
    (kk : zA g l y cc nL ret d mc ms P (pc + 3) ks ns (z_upR S k j (r + 1)) M lo st) : zA g l y cc nL ret d mc ms P pc ks ns S M lo (.ref r :: .ref k :: st) := by
  intro p e R s m args below meth c H locs ls Q X hR hL hE
  rw [z_stk hr2, z_stk (Nat.lt_of_lt_of_le hk hR.2.2.1)]
  have hK := X.2.2.2.2.2.2.2.2.2.2.2.2.1
  have hts := X.2.2.2.2.1
  have hap := va_apart (own := y.cls) hts K.2.1 t0 K.2.2.1 K.2.2.2 hK K.1
  have he := z_at (g := g) (M := M) hk (zCell_o hs K.lt)
  obtain ⟨r', h1, cell, q1, q2, q3, q4⟩ := hR.1 k _ he
  have hr : r' = (C, T, N) := Option.some.inj (h1.symm.trans K.1)
  subst hr
  obtain ⟨hS, hfc, kC, hkC, hkind⟩ := hK.1 ci _ K.1
  obtain ⟨cf, kf, fi, f, hi, hsl⟩ := hS j hj
  have hlay := hts _ (K.2.1 _ (u_in_lay hj))
  unfold u_lay at hlay
  rw [if_pos hfin] at hlay
  have hst := (u_facts hfc hkC (u_lays hts K.2.1 hj) hi).1
  have hcf : m.cls = cf := by
    obtain ⟨_, _, c', _, _, _, -, -, hf', -, -, -, hown2, -⟩ := Cond.laysFinal_spec hlay
    have e1 : c' = cf := by have := hi.symm.trans hf'; simp at this; exact this.1.symm
    rw [hdecl] at hown2
    rw [← e1]; exact Option.some.inj (X.2.2.2.1.symm.trans hown2)
  have h6 := u_fits hfc hkC hkind (Or.inr hlay) hi hd (hn (g.1 + r)) (hfit (g.1 + r))
  refine W.putFinK X.1 X.2.1 X.2.2.2.1 (hts _ hl) hi hst hcf (X.2.2.2.2.2.2.1.trans hinit) (by rw [q2]; exact h6) q1 q3 (by rw [hsl]; exact k2_hasslot (q4 j hj)) rfl rfl hdg fun H' e1 e2 e3 => ?_
  rw [hsl] at e1 ⊢
  have hP1 := hR.1.set (zWs_D g S M) he (e := .inr (ci, ((List.range N).map (zFv g S M k ci)).set j (.ref (g.1 + r)))) ⟨_, K.1, t_OB.to (V := updV (vp_V _) j (.ref (g.1 + r))) ⟨_, e1, q2, q3, t_set q4 hap hj _⟩ (fun i _ => vp_updV_set (by simpa using hj) _ i)⟩ e3
  rw [z_setR hs K.lt hir] at hP1
  exact kk p e R s m args below meth c H' _ ls Q X ⟨hP1, e2.trans hR.2.1, hR.2.2.1, hR.2.2.2.put e2 e3 (Nat.le_add_right _ _)⟩ hL hE
theorem z_stk2 {g : zG} {k : Nat} {i : Int32} {st : List Value} (h : k < 1000) : (Value.int i :: .ref k :: st).map (z_v g) = .int i :: .ref (g.1 + k) :: st.map (z_v g) := by
  show Value.int i :: Value.ref (zad g k) :: _ = _
  rw [zad_lo g h]
theorem z_stk3 {g : zG} {k : Nat} {i x : Int32} {st : List Value} (h : k < 1000) : (Value.int x :: .int i :: .ref k :: st).map (z_v g) = .int x :: .int i :: .ref (g.1 + k) :: st.map (z_v g) := by
  show Value.int x :: Value.int i :: Value.ref (zad g k) :: _ = _
  rw [zad_lo g h]
theorem z_iald {n : Nat} {i : Int32} (hdg : decode cc pc = .ok (.iaload, 1)) (hk : k < S.1) (hs : S.2.1 k = (20, n)) (hin : vp_in i n) (kk : zA g l y cc nL ret d mc ms P (pc + 1) ks ns S M lo (.int (M k i.toNatClampNeg) :: st)) : zA g l y cc nL ret d mc ms P pc ks ns S M lo (.int i :: .ref k :: st) := by
  intro p e R s m args below meth c H locs ls Q X hR hL hE
  rw [z_stk2 (Nat.lt_of_lt_of_le hk hR.2.2.1)]
  exact va_iald X.1 X.2.1 X.2.2.2.2.2.2.2.2.2.2.2.2.1 hR.1 k 0 (z_at hk (zCell_n hs (Or.inl rfl))) rfl hin hdg (kk p e R s m args below meth c H locs ls Q X hR hL hE)
theorem z_zald {n : Nat} {i : Int32} (hdg : decode cc pc = .ok (.baload, 1)) (hk : k < S.1) (hs : S.2.1 k = (21, n)) (hin : vp_in i n) (kk : zA g l y cc nL ret d mc ms P (pc + 1) ks ns S M lo (.int (M k i.toNatClampNeg) :: st)) : zA g l y cc nL ret d mc ms P pc ks ns S M lo (.int i :: .ref k :: st) := by
  intro p e R s m args below meth c H locs ls Q X hR hL hE
  rw [z_stk2 (Nat.lt_of_lt_of_le hk hR.2.2.1)]
  exact va_zald X.1 X.2.1 X.2.2.2.2.2.2.2.2.2.2.2.2.1 hR.1 k 1 (z_at hk (zCell_n hs (Or.inr rfl))) rfl hin hdg (kk p e R s m args below meth c H locs ls Q X hR hL hE)
theorem z_aald {n q r : Nat} {i : Int32} (hdg : decode cc pc = .ok (.aaload, 1)) (hk : k < S.1) (hs : S.2.1 k = (q, n)) (hq : q = 22 ∨ q = 23) (hin : vp_in i n) (hr : S.2.2 k i.toNatClampNeg = r + 1) (hr2 : r < 1000) (kk : zA g l y cc nL ret d mc ms P (pc + 1) ks ns S M lo (.ref r :: st)) : zA g l y cc nL ret d mc ms P pc ks ns S M lo (.int i :: .ref k :: st) := by
  intro p e R s m args below meth c H locs ls Q X hR hL hE
  rw [z_stk2 (Nat.lt_of_lt_of_le hk hR.2.2.1)]
  have kk' := kk p e R s m args below meth c H locs ls Q X hR hL hE
  rw [z_stk hr2] at kk'
  have hv : va_rf (zrf g (S.2.2 k i.toNatClampNeg)) = .ref (g.1 + r) := by rw [hr]; simp [zrf, va_rf]
  rcases hq with rfl | rfl
  · exact va_aldq X.1 X.2.1 X.2.2.2.2.2.2.2.2.2.2.2.2.1 hR.1 k 2 (z_at hk (zCell_q hs (Or.inl rfl))) rfl hin hdg (by rw [hv]; exact kk')
  · exact va_aldq X.1 X.2.1 X.2.2.2.2.2.2.2.2.2.2.2.2.1 hR.1 k 3 (z_at hk (zCell_q hs (Or.inr rfl))) rfl hin hdg (by rw [hv]; exact kk')
theorem z_alen {n q : Nat} (hdg : decode cc pc = .ok (.arraylength, 1)) (hk : k < S.1) (hs : S.2.1 k = (q, n)) (hq : 20 ≤ q ∧ q < 24) (kk : zA g l y cc nL ret d mc ms P (pc + 1) ks ns S M lo (.int (nI n) :: st)) : zA g l y cc nL ret d mc ms P pc ks ns S M lo (.ref k :: st) := by
  intro p e R s m args below meth c H locs ls Q X hR hL hE
  rw [z_stk (Nat.lt_of_lt_of_le hk hR.2.2.1)]
  have kk' := kk p e R s m args below meth c H locs ls Q X hR hL hE
  have hK := X.2.2.2.2.2.2.2.2.2.2.2.2.1
  rcases (show q = 20 ∨ q = 21 ∨ q = 22 ∨ q = 23 by omega) with rfl | rfl | rfl | rfl
  · exact va_alen X.1 X.2.1 hK hR.1 k 0 (z_at hk (zCell_n hs (Or.inl rfl))) rfl rfl hdg kk'
  · exact va_alen X.1 X.2.1 hK hR.1 k 1 (z_at hk (zCell_n hs (Or.inr rfl))) rfl rfl hdg kk'
  · exact va_alen X.1 X.2.1 hK hR.1 k 2 (z_at hk (zCell_q hs (Or.inl rfl))) rfl rfl hdg kk'
  · exact va_alen X.1 X.2.1 hK hR.1 k 3 (z_at hk (zCell_q hs (Or.inr rfl))) rfl rfl hdg kk'
theorem z_iast {n : Nat} {i x : Int32} (hdg : decode cc pc = .ok (.iastore, 1)) (hk : k < S.1) (hs : S.2.1 k = (20, n)) (hin : vp_in i n) (kk : zA g l y cc nL ret d mc ms P (pc + 1) ks ns S (z_up M k i.toNatClampNeg x) lo st) : zA g l y cc nL ret d mc ms P pc ks ns S M lo (.int x :: .int i :: .ref k :: st) := by
  intro p e R s m args below meth c H locs ls Q X hR hL hE
  rw [z_stk3 (Nat.lt_of_lt_of_le hk hR.2.2.1)]
  have he := z_at (g := g) (M := M) hk (zCell_n hs (Or.inl rfl))
  have hK := X.2.2.2.2.2.2.2.2.2.2.2.2.1
  refine W.iast X.1 X.2.1 (hR.1 k _ he) ((hK.2 0 _ rfl).1 n (fun j => .int (M k j))) (fun q => by cases q) (by show ¬ (i < 0 ∨ (arrV _ _ _).slots.size ≤ _); rw [arrV_size]; exact hin) rfl rfl hdg fun H1 e1 z1 oq => ?_
  have hP1 := hR.1.set (zWs_D g S M) he (e := .inl (zcA g 20, n, .inl (upd (M k) i.toNatClampNeg x))) (H1 := H1) (by
    show H1[g.1 + k]? = some (vp_cell _ _)
    rw [e1]
    rw [vp_cell_i, vp_cell_i, arrV_store]
    congr 2
    funext q
    by_cases hq : q = i.toNatClampNeg
    · subst hq
      simp [updV, upd]
    · simp [updV, upd, hq]) oq
  rw [z_setA hs (Or.inl rfl)] at hP1
  exact kk p e R s m args below meth c H1 _ ls Q X ⟨hP1, z1.trans hR.2.1, hR.2.2.1, hR.2.2.2.put z1 oq (Nat.le_add_right _ _)⟩ hL hE
theorem z_zast {n : Nat} {i x : Int32} (hdg : decode cc pc = .ok (.bastore, 1)) (hk : k < S.1) (hs : S.2.1 k = (21, n)) (hin : vp_in i n) (hx : narrow .boolean (.int x) = .int x) (kk : zA g l y cc nL ret d mc ms P (pc + 1) ks ns S (z_up M k i.toNatClampNeg x) lo st) : zA g l y cc nL ret d mc ms P pc ks ns S M lo (.int x :: .int i :: .ref k :: st) := by
  intro p e R s m args below meth c H locs ls Q X hR hL hE
  rw [z_stk3 (Nat.lt_of_lt_of_le hk hR.2.2.1)]
  have he := z_at (g := g) (M := M) hk (zCell_n hs (Or.inr rfl))
  have hK := X.2.2.2.2.2.2.2.2.2.2.2.2.1
  refine W.zast X.1 X.2.1 (hR.1 k _ he) ((hK.2 1 _ rfl).1 n (fun j => .int (M k j))) (fun q => by cases q) (by show ¬ (i < 0 ∨ (arrV _ _ _).slots.size ≤ _); rw [arrV_size]; exact hin) rfl rfl hdg fun H1 e1 z1 oq => ?_
  rw [hx] at e1
  have hP1 := hR.1.set (zWs_D g S M) he (e := .inl (zcA g 21, n, .inl (upd (M k) i.toNatClampNeg x))) (H1 := H1) (by
    show H1[g.1 + k]? = some (vp_cell _ _)
    rw [e1]
    rw [vp_cell_i, vp_cell_i, arrV_store]
    congr 2
    funext q
    by_cases hq : q = i.toNatClampNeg
    · subst hq
      simp [updV, upd]
    · simp [updV, upd, hq]) oq
  rw [z_setA hs (Or.inr rfl)] at hP1
  exact kk p e R s m args below meth c H1 _ ls Q X ⟨hP1, z1.trans hR.2.1, hR.2.2.1, hR.2.2.2.put z1 oq (Nat.le_add_right _ _)⟩ hL hE
theorem z_aast {n q r cr Nr : Nat} {Cr : String} {Tr : u_T} {tr : Nat → FieldType} {i : Int32} (Kr : zCls cr Cr Tr Nr tr) (hdg : decode cc pc = .ok (.aastore, 1)) (hk : k < S.1) (hs : S.2.1 k = (q, n)) (hq : q = 22 ∧ Cr = "OstlerHours$Day" ∨ q = 23 ∧ Cr = "OstlerHours$Book") (hin : vp_in i n) (hr : r < S.1) (hsr : S.2.1 r = (cr, Nr))
    (kk : zA g l y cc nL ret d mc ms P (pc + 1) ks ns (z_upR S k i.toNatClampNeg (r + 1)) M lo st) : zA g l y cc nL ret d mc ms P pc ks ns S M lo (.ref r :: .int i :: .ref k :: st) := by
  intro p e R s m args below meth c H locs ls Q X hR hL hE
  have hr2 : r < 1000 := Nat.lt_of_lt_of_le hr hR.2.2.1
  rw [z_stk hr2, z_stk2 (Nat.lt_of_lt_of_le hk hR.2.2.1)]
  have hK := X.2.2.2.2.2.2.2.2.2.2.2.2.1
  have hq' : q = 22 ∨ q = 23 := hq.elim (fun h => Or.inl h.1) (fun h => Or.inr h.1)
  have he := z_at (g := g) (M := M) hk (zCell_q hs hq')
  have hv := z_at (g := g) (M := M) hr (zCell_o hsr Kr.lt)
  have ht : ∃ t0 : Nat, (zTy g)[t0]? = some (zcA g q, .object Cr) := by
    rcases hq with ⟨rfl, rfl⟩ | ⟨rfl, rfl⟩
    · exact ⟨2, rfl⟩
    · exact ⟨3, rfl⟩
  obtain ⟨ti, ht⟩ := ht
  have hlt : i.toNatClampNeg < n := Nat.not_le.mp fun q => hin (Or.inr q)
  have h0 : ¬ i < 0 := fun q => hin (Or.inl q)
  obtain ⟨r', hr', cellV, g1, g2, g3, -⟩ := hR.1 r _ hv
  have hcls := (hK.1 cr _ Kr.1).2
  obtain ⟨kA, comp, k1, k2, k3, -⟩ := (hK.2 ti _ ht).2
  have hcomp : comp = (zD g).1 cr := Option.some.inj (k3.symm.trans hcls.1)
  subst hcomp
  obtain ⟨kC, hkC, -⟩ := hcls.2
  refine W.aast X.1 X.2.1 (hR.1 k _ he) (fun q h => by cases h) (fun h => by cases h) k1 k2 rfl hkC ⟨h0, by show _ < (arrV _ _ _).slots.size; rw [arrV_size]; exact hlt⟩ g1 (fun q h => by rw [g3] at h; cases h) (by rw [g2]; exact hkC) (by rw [g2]; exact va_assign hcls) rfl rfl hdg fun H1 e1 z1 oq => ?_
  have hP1 := hR.1.set (zWs_D g S M) he (e := .inl (zcA g q, n, .inr (.inr (.inr (.inr (va_up (fun i => zrf g (S.2.2 k i)) i.toNatClampNeg (some (g.1 + r)))))))) (H1 := H1) (by
    show H1[g.1 + k]? = some (vp_cell _ _)
    rw [e1]
    rw [vp_cell_q, vp_cell_q, arrV_store]
    congr 2
    funext q
    by_cases hq : q = i.toNatClampNeg
    · subst hq
      simp [updV, va_up, va_rf]
    · simp [updV, va_up, hq]) oq
  rw [z_setQ hs hq'] at hP1
  exact kk p e R s m args below meth c H1 _ ls Q X ⟨hP1, z1.trans hR.2.1, hR.2.2.1, hR.2.2.2.put z1 oq (Nat.le_add_right _ _)⟩ hL hE
theorem z_new (K : zCls ci C T N t0) (hcl : Cond.classLink y.cls index C ∈ zW) (hinst : Cond.instantiable C N ∈ zW) (hini : Cond.initialized C ∈ zW) (hdef : ∀ j, j < N → defaultValue (t0 j) = (if zIr ci j = true then .null else .int 0)) (hS : S.1 < 1000) (hmc : ks + 1 ≤ mc) (hms : ns + N ≤ ms)
    (hdg : decode cc pc = .ok (.new index, 3)) (kk : zA g l y cc nL ret d mc ms P (pc + 3) (ks + 1) (ns + N) (zSn S (ci, N)) (zMn S.1 M) lo (.ref S.1 :: st)) : zA g l y cc nL ret d mc ms P pc ks ns S M lo st := by
  intro p e R s m args below meth c H locs ls Q X hR hL hE
  have hK := X.2.2.2.2.2.2.2.2.2.2.2.2.1
  have hts := X.2.2.2.2.1
  have hKn := hK.1 ci _ K.1
  refine W.newcK X.1 X.2.1 X.2.2.2.1 (hts _ hcl) (hts _ hinst) (hts _ hini) rfl hdg (Nat.le_trans hmc X.2.2.2.2.2.2.2.2.2.2.1) (Nat.le_trans hms X.2.2.2.2.2.2.2.2.2.2.2.1) hKn.2.1 hR.2.1 fun H1 kC hkC e1 z1 o1 => ?_
  have hk : ∀ (k : Nat) (x : Nat × va_E), (zWs g S M)[k]? = some x → H1[x.1]? = H[x.1]? := fun k x hx => o1 x.1 (by have := (hR.1 k x hx).lt; rw [hR.2.1] at this; exact this)
  have hP1 : va_P (zD g) vwCl (zWs g S M ++ [(g.1 + S.1, .inr (ci, (List.range N).map (fun j => if zIr ci j = true then .null else .int 0)))]) H1 := (hR.1.kept hk).app (fun k x hx => by
    have hz : k < 1 := (List.getElem?_eq_some_iff.mp hx).1
    rw [show k = 0 by omega] at hx
    cases hx
    refine ⟨_, K.1, (u_born t0 hts K.2.1 hKn hkC e1 K.2.2.1).to fun j hj => ?_⟩
    rw [hdef j hj]
    simp [vp_V, List.getD_eq_getElem?_getD, List.getElem?_map, List.getElem?_range hj])
  rw [z_pushO K.lt] at hP1
  have hE' := kk p e R s m args below meth c H1 locs ls Q X ⟨hP1, z1.trans (by show g.1 + S.1 + 1 = g.1 + (S.1 + 1); omega), (by show S.1 + 1 ≤ 1000; omega), ⟨Nat.le_trans hR.2.2.2.1 (by rw [z1, hR.2.1]; omega), fun x h1 h2 => (o1 x (by have := hR.2.2.2.1; rw [hR.2.1] at this; omega)).trans (hR.2.2.2.2.1 x h1 h2), hR.2.2.2.2.2⟩⟩ hL hE
  rw [z_stk hS] at hE'
  exact hE'
theorem z_newa {atype : ArrayType} {n : Int32} {q n' : Nat} (hq : q = 20 ∧ newarray.typeOf atype = .int ∨ q = 21 ∧ newarray.typeOf atype = .boolean) (harr : Cond.arrayClass (newarray.typeOf atype) ∈ zW) (hn : n = nI n') (hn2 : n' < 1000) (hS : S.1 < 1000) (hmc : ks + 1 ≤ mc) (hms : ns + n' ≤ ms)
    (hdg : decode cc pc = .ok (.newarray atype, 2)) (kk : zA g l y cc nL ret d mc ms P (pc + 2) (ks + 1) (ns + n') (zSn S (q, n')) (zMn S.1 M) lo (.ref S.1 :: st)) : zA g l y cc nL ret d mc ms P pc ks ns S M lo (.int n :: st) := by
  intro p e R s m args below meth c H locs ls Q X hR hL hE
  have hK := X.2.2.2.2.2.2.2.2.2.2.2.2.1
  have hts := X.2.2.2.2.1
  subst hn
  refine va_newaK X.1 X.2.1 (hts _ harr) (N := n') rfl hdg rfl (nI_pos (by omega)) (nI_clamp (by omega)) ?_ (Nat.le_trans hmc X.2.2.2.2.2.2.2.2.2.2.1) (Nat.le_trans hms X.2.2.2.2.2.2.2.2.2.2.2.1) hR.2.1 fun H1 cA e1 z1 o1 hAr hNm => ?_
  · rcases hq with ⟨-, h⟩ | ⟨-, h⟩ <;> rw [h] <;> simp only [componentBytes] <;> omega
  have hk : ∀ (k : Nat) (x : Nat × va_E), (zWs g S M)[k]? = some x → H1[x.1]? = H[x.1]? := fun k x hx => o1 x.1 (by have := (hR.1 k x hx).lt; rw [hR.2.1] at this; exact this)
  have hcA : cA = zcA g q := by
    rcases hq with ⟨rfl, h⟩ | ⟨rfl, h⟩ <;> rw [h] at hNm
    · exact Option.some.inj (hNm.symm.trans (hK.2 0 _ rfl).2)
    · exact Option.some.inj (hNm.symm.trans (hK.2 1 _ rfl).2)
  have hP1 : va_P (zD g) vwCl (zWs g S M ++ [(g.1 + S.1, .inl (zcA g q, n', .inl (fun _ => 0)))]) H1 := (hR.1.kept hk).app (fun k x hx => by
    have hz : k < 1 := (List.getElem?_eq_some_iff.mp hx).1
    rw [show k = 0 by omega] at hx
    cases hx
    show H1[g.1 + S.1]? = some (vp_cell _ _)
    rw [e1, vp_cell_i, hcA]
    rcases hq with ⟨-, h⟩ | ⟨-, h⟩ <;> rw [h] <;> rfl)
  rw [z_pushA (hq.elim (fun h => Or.inl h.1) (fun h => Or.inr h.1))] at hP1
  have hE' := kk p e R s m args below meth c H1 locs ls Q X ⟨hP1, z1.trans (by show g.1 + S.1 + 1 = g.1 + (S.1 + 1); omega), (by show S.1 + 1 ≤ 1000; omega), ⟨Nat.le_trans hR.2.2.2.1 (by rw [z1, hR.2.1]; omega), fun x h1 h2 => (o1 x (by have := hR.2.2.2.1; rw [hR.2.1] at this; omega)).trans (hR.2.2.2.2.1 x h1 h2), hR.2.2.2.2.2⟩⟩ hL hE
  rw [z_stk hS] at hE'
  exact hE'
theorem z_anew {n : Int32} {q n' : Nat} {Cq : String} (hq : q = 22 ∧ Cq = "OstlerHours$Day" ∨ q = 23 ∧ Cq = "OstlerHours$Book") (hcl : Cond.classLink y.cls index Cq ∈ zW) (hov : Cond.arrayOver (.object Cq) ∈ zW) (hn : n = nI n') (hn2 : n' < 1000) (hS : S.1 < 1000) (hmc : ks + 1 ≤ mc) (hms : ns + n' ≤ ms)
    (hdg : decode cc pc = .ok (.anewarray index, 3)) (kk : zA g l y cc nL ret d mc ms P (pc + 3) (ks + 1) (ns + n') (zSn S (q, n')) (zMn S.1 M) lo (.ref S.1 :: st)) : zA g l y cc nL ret d mc ms P pc ks ns S M lo (.int n :: st) := by
  intro p e R s m args below meth c H locs ls Q X hR hL hE
  have hK := X.2.2.2.2.2.2.2.2.2.2.2.2.1
  have hts := X.2.2.2.2.1
  subst hn
  refine W.anew X.1 X.2.1 X.2.2.2.1 (hts _ hcl) (hts _ hov) rfl hdg rfl (nI_pos (by omega)) (by rw [nI_clamp (by omega)]; omega) (Nat.le_trans hmc X.2.2.2.2.2.2.2.2.2.2.1) (by rw [nI_clamp (by omega)]; exact Nat.le_trans hms X.2.2.2.2.2.2.2.2.2.2.2.1) fun cA kA comp f1 f2 f3 f4 => ?_
  rw [nI_clamp (by omega)]
  generalize hH1 : H.push ({ cls := cA, slots := Array.replicate n' .null, vm := .none } : Cell) = H1
  have z1 : H1.size = H.size + 1 := by rw [← hH1, Array.size_push]
  have e1 : H1[H.size]? = some (arrV cA n' (fun _ => .null)) := by rw [← hH1, Array.getElem?_push_size, ← arrV_new]
  have o1 : ∀ q : Nat, q < H.size → H1[q]? = H[q]? := fun q hq => by rw [← hH1, Array.getElem?_push, if_neg (Nat.ne_of_lt hq)]
  have hk : ∀ (k : Nat) (x : Nat × va_E), (zWs g S M)[k]? = some x → H1[x.1]? = H[x.1]? := fun k x hx => o1 x.1 ((hR.1 k x hx).lt)
  have hcA : cA = zcA g q := by
    rcases hq with ⟨rfl, rfl⟩ | ⟨rfl, rfl⟩
    · obtain ⟨_, _, _, _, _, hh⟩ := (hK.2 2 _ rfl).2
      exact Option.some.inj (f1.symm.trans hh)
    · obtain ⟨_, _, _, _, _, hh⟩ := (hK.2 3 _ rfl).2
      exact Option.some.inj (f1.symm.trans hh)
  have hP1 : va_P (zD g) vwCl (zWs g S M ++ [(g.1 + S.1, .inl (zcA g q, n', .inr (.inr (.inr (.inr (fun _ => none))))))]) H1 := (hR.1.kept hk).app (fun k x hx => by
    have hz : k < 1 := (List.getElem?_eq_some_iff.mp hx).1
    rw [show k = 0 by omega] at hx
    cases hx
    show H1[g.1 + S.1]? = some (vp_cell _ _)
    rw [← hR.2.1, e1, vp_cell_q, hcA]
    rfl)
  rw [z_pushQ (hq.elim (fun h => Or.inl h.1) (fun h => Or.inr h.1))] at hP1
  have hE' := kk p e R s m args below meth c H1 locs ls Q X ⟨hP1, z1.trans (by rw [hR.2.1]; show g.1 + S.1 + 1 = g.1 + (S.1 + 1); omega), (by show S.1 + 1 ≤ 1000; omega), ⟨Nat.le_trans hR.2.2.2.1 (by rw [z1]; omega), fun x h1 h2 => (o1 x (Nat.lt_of_lt_of_le h1 hR.2.2.2.1)).trans (hR.2.2.2.2.1 x h1 h2), hR.2.2.2.2.2⟩⟩ hL hE
  rw [z_stk hS, ← hR.2.1] at hE'
  exact hE'
end ZHEAP
end
section
/-! ===== methods and calls ===== -/
def zRm (d mc ms : Nat) : Room := { frames := d, cells := mc, slots := ms, locals := 100 * d }
def zI (g : zG) (S : zS) (M : zM) (U : State) : Prop :=
  va_P (zD g) vwCl (zWs g S M) U.heap ∧ U.heap.size = g.1 + S.1 ∧ S.1 ≤ 1000 ∧ va_K (zD g) vwCl (zTy g) U ∧ zZ g U U.heap
def zQ (g : zG) (P : Option Value → zS → zM → Prop) : Array Value → State → Outcome → State → Prop := fun _ st o t =>
  (∃ (v : Option Value) (S' : zS) (M' : zM), o = .returned (v.map (z_v g)) ∧ P v S' M' ∧ va_P (zD g) vwCl (zWs g S' M') t.heap ∧ t.heap.size = g.1 + S'.1 ∧ S'.1 ≤ 1000) ∧ va_F (zA0 g) st t
def zMet (g : zG) (l : Launch) (y : MethodName) (cc : ByteArray) (nL : Nat) (ret : Option FieldType) (d mc ms : Nat) (av : List Value) (S : zS) (M : zM) (P : Option Value → zS → zM → Prop) : Prop :=
  Met l y (Cond.code y cc nL ret :: zW) (zRm d mc ms) (fun a U => a = (av.map (z_v g)).toArray ∧ zI g S M U) (zQ g P) mc ms (zA0 g)
def zFl : List Value → List Value
  | [] => []
  | v :: t => if v.category = 2 then v :: .null :: zFl t else v :: zFl t
theorem zFl_in {g : zG} : ∀ (av : List Value) (n i : Nat) (v : Value), (zFl av)[i]? = some v → v ≠ .null → (n + i, z_v g v) ∈ lv_args n (av.map (z_v g))
  | [], n, i, v, h, _ => by simp [zFl] at h
  | w :: t, n, i, v, h, hv => by
    show _ ∈ (n, z_v g w) :: lv_args (if (z_v g w).category = 2 then n + 2 else n + 1) (t.map (z_v g))
    rw [z_v_cat]
    by_cases hc : w.category = 2
    · rw [zFl, if_pos hc] at h
      rw [if_pos hc]
      match i, h with
      | 0, h => cases h; exact List.mem_cons_self
      | 1, h => cases h; exact absurd rfl hv
      | i + 2, h =>
        have := zFl_in (g := g) t (n + 2) i v h hv
        rw [show n + (i + 2) = n + 2 + i by omega]
        exact List.mem_cons_of_mem _ this
    · rw [zFl, if_neg hc] at h
      rw [if_neg hc]
      match i, h with
      | 0, h => cases h; exact List.mem_cons_self
      | i + 1, h =>
        have := zFl_in (g := g) t (n + 1) i v h hv
        rw [show n + (i + 1) = n + 1 + i by omega]
        exact List.mem_cons_of_mem _ this
theorem zFl_len : ∀ (g : zG) (av : List Value), (lg_sl (av.map (z_v g))).length = (zFl av).length
  | _, [] => rfl
  | g, w :: t => by
    have ih := zFl_len g t
    have e : lg_sl ((w :: t).map (z_v g)) = (if (z_v g w).category = 2 then [Slot.val (z_v g w), .second] else [Slot.val (z_v g w)]) ++ lg_sl (t.map (z_v g)) := rfl
    rw [e, z_v_cat, zFl]
    by_cases hc : w.category = 2
    · simp [hc, ih]
    · simp [hc, ih]
def zLo (nL : Nat) (av : List Value) : List Value := zFl av ++ List.replicate (nL - (zFl av).length) .null
theorem zMet.of {g : zG} {l : Launch} {y : MethodName} {cc : ByteArray} {nL : Nat} {ret : Option FieldType} {d mc ms : Nat} {av : List Value} {S : zS} {M : zM} {P : Option Value → zS → zM → Prop} (hy : plainName y.cls = true) (hlen : (zFl av).length ≤ nL)
    (h : zA g l y cc nL ret d mc ms P 0 0 0 S M (zLo nL av) []) : zMet g l y cc nL ret d mc ms av S M P := by
  refine Met.ofW (cc := cc) (maxL := nL) (ret := ret) hy rfl ?_
  intro p e s m args below meth c s₁ B hml hv
  obtain ⟨rfl, hP, hsz, hS1, hK, hZ⟩ := hv
  have hts : ∀ w ∈ Cond.code y cc nL ret :: zW, w.before (av.map (z_v g)).toArray s = true := atoms_spec (ws := Cond.code y cc nL ret :: zW) B.pre
  have hl := lv_entry (av.map (z_v g)) (n := nL) (by rw [zFl_len]; exact hlen)
  rw [lg_entry_eq]
  generalize (lg_sl (av.map (z_v g)) ++ List.replicate (nL - (lg_sl (av.map (z_v g))).length) Slot.unset).toArray = ls at hl ⊢
  refine h p e _ s m _ below meth c s.heap [] ls _ ⟨B.exec, B.bytes, hml, findClass_of_methodNamed B.named, fun w hw => hts w (List.mem_cons_of_mem _ hw), B.returns, (name_of_methodNamed B.named B.method).1, B.notSynchronized, Nat.le_refl _, Nat.le_refl _, Nat.le_refl _, Nat.le_refl _, hK, hZ, by rw [hsz]; exact Nat.le_add_right _ _⟩ ⟨hP, hsz, hS1, va_S.rf⟩ ⟨hl.1, hl.2.1, fun i v h1 h2 => ?_⟩ ?_
  · unfold zLo at h1
    by_cases hi : i < (zFl av).length
    · rw [List.getElem?_append_left hi] at h1
      have := zFl_in (g := g) av 0 i v h1 h2
      rw [Nat.zero_add] at this
      exact hl.2.2 _ this
    · rw [List.getElem?_append_right (by omega), List.getElem?_replicate] at h1
      split at h1
      · cases h1
        exact absurd rfl h2
      · cases h1
  · intro v S' M' H' locs' ls' pc' hPv hR' hEnd
    have hq : ∀ (o : Outcome) (t : State), o = .returned (v.map (z_v g)) → t.heap = H' → zQ g P (av.map (z_v g)).toArray s o t := fun o t ho ht =>
      ⟨⟨v, S', M', ho, hPv, by rw [ht]; exact hR'.1, by rw [ht]; exact hR'.2.1, hR'.2.2.1⟩, hR'.2.2.2.F ht⟩
    rcases hEnd with ⟨hr, rfl, hd⟩ | ⟨ty, x, hr, rfl, hn, hd⟩ | ⟨x, hr, rfl, hd⟩
    · exact W.vret B.exec B.bytes (B.returns.trans hr) (fun t ht _ => hq _ t rfl ht) hR'.2.2.2.2.2 hd B.notSynchronized
    · exact W.zret B.exec B.bytes (B.returns.trans hr) hn (fun t ht _ => hq _ t rfl ht) hR'.2.2.2.2.2 hd B.notSynchronized
    · exact W.lret B.exec B.bytes (B.returns.trans hr) (fun t ht _ => hq _ t rfl ht) hR'.2.2.2.2.2 hd B.notSynchronized
/-- a method's own words -/
def zCW (y : MethodName) (cc : ByteArray) (nL : Nat) (ret : Option FieldType) (n : Nat) : Prop :=
  Cond.code y cc nL ret ∈ zW ∧ Cond.initialized y.cls ∈ zW ∧ (y.cls ≠ "java/lang/invoke/MethodHandle" ∧ y.cls ≠ "java/lang/invoke/VarHandle" ∧ (parseMethodDescriptor y.desc).map (fun d => d.parameters.length) = some n) ∧ nL ≤ 80
section ZCALLS
variable {g : zG} {l : Launch} {y : MethodName} {cc : ByteArray} {nL : Nat} {ret : Option FieldType} {d mc ms : Nat} {P : Option Value → zS → zM → Prop} {pc ks ns : Nat} {S : zS} {M : zM} {lo st : List Value}
variable {y' : MethodName} {cc' : ByteArray} {nL' : Nat} {ret' : Option FieldType} {d' mc' ms' index n : Nat} {P' : Option Value → zS → zM → Prop}
theorem z_blind {g : zG} {S : zS} {M : zM} {av : List Value} : FrameBlind (fun a U => a = (av.map (z_v g)).toArray ∧ zI g S M U) :=
  fun a U q mk h => ⟨h.1, h.2.1, h.2.2.1, h.2.2.2.1, va_K.moved (u := U) (U := U.calling q mk a) (Vm.Alike.refl U.vm) h.2.2.2.2.1, (zZ.same (s := U) (U := U.calling q mk a) rfl h.2.2.2.2.2)⟩
theorem z_ready {p : Program} {R : Room} {s : State} {m : MethodId} {args : Array Value} {meth : Method} {c : Code} {H : Heap} {locs : List Loc} (X : zX g y cc nL ret d mc ms p R s m args meth c) (hR : zR g S M s H locs) {U : State} (hU : U.heap = H) (hW : s.WarmedH U.vm) : zI g S M U := by
  have hK := X.2.2.2.2.2.2.2.2.2.2.2.2.1
  have hZ := X.2.2.2.2.2.2.2.2.2.2.2.2.2.1
  subst hU
  exact ⟨hR.1, hR.2.1, hR.2.2.1, va_K.moved hW.alike hK, hZ.moved hW (fun a h1 h2 => hR.2.2.2.2.1 a h1 h2)⟩
theorem z_cb {p : Program} {R : Room} {s : State} {m : MethodId} {args : Array Value} {meth : Method} {c : Code} (X : zX g y cc nL ret d mc ms p R s m args meth c) (hw : zCW y' cc' nL' ret' n) (hl : Cond.methodLink y.cls index y' ∈ zW) (hd : d' + 1 ≤ d) :
    CallB R s args y.cls index y' cc' nL' ret' (Cond.code y' cc' nL' ret' :: zW) (zRm d' mc' ms') mc' ms' n := by
  have hts := X.2.2.2.2.1
  have h1 : d ≤ R.frames := X.2.2.2.2.2.2.2.2.1
  have h2 : 100 * d ≤ R.locals := X.2.2.2.2.2.2.2.2.2.1
  have h3 := hw.2.2.2
  refine callB_of n hts (zW_good fun w hq => ?_) rfl rfl rfl (hts _ hw.2.1) (hts _ hl) hw.2.2.1 ⟨?_, ?_⟩
  · rcases List.mem_cons.mp hq with rfl | h
    · exact hw.1
    · exact h
  · show d' + 1 ≤ R.frames
    omega
  · show 8 + (nL' + 11) + 100 * d' ≤ R.locals
    omega
/-- behind a call -/
theorem z_after {p : Program} {e : Env} {R : Room} {s : State} {m : MethodId} {args : Array Value} {below : List Frame} {meth : Method} {c : Code} {H : Heap} {locs : List Loc} {ls : Array Slot} {Q : State → Prop} {rest st0 : List Value} {a : Array Value} (hR : zR g S M s H locs)
    (hr : va_Run p l e R s m args below meth c H locs ks ns mc' ms' (F0 m pc ls st0) rest (zQ g P' a) (zA0 g))
    (kk : ∀ (v : Option Value) (S' : zS) (M' : zM) (H1 : Heap) (locs1 : List Loc), P' v S' M' → zR g S' M' s H1 locs1 → W p l e R s m args below meth c H1 locs1 (ks + mc') (ns + ms') Q (F0 m (pc + 3) ls (v.toList.map (z_v g) ++ rest))) :
    W p l e R s m args below meth c H locs ks ns Q (F0 m pc ls st0) := by
  intro T hT X
  obtain ⟨v, st₀, t, T', L, h0, X', hL, e1, e2, ⟨⟨v', S', M', hv, hp, hP1, hsz, hS1⟩, hz, hk⟩, st⟩ := hr T hT X
  have hv' : v = v'.map (z_v g) := Outcome.returned.inj hv
  rw [h0] at hz hk
  have hS := hR.2.2.2
  obtain ⟨t2, a1, b1⟩ := kk v' S' M' T'.heap (locs ++ L) hp ⟨by rw [e1]; exact hP1, by rw [e1]; exact hsz, hS1, Nat.le_trans hS.1 (by rw [e1]; exact hz), fun q h1 h2 => by rw [e1, hk q (Nat.lt_of_lt_of_le h1 hS.1) h2]; exact hS.2.1 q h1 h2, fun q hq => by
      rcases List.mem_append.mp hq with h | h
      · exact hS.2.2 q h
      · exact hL q h⟩ T' rfl X'
  refine ⟨t2, st t2 ?_, b1⟩
  have e3 : v.toList = v'.toList.map (z_v g) := by rw [hv']; cases v' <;> rfl
  rw [e3]
  exact a1
theorem z_room {m : MethodId} {ls : Array Slot} {rest st : List Value} (h : (st.map fun v => v.category).sum ≤ 8) : 2 * (F0 m pc ls rest).monitorRoom + ((st.map (z_v g)).map fun v => v.category).sum ≤ 8 := by
  have e : ((st.map (z_v g)).map fun v => v.category) = st.map fun v => v.category := by
    rw [List.map_map]
    exact List.map_congr_left fun v _ => z_v_cat g v
  exact lv_room (by rw [e]; exact h)
theorem z_callV {b ci N : Nat} {T : u_T} {t0 : Nat → FieldType} (As : List Value) (hM : zMet g l y' cc' nL' ret' d' mc' ms' (.ref b :: As) S M P') (hw : zCW y' cc' nL' ret' As.length) (hl : Cond.methodLink y.cls index y' ∈ zW) (hin : Cond.instanceMethod y' ∈ zW) (hse : Cond.selects y'.cls y' y' ∈ zW) (K : zCls ci y'.cls T N t0)
    (hd : d' + 1 ≤ d) (hst : (st.map fun v => v.category).sum ≤ 8) (hk : b < S.1) (hs : S.2.1 b = (ci, N)) (hmc : ks + mc' ≤ mc) (hms : ns + ms' ≤ ms) (hdg : decode cc pc = .ok (.invokevirtual index, 3))
    (kk : ∀ (v : Option Value) (S' : zS) (M' : zM), P' v S' M' → zA g l y cc nL ret d mc ms P (pc + 3) (ks + mc') (ns + ms') S' M' lo (v.toList ++ st)) {st2 : List Value} (he : As.reverse ++ .ref b :: st = st2) :
    zA g l y cc nL ret d mc ms P pc ks ns S M lo st2 := by
  subst he
  intro p e R s m args below meth c H locs ls Q X hR hL hE
  have hb2 : b < 1000 := Nat.lt_of_lt_of_le hk hR.2.2.1
  have hts := X.2.2.2.2.1
  refine z_after hR (va_runV (C := y'.cls) (As := As.map (z_v g)) (b := zad g b) (rest := st.map (z_v g)) ⟨X.1, X.2.1, X.2.2.1, X.2.2.2.1, hts⟩ hM ⟨z_cb X hw hl hd, hts _ hin, hts _ hse⟩ ⟨z_blind, ?_, fun U hU hW => ⟨rfl, z_ready X hR hU hW⟩⟩ rfl (by simp) hL.1 (by simp [z_v]) (z_room hst) hdg ⟨Nat.le_trans hmc X.2.2.2.2.2.2.2.2.2.2.1, Nat.le_trans hms X.2.2.2.2.2.2.2.2.2.2.2.1⟩) fun v S' M' H1 locs1 hp hR1 => ?_
  · rw [zad_lo g hb2]
    exact va_recv X.2.2.2.2.2.2.2.2.2.2.2.2.1 hR.1 K.1 (z_at hk (zCell_o hs K.lt))
  · have := kk v S' M' hp p e R s m args below meth c H1 locs1 ls Q X hR1 hL hE
    rw [List.map_append] at this
    exact this
theorem z_callS (As : List Value) (hM : zMet g l y' cc' nL' ret' d' mc' ms' As S M P') (hw : zCW y' cc' nL' ret' As.length) (hl : Cond.methodLink y.cls index y' ∈ zW) (hin : Cond.static y' ∈ zW)
    (hd : d' + 1 ≤ d) (hst : (st.map fun v => v.category).sum ≤ 8) (hmc : ks + mc' ≤ mc) (hms : ns + ms' ≤ ms) (hdg : decode cc pc = .ok (.invokestatic index, 3))
    (kk : ∀ (v : Option Value) (S' : zS) (M' : zM), P' v S' M' → zA g l y cc nL ret d mc ms P (pc + 3) (ks + mc') (ns + ms') S' M' lo (v.toList ++ st)) {st2 : List Value} (he : As.reverse ++ st = st2) :
    zA g l y cc nL ret d mc ms P pc ks ns S M lo st2 := by
  subst he
  intro p e R s m args below meth c H locs ls Q X hR hL hE
  have hts := X.2.2.2.2.1
  refine z_after hR (va_runS (As := As.map (z_v g)) (rest := st.map (z_v g)) ⟨X.1, X.2.1, X.2.2.1, X.2.2.2.1, hts⟩ hM ⟨z_cb X hw hl hd, hts _ hin⟩ ⟨z_blind, fun U hU hW => ⟨rfl, z_ready X hR hU hW⟩⟩ rfl (by simp) hL.1 (by simp [z_v]) (z_room hst) hdg ⟨Nat.le_trans hmc X.2.2.2.2.2.2.2.2.2.2.1, Nat.le_trans hms X.2.2.2.2.2.2.2.2.2.2.2.1⟩) fun v S' M' H1 locs1 hp hR1 => ?_
  have := kk v S' M' hp p e R s m args below meth c H1 locs1 ls Q X hR1 hL hE
  rw [List.map_append] at this
  exact this
theorem z_callI {b : Nat} (As : List Value) (hM : zMet g l y' cc' nL' none d' mc' ms' (.ref b :: As) S M P') (hw : zCW y' cc' nL' none As.length) (hl : Cond.methodLink y.cls index y' ∈ zW) (hin : Cond.instanceMethod y' ∈ zW) (hy1 : y'.name = "<init>")
    (hd : d' + 1 ≤ d) (hst : (st.map fun v => v.category).sum ≤ 8) (hmc : ks + mc' ≤ mc) (hms : ns + ms' ≤ ms) (hdg : decode cc pc = .ok (.invokespecial index, 3))
    (kk : ∀ (v : Option Value) (S' : zS) (M' : zM), P' v S' M' → zA g l y cc nL ret d mc ms P (pc + 3) (ks + mc') (ns + ms') S' M' lo (v.toList ++ st)) {st2 : List Value} (he : As.reverse ++ .ref b :: st = st2) :
    zA g l y cc nL ret d mc ms P pc ks ns S M lo st2 := by
  subst he
  intro p e R s m args below meth c H locs ls Q X hR hL hE
  have hts := X.2.2.2.2.1
  refine z_after hR (va_runI (As := As.map (z_v g)) (b := zad g b) (rest := st.map (z_v g)) ⟨X.1, X.2.1, X.2.2.1, X.2.2.2.1, hts⟩ hM ⟨z_cb X hw hl hd, hy1, hts _ hin⟩ ⟨z_blind, fun U hU hW => ⟨rfl, z_ready X hR hU hW⟩⟩ rfl (by simp) hL.1 (by simp [z_v]) (z_room hst) hdg ⟨Nat.le_trans hmc X.2.2.2.2.2.2.2.2.2.2.1, Nat.le_trans hms X.2.2.2.2.2.2.2.2.2.2.2.1⟩) fun v S' M' H1 locs1 hp hR1 => ?_
  have := kk v S' M' hp p e R s m args below meth c H1 locs1 ls Q X hR1 hL hE
  rw [List.map_append] at this
  exact this
theorem z_callIN {b : Nat} {host : String} (As : List Value) (hM : zMet g l y' cc' nL' none d' mc' ms' (.ref b :: As) S M P') (hw : zCW y' cc' nL' none As.length) (hl : (y.cls, index, y', host) ∈ zNe) (hin : Cond.instanceMethod y' ∈ zW) (hy1 : y'.name = "<init>")
    (hd : d' + 1 ≤ d) (hst : (st.map fun v => v.category).sum ≤ 8) (hmc : ks + mc' ≤ mc) (hms : ns + ms' ≤ ms) (hdg : decode cc pc = .ok (.invokespecial index, 3))
    (kk : ∀ (v : Option Value) (S' : zS) (M' : zM), P' v S' M' → zA g l y cc nL ret d mc ms P (pc + 3) (ks + mc') (ns + ms') S' M' lo (v.toList ++ st)) {st2 : List Value} (he : As.reverse ++ .ref b :: st = st2) :
    zA g l y cc nL ret d mc ms P pc ks ns S M lo st2 := by
  subst he
  intro p e R s m args below meth c H locs ls Q X hR hL hE
  have hts := X.2.2.2.2.1
  have h1 : d ≤ R.frames := X.2.2.2.2.2.2.2.2.1
  have h2 : 100 * d ≤ R.locals := X.2.2.2.2.2.2.2.2.2.1
  have h3 := hw.2.2.2
  have hcn : va_CN R s args y.cls index y' host cc' nL' none (Cond.code y' cc' nL' none :: zW) (zRm d' mc' ms') mc' ms' As.length := by
    refine va_cnB As.length hts (zW_good fun w hq => ?_) rfl rfl rfl (X.2.2.2.2.2.2.2.2.2.2.2.2.2.1.1 _ hl) (hts _ hw.2.1) hw.2.2.1 ⟨?_, ?_⟩
    · rcases List.mem_cons.mp hq with rfl | h
      · exact hw.1
      · exact h
    · show d' + 1 ≤ R.frames
      omega
    · show 8 + (nL' + 11) + 100 * d' ≤ R.locals
      omega
  refine z_after hR (va_runIN (host := host) (As := As.map (z_v g)) (b := zad g b) (rest := st.map (z_v g)) ⟨X.1, X.2.1, X.2.2.1, X.2.2.2.1, hts⟩ hM ⟨hcn, hy1, hts _ hin⟩ ⟨z_blind, fun U hU hW => ⟨rfl, z_ready X hR hU hW⟩⟩ rfl (by simp) hL.1 (by simp [z_v]) (z_room hst) hdg ⟨Nat.le_trans hmc X.2.2.2.2.2.2.2.2.2.2.1, Nat.le_trans hms X.2.2.2.2.2.2.2.2.2.2.2.1⟩) fun v S' M' H1 locs1 hp hR1 => ?_
  have := kk v S' M' hp p e R s m args below meth c H1 locs1 ls Q X hR1 hL hE
  rw [List.map_append] at this
  exact this
theorem z_objInit {b : Nat} (hl : Cond.methodLink y.cls index Lib.objectInit ∈ zW) (hin : Cond.instanceMethod Lib.objectInit ∈ zW) (hco : Cond.code Lib.objectInit ⟨#[0xb1]⟩ 1 none ∈ zW) (hd : 1 ≤ d) (hst : (st.map fun v => v.category).sum ≤ 8) (hdg : decode cc pc = .ok (.invokespecial index, 3))
    (kk : zA g l y cc nL ret d mc ms P (pc + 3) ks ns S M lo st) : zA g l y cc nL ret d mc ms P pc ks ns S M lo (.ref b :: st) := by
  intro p e R s m args below meth c H locs ls Q X hR hL hE
  have hts := X.2.2.2.2.1
  have h1 : d ≤ R.frames := X.2.2.2.2.2.2.2.2.1
  have h2 : 100 * d ≤ R.locals := X.2.2.2.2.2.2.2.2.2.1
  have h3 := z_room (g := g) (pc := pc) (m := m) (ls := ls) (rest := (Value.ref b :: st).map (z_v g)) hst
  exact W.objInit X.1 X.2.1 X.2.2.2.1 (hts _ hl) (hts _ hin) (hts _ hco) rfl (hL.1.trans X.2.2.1.symm) (a := zad g b) (rest := st.map (z_v g)) rfl hdg (by omega) (by omega) (kk p e R s m args below meth c H locs ls Q X hR hL hE)
theorem z_catsum {g : zG} {st : List Value} (h : (st.map fun v => v.category).sum ≤ 8) : ((st.map (z_v g)).map fun v => v.category).sum ≤ 8 := by
  have e : ((st.map (z_v g)).map fun v => v.category) = st.map fun v => v.category := by
    rw [List.map_map]
    exact List.map_congr_left fun v _ => z_v_cat g v
  rw [e]
  exact h
theorem z_max {x z : Int32} (hl : Cond.methodLink y.cls index Lib.Math.max.name ∈ zW) (hsx : Cond.static Lib.Math.max.name ∈ zW) (hix : Cond.initialized "java/lang/Math" ∈ zW) (hcx : Cond.code Lib.Math.max.name Lib.Math.max.code 2 (some .int) ∈ zW) (hd : 1 ≤ d) (hst : (st.map fun v => v.category).sum ≤ 8) (hk : ks ≤ mc) (hn : ns ≤ ms) (hdg : decode cc pc = .ok (.invokestatic index, 3))
    (kk : zA g l y cc nL ret d mc ms P (pc + 3) ks ns S M lo (.int (if x < z then z else x) :: st)) : zA g l y cc nL ret d mc ms P pc ks ns S M lo (.int z :: .int x :: st) := by
  intro p e R s m args below meth c H locs ls Q X hR hL hE
  have hts := X.2.2.2.2.1
  have h1 : d ≤ R.frames := X.2.2.2.2.2.2.2.2.1
  have h2 : 100 * d ≤ R.locals := X.2.2.2.2.2.2.2.2.2.1
  have h3 := z_catsum (g := g) hst
  exact va_mmax X.1 X.2.1 (X.2.2.1.trans hL.1.symm) X.2.2.2.1 (hts _ hl) (hts _ hsx) (hts _ hix) (hts _ hcx) (by omega) (by omega) (Nat.le_trans hk X.2.2.2.2.2.2.2.2.2.2.1) (Nat.le_trans hn X.2.2.2.2.2.2.2.2.2.2.2.1) hdg (kk p e R s m args below meth c H locs ls Q X hR hL hE)
theorem z_min {x z : Int32} (hl : Cond.methodLink y.cls index Lib.Math.min.name ∈ zW) (hsx : Cond.static Lib.Math.min.name ∈ zW) (hix : Cond.initialized "java/lang/Math" ∈ zW) (hcx : Cond.code Lib.Math.min.name Lib.Math.min.code 2 (some .int) ∈ zW) (hd : 1 ≤ d) (hst : (st.map fun v => v.category).sum ≤ 8) (hk : ks ≤ mc) (hn : ns ≤ ms) (hdg : decode cc pc = .ok (.invokestatic index, 3))
    (kk : zA g l y cc nL ret d mc ms P (pc + 3) ks ns S M lo (.int (if z < x then z else x) :: st)) : zA g l y cc nL ret d mc ms P pc ks ns S M lo (.int z :: .int x :: st) := by
  intro p e R s m args below meth c H locs ls Q X hR hL hE
  have hts := X.2.2.2.2.1
  have h1 : d ≤ R.frames := X.2.2.2.2.2.2.2.2.1
  have h2 : 100 * d ≤ R.locals := X.2.2.2.2.2.2.2.2.2.1
  have h3 := z_catsum (g := g) hst
  exact va_mmin X.1 X.2.1 (X.2.2.1.trans hL.1.symm) X.2.2.2.1 (hts _ hl) (hts _ hsx) (hts _ hix) (hts _ hcx) (by omega) (by omega) (Nat.le_trans hk X.2.2.2.2.2.2.2.2.2.2.1) (Nat.le_trans hn X.2.2.2.2.2.2.2.2.2.2.2.1) hdg (kk p e R s m args below meth c H locs ls Q X hR hL hE)
/-- System.arraycopy of numbers: as if all was taken ahead -/
theorem z_copy {k0 k1 n0 n1 a b m' : Nat} {sp dp len : Int32} (hl : Cond.methodLink y.cls index arraycopyName ∈ zW) (hnx : Cond.native arraycopyName ∈ zW) (hsx : Cond.static arraycopyName ∈ zW) (hix : Cond.initialized "java/lang/System" ∈ zW) (hd : 1 ≤ d) (hst : (st.map fun v => v.category).sum ≤ 8)
    (hk0 : k0 < S.1) (hs0 : S.2.1 k0 = (20, n0)) (hk1 : k1 < S.1) (hs1 : S.2.1 k1 = (20, n1)) (h1 : sp = nI a) (h2 : dp = nI b) (h3 : len = nI m') (h4 : a + m' ≤ n0) (h5 : b + m' ≤ n1) (hn0 : n0 < 1000) (hn1 : n1 < 1000) (hdg : decode cc pc = .ok (.invokestatic index, 3))
    (kk : zA g l y cc nL ret d mc ms P (pc + 3) ks ns S (z_row M k1 (va_cpy (M k0) (M k1) a b m')) lo st) : zA g l y cc nL ret d mc ms P pc ks ns S M lo (.int len :: .int dp :: .ref k1 :: .int sp :: .ref k0 :: st) := by
  subst h1; subst h2; subst h3
  intro p e R s m args below meth c H locs ls Q X hR hL hE
  have hts := X.2.2.2.2.1
  have g1 : d ≤ R.frames := X.2.2.2.2.2.2.2.2.1
  have g2 : 100 * d ≤ R.locals := X.2.2.2.2.2.2.2.2.2.1
  have g3 := z_catsum (g := g) hst
  have hK := X.2.2.2.2.2.2.2.2.2.2.2.2.1
  have hstk : (Value.int (nI m') :: .int (nI b) :: .ref k1 :: .int (nI a) :: .ref k0 :: st).map (z_v g) = .int (nI m') :: .int (nI b) :: .ref (g.1 + k1) :: .int (nI a) :: .ref (g.1 + k0) :: st.map (z_v g) := by
    show Value.int (nI m') :: .int (nI b) :: Value.ref (zad g k1) :: .int (nI a) :: Value.ref (zad g k0) :: _ = _
    rw [zad_lo g (Nat.lt_of_lt_of_le hk1 hR.2.2.1), zad_lo g (Nat.lt_of_lt_of_le hk0 hR.2.2.1)]
  rw [hstk]
  have he0 := z_at (g := g) (M := M) hk0 (zCell_n hs0 (Or.inl rfl))
  have he1 := z_at (g := g) (M := M) hk1 (zCell_n hs1 (Or.inl rfl))
  have ca : (nI a).toNatClampNeg = a := nI_clamp (by omega)
  have cb : (nI b).toNatClampNeg = b := nI_clamp (by omega)
  have cm : (nI m').toNatClampNeg = m' := nI_clamp (by omega)
  have ta : (nI a).toInt = (a : Int) := nI_toInt (by omega)
  have tb : (nI b).toInt = (b : Int) := nI_toInt (by omega)
  have tm : (nI m').toInt = (m' : Int) := nI_toInt (by omega)
  have hc0 : H[g.1 + k0]? = some (vp_cell (zcA g 20) (n0, .inl (M k0))) := hR.1 k0 _ he0
  have hc1 : H[g.1 + k1]? = some (vp_cell (zcA g 20) (n1, .inl (M k1))) := hR.1 k1 _ he1
  obtain ⟨-, q0, hq0, m0, hm0⟩ := (hK.2 0 _ rfl).1 n0 (fun j => .int (M k0 j))
  obtain ⟨-, q1, hq1, m1, hm1⟩ := (hK.2 0 _ rfl).1 n1 (fun j => .int (M k1 j))
  intro T hT XT
  obtain ⟨vm', X', step⟩ := XT.arraycopy X.1 X.2.2.2.1 (hts _ hl) (hts _ hnx) (hts _ hsx) (hts _ hix) (src := g.1 + k0) (dst := g.1 + k1) (cs := vp_cell (zcA g 20) (n0, .inl (M k0))) (cd := vp_cell (zcA g 20) (n1, .inl (M k1))) (srcPos := nI a) (destPos := nI b) (n := nI m') (by rw [hT]; exact hc0) (by rw [hT]; exact hc1)
    (fun _ h => by cases h) (fun _ h => by cases h) (fun h => by cases h) (fun h => by cases h) hq0 hq1 hm0 hm1 (by rfl) (nI_pos (by omega)) (nI_pos (by omega)) (nI_pos (by omega))
    (by rw [ta, tm]; show ¬ _ > ((arrV (zcA g 20) n0 (fun j => .int (M k0 j))).slots.size : Int); rw [arrV_size]; omega)
    (by rw [tb, tm]; show ¬ _ > ((arrV (zcA g 20) n1 (fun j => .int (M k1 j))).slots.size : Int); rw [arrV_size]; omega)
    (fun vm₁ _ i hi => by
      rw [cm] at hi
      have ee : (vp_cell (zcA g 20) (n0, .inl (M k0))).slots.getD ((nI a).toNatClampNeg + i) .null = .int (M k0 (a + i)) := by
        show (arrV (zcA g 20) n0 (fun j => .int (M k0 j))).slots.getD _ _ = _
        rw [ca, Array.getD_eq_getD_getElem?, arrV_read _ _ (by omega)]
        rfl
      exact ⟨by rw [ee]; rfl, by rw [ee]; exact trivial⟩)
    (g := F0 m pc ls (.int (nI m') :: .int (nI b) :: .ref (g.1 + k1) :: .int (nI a) :: .ref (g.1 + k0) :: st.map (z_v g))) rfl (by rw [X.2.2.1]; exact hL.1) (rest := st.map (z_v g)) rfl (by rw [X.2.1]; exact hdg) (by omega) (by
      have hnf : nativeFrameWords "java/lang/System" "arraycopy" 5 = 7 := by decide +kernel
      rw [hnf]
      show 2 * 0 + _ + _ ≤ _
      omega)
  have e1 : copied (vp_cell (zcA g 20) (n0, .inl (M k0))) (vp_cell (zcA g 20) (n1, .inl (M k1))) (nI a) (nI b) (nI m') = vp_cell (zcA g 20) (n1, .inl (va_cpy (M k0) (M k1) a b m')) := by
    have := va_copied (sp := (nI a).toNatClampNeg) (dp := (nI b).toNatClampNeg) (n := (nI m').toNatClampNeg) (fun z => Value.int z) (zcA g 20) (zcA g 20) (n0 := n0) (n1 := n1) (M k0) (M k1) (by rw [ca, cm]; exact h4)
    refine Eq.trans this ?_
    rw [ca, cb, cm]
    rfl
  rw [e1] at X' step
  have hlt : g.1 + k1 < H.size := (Array.getElem?_eq_some_iff.mp hc1).1
  have oq : ∀ q : Nat, q ≠ g.1 + k1 → (H.setIfInBounds (g.1 + k1) (vp_cell (zcA g 20) (n1, .inl (va_cpy (M k0) (M k1) a b m'))))[q]? = H[q]? := fun q hq => by simp [Array.getElem?_setIfInBounds, Ne.symm hq]
  have hP1 := hR.1.set (zWs_D g S M) he1 (e := .inl (zcA g 20, n1, .inl (va_cpy (M k0) (M k1) a b m'))) (H1 := H.setIfInBounds (g.1 + k1) (vp_cell (zcA g 20) (n1, .inl (va_cpy (M k0) (M k1) a b m')))) (show (H.setIfInBounds (g.1 + k1) _)[g.1 + k1]? = some _ by simp [Array.getElem?_setIfInBounds, hlt]) oq
  rw [z_setF hs1 (Or.inl rfl)] at hP1
  obtain ⟨t, a1, b1⟩ := kk p e R s m args below meth c _ _ ls Q X ⟨hP1, by rw [Array.size_setIfInBounds]; exact hR.2.1, hR.2.2.1, by rw [Array.size_setIfInBounds]; exact hR.2.2.2.1, fun q f1 f2 => by
      rw [oq q (fun ee => f2 (by rw [ee]; exact Nat.le_add_right _ _))]
      exact hR.2.2.2.2.1 q f1 f2, fun q hq => by
      rcases List.mem_append.mp hq with h | h
      · exact hR.2.2.2.2.2 q h
      · obtain ⟨z, -, hz⟩ := List.mem_map.mp h
        rw [← hz]
        exact Nat.le_add_right _ _⟩ hL hE _ (by rw [← hT]; rfl) X'
  exact ⟨t, step t a1, b1⟩
end ZCALLS
end
section
/-! ===== text constants; the script ===== -/
section ZTEXT
variable {g : zG} {l : Launch} {y : MethodName} {cc : ByteArray} {nL : Nat} {ret : Option FieldType} {d mc ms : Nat} {P : Option Value → zS → zM → Prop} {pc ks ns : Nat} {S : zS} {M : zM} {lo st : List Value}
variable {y' : MethodName} {cc' : ByteArray} {nL' : Nat} {ret' : Option FieldType} {d' mc' ms' index n : Nat} {P' : Option Value → zS → zM → Prop}
theorem z_ldcS {i : Nat} {tx : String} (hi : i < 8) (hk : zKon.getD i ("", 0, "") = (y.cls, index, tx)) (hdg : decode cc pc = .ok (.ldc index, 2)) (kk : zA g l y cc nL ret d mc ms P (pc + 2) ks ns S M lo (.ref (1000 + i) :: st)) : zA g l y cc nL ret d mc ms P pc ks ns S M lo st := by
  intro p e R s m args below meth c H locs ls Q X hR hL hE
  have hZ := X.2.2.2.2.2.2.2.2.2.2.2.2.2.1.2.2.1 i hi
  rw [hk] at hZ
  refine va_ldcS X.1 X.2.1 X.2.2.2.1 hZ hdg ?_
  have := kk p e R s m args below meth c H locs ls Q X hR hL hE
  have e2 : (Value.ref (1000 + i) :: st).map (z_v g) = .ref (g.2.2.2.2.1 i) :: st.map (z_v g) := by
    show Value.ref (zad g (1000 + i)) :: _ = _
    rw [zad_k g hi]
  rw [e2] at this
  exact this
theorem z_getTV {i : Nat} (hi : i < 8) (hl : Cond.fieldLink y.cls index "java/lang/String" "value" "[B" ∈ zW) (hdg : decode cc pc = .ok (.getfield index, 3)) (kk : zA g l y cc nL ret d mc ms P (pc + 3) ks ns S M lo (.ref (2000 + i) :: st)) : zA g l y cc nL ret d mc ms P pc ks ns S M lo (.ref (1000 + i) :: st) := by
  intro p e R s m args below meth c H locs ls Q X hR hL hE
  have hZ := (X.2.2.2.2.2.2.2.2.2.2.2.2.2.1.2.1.1 i hi).2.2.1
  have := kk p e R s m args below meth c H locs ls Q X hR hL hE
  have e1 : (Value.ref (1000 + i) :: st).map (z_v g) = .ref (g.2.2.2.2.1 i) :: st.map (z_v g) := by
    show Value.ref (zad g (1000 + i)) :: _ = _
    rw [zad_k g hi]
  have e2 : (Value.ref (2000 + i) :: st).map (z_v g) = .ref (g.2.2.2.2.2 i) :: st.map (z_v g) := by
    show Value.ref (zad g (2000 + i)) :: _ = _
    rw [zad_v g]
  rw [e1]
  rw [e2] at this
  exact vk_getf X.1 X.2.1 hZ hR.2.2.2 X.2.2.2.1 (X.2.2.2.2.1 _ hl) (fun x h => h) hdg this
theorem z_getTC {i : Nat} (hi : i < 8) (hl : Cond.fieldLink y.cls index "java/lang/String" "coder" "B" ∈ zW) (hdg : decode cc pc = .ok (.getfield index, 3)) (kk : zA g l y cc nL ret d mc ms P (pc + 3) ks ns S M lo (.int 0 :: st)) : zA g l y cc nL ret d mc ms P pc ks ns S M lo (.ref (1000 + i) :: st) := by
  intro p e R s m args below meth c H locs ls Q X hR hL hE
  have hZ := (X.2.2.2.2.2.2.2.2.2.2.2.2.2.1.2.1.1 i hi).2.1
  have e1 : (Value.ref (1000 + i) :: st).map (z_v g) = .ref (g.2.2.2.2.1 i) :: st.map (z_v g) := by
    show Value.ref (zad g (1000 + i)) :: _ = _
    rw [zad_k g hi]
  rw [e1]
  exact vk_getf X.1 X.2.1 hZ hR.2.2.2 X.2.2.2.1 (X.2.2.2.2.1 _ hl) (fun x h => h) hdg (kk p e R s m args below meth c H locs ls Q X hR hL hE)
theorem z_lenTV {i : Nat} (hi : i < 8) (hdg : decode cc pc = .ok (.arraylength, 1)) (kk : zA g l y cc nL ret d mc ms P (pc + 1) ks ns S M lo (.int (nI (zConLen.getD i 0)) :: st)) : zA g l y cc nL ret d mc ms P pc ks ns S M lo (.ref (2000 + i) :: st) := by
  intro p e R s m args below meth c H locs ls Q X hR hL hE
  have hZ := (X.2.2.2.2.2.2.2.2.2.2.2.2.2.1.2.1.1 i hi).2.2.2
  have e2 : (Value.ref (2000 + i) :: st).map (z_v g) = .ref (g.2.2.2.2.2 i) :: st.map (z_v g) := by
    show Value.ref (zad g (2000 + i)) :: _ = _
    rw [zad_v g]
  rw [e2]
  exact va_tlen X.1 X.2.1 hZ hR.2.2.2 rfl hdg (kk p e R s m args below meth c H locs ls Q X hR hL hE)
theorem z_baldTV {i j : Nat} {x : Int32} (hi : i < 8) (hx : x = nI j) (hj : j < zConLen.getD i 0) (hj2 : j < 1000) (hdg : decode cc pc = .ok (.baload, 1)) (kk : zA g l y cc nL ret d mc ms P (pc + 1) ks ns S M lo (.int ((zConByt.getD i []).getD j 0) :: st)) : zA g l y cc nL ret d mc ms P pc ks ns S M lo (.int x :: .ref (2000 + i) :: st) := by
  intro p e R s m args below meth c H locs ls Q X hR hL hE
  subst hx
  have hZ := (X.2.2.2.2.2.2.2.2.2.2.2.2.2.1.2.1.1 i hi).2.2.2
  have e2 : (Value.int (nI j) :: .ref (2000 + i) :: st).map (z_v g) = .int (nI j) :: .ref (g.2.2.2.2.2 i) :: st.map (z_v g) := by
    show Value.int (nI j) :: Value.ref (zad g (2000 + i)) :: _ = _
    rw [zad_v g]
  rw [e2]
  exact va_tb X.1 X.2.1 hZ hR.2.2.2 (i := nI j) (show ¬ _ by rw [nI_clamp (by omega)]; exact fun q => q.elim (fun q => nI_pos (by omega) q) (fun q => by omega)) (v := .int ((zConByt.getD i []).getD j 0)) (by rw [nI_clamp (by omega)]) hdg (kk p e R s m args below meth c H locs ls Q X hR hL hE)
theorem z_getCS (hl : Cond.fieldLink y.cls index "java/lang/String" "COMPACT_STRINGS" "Z" ∈ zW) (hdg : decode cc pc = .ok (.getstatic index, 3)) (kk : zA g l y cc nL ret d mc ms P (pc + 3) ks ns S M lo (.int 1 :: st)) : zA g l y cc nL ret d mc ms P pc ks ns S M lo st := by
  intro p e R s m args below meth c H locs ls Q X hR hL hE
  exact va_gets X.1 X.2.1 X.2.2.2.2.2.2.2.2.2.2.2.2.2.1.2.2.2.1 hR.2.2.2 X.2.2.2.1 (X.2.2.2.2.1 _ hl) (fun x h => h) hdg (kk p e R s m args below meth c H locs ls Q X hR hL hE)
theorem z_getSF (hl : Cond.fieldLink y.cls index "jdk/internal/util/Preconditions" "SIOOBE_FORMATTER" "Ljava/util/function/BiFunction;" ∈ zW) (hdg : decode cc pc = .ok (.getstatic index, 3)) (kk : ∀ v : Value, v = .null ∨ v = .ref (2000 + 101) → zA g l y cc nL ret d mc ms P (pc + 3) ks ns S M lo (v :: st)) : zA g l y cc nL ret d mc ms P pc ks ns S M lo st := by
  intro p e R s m args below meth c H locs ls Q X hR hL hE
  rcases X.2.2.2.2.2.2.2.2.2.2.2.2.2.1.2.2.2.2 with h | h
  · exact va_gets X.1 X.2.1 h hR.2.2.2 X.2.2.2.1 (X.2.2.2.2.1 _ hl) (fun x h => h) hdg (kk .null (Or.inl rfl) p e R s m args below meth c H locs ls Q X hR hL hE)
  · have := kk (.ref (2000 + 101)) (Or.inr rfl) p e R s m args below meth c H locs ls Q X hR hL hE
    have e2 : (Value.ref (2000 + 101) :: st).map (z_v g) = .ref (g.2.2.2.2.2 101) :: st.map (z_v g) := by
      show Value.ref (zad g (2000 + 101)) :: _ = _
      rw [zad_v g]
    rw [e2] at this
    exact va_gets X.1 X.2.1 h hR.2.2.2 X.2.2.2.1 (X.2.2.2.2.1 _ hl) (fun x h => h) hdg this
theorem z_i2c {x : Int32} (hdg : decode cc pc = .ok (.i2c, 1)) (k : zA g l y cc nL ret d mc ms P (pc + 1) ks ns S M lo (.int (x.toUInt32 % 65536).toInt32 :: st)) : zA g l y cc nL ret d mc ms P pc ks ns S M lo (.int x :: st) :=
  fun p e R s m args below meth c H locs ls Q X hR hL hE => lv_i2c X.1 X.2.1 hdg rfl (k p e R s m args below meth c H locs ls Q X hR hL hE)
/-- a call on a text constant -/
theorem z_callT {i : Nat} (As : List Value) (hi : i < 8) (hM : zMet g l y' cc' nL' ret' d' mc' ms' (.ref (1000 + i) :: As) S M P') (hw : zCW y' cc' nL' ret' As.length) (hl : Cond.methodLink y.cls index y' ∈ zW) (hin : Cond.instanceMethod y' ∈ zW) (hse : Cond.selects y'.cls y' y' ∈ zW) (hy : y'.cls = "java/lang/String")
    (hd : d' + 1 ≤ d) (hst : (st.map fun v => v.category).sum ≤ 8) (hmc : ks + mc' ≤ mc) (hms : ns + ms' ≤ ms) (hdg : decode cc pc = .ok (.invokevirtual index, 3))
    (kk : ∀ (v : Option Value) (S' : zS) (M' : zM), P' v S' M' → zA g l y cc nL ret d mc ms P (pc + 3) (ks + mc') (ns + ms') S' M' lo (v.toList ++ st)) {st2 : List Value} (he : As.reverse ++ .ref (1000 + i) :: st = st2) :
    zA g l y cc nL ret d mc ms P pc ks ns S M lo st2 := by
  subst he
  intro p e R s m args below meth c H locs ls Q X hR hL hE
  have hts := X.2.2.2.2.1
  refine z_after hR (va_runV (C := y'.cls) (As := As.map (z_v g)) (b := zad g (1000 + i)) (rest := st.map (z_v g)) ⟨X.1, X.2.1, X.2.2.1, X.2.2.2.1, hts⟩ hM ⟨z_cb X hw hl hd, hts _ hin, hts _ hse⟩ ⟨z_blind, ?_, fun U hU hW => ⟨rfl, z_ready X hR hU hW⟩⟩ rfl (by simp) hL.1 (by simp [z_v]) (z_room hst) hdg ⟨Nat.le_trans hmc X.2.2.2.2.2.2.2.2.2.2.1, Nat.le_trans hms X.2.2.2.2.2.2.2.2.2.2.2.1⟩) fun v S' M' H1 locs1 hp hR1 => ?_
  · rw [zad_k g hi, hy]
    exact vk_recv X.2.2.2.2.2.2.2.2.2.2.2.2.2.1.2.1 hi hR.2.2.2
  · have := kk v S' M' hp p e R s m args below meth c H1 locs1 ls Q X hR1 hL hE
    rw [List.map_append] at this
    exact this
end ZTEXT
end
