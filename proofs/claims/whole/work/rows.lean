section
-- ===== PART A: goes FIRST, ahead of the names: the tables' words, and 'selects' of the private methods out of them =====
/-- a private method of a class that the tables say can be made, by its rows of tables_1 -/
def lw_okq (q : MethodName × Nat) : Prop := (q.1.cls ≠ "java/lang/invoke/MethodHandle" ∧ q.1.cls ≠ "java/lang/invoke/VarHandle") ∧ Cond.instantiable q.1.cls q.2 ∈ tables_1 ∧ Cond.privateMethod q.1 ∈ tables_1 ∧ Cond.instanceMethod q.1 ∈ tables_1
theorem lw_p0 : lw_okq (⟨"SnowRoad", "takeText", "(I)V"⟩, 12) := ⟨⟨by decide +kernel, by decide +kernel⟩, List.mem_of_getElem? (i := 13) (by decide +kernel), List.mem_of_getElem? (i := 259) (by decide +kernel), List.mem_of_getElem? (i := 260) (by decide +kernel)⟩
theorem lw_p1 : lw_okq (⟨"SnowRoad$Text", "mayStand", "(II)Z"⟩, 3) := ⟨⟨by decide +kernel, by decide +kernel⟩, List.mem_of_getElem? (i := 173) (by decide +kernel), List.mem_of_getElem? (i := 275) (by decide +kernel), List.mem_of_getElem? (i := 276) (by decide +kernel)⟩
theorem lw_p2 : lw_okq (⟨"SnowRoad", "changed", "()V"⟩, 12) := ⟨⟨by decide +kernel, by decide +kernel⟩, List.mem_of_getElem? (i := 13) (by decide +kernel), List.mem_of_getElem? (i := 294) (by decide +kernel), List.mem_of_getElem? (i := 295) (by decide +kernel)⟩
theorem lw_p3 : lw_okq (⟨"SnowRoad", "found", "(I)I"⟩, 12) := ⟨⟨by decide +kernel, by decide +kernel⟩, List.mem_of_getElem? (i := 13) (by decide +kernel), List.mem_of_getElem? (i := 350) (by decide +kernel), List.mem_of_getElem? (i := 351) (by decide +kernel)⟩
theorem lw_p4 : lw_okq (⟨"SnowRoad", "asTold", "()LSnowRoad$Winter;"⟩, 12) := ⟨⟨by decide +kernel, by decide +kernel⟩, List.mem_of_getElem? (i := 13) (by decide +kernel), List.mem_of_getElem? (i := 359) (by decide +kernel), List.mem_of_getElem? (i := 360) (by decide +kernel)⟩
theorem lw_p5 : lw_okq (⟨"SnowRoad", "allEvents", "()I"⟩, 12) := ⟨⟨by decide +kernel, by decide +kernel⟩, List.mem_of_getElem? (i := 13) (by decide +kernel), List.mem_of_getElem? (i := 363) (by decide +kernel), List.mem_of_getElem? (i := 364) (by decide +kernel)⟩
theorem lw_p6 : lw_okq (⟨"SnowRoad$Winter", "sortEvents", "(LSnowRoad$Told;I)V"⟩, 15) := ⟨⟨by decide +kernel, by decide +kernel⟩, List.mem_of_getElem? (i := 112) (by decide +kernel), List.mem_of_getElem? (i := 374) (by decide +kernel), List.mem_of_getElem? (i := 375) (by decide +kernel)⟩
theorem lw_p7 : lw_okq (⟨"SnowRoad$Winter", "sortEvent", "(III)V"⟩, 15) := ⟨⟨by decide +kernel, by decide +kernel⟩, List.mem_of_getElem? (i := 112) (by decide +kernel), List.mem_of_getElem? (i := 378) (by decide +kernel), List.mem_of_getElem? (i := 379) (by decide +kernel)⟩
theorem lw_p8 : lw_okq (⟨"SnowRoad$Winter", "snowFalls", "([II)V"⟩, 15) := ⟨⟨by decide +kernel, by decide +kernel⟩, List.mem_of_getElem? (i := 112) (by decide +kernel), List.mem_of_getElem? (i := 382) (by decide +kernel), List.mem_of_getElem? (i := 383) (by decide +kernel)⟩
theorem lw_p9 : lw_okq (⟨"SnowRoad$Winter", "windCarries", "([II)V"⟩, 15) := ⟨⟨by decide +kernel, by decide +kernel⟩, List.mem_of_getElem? (i := 112) (by decide +kernel), List.mem_of_getElem? (i := 386) (by decide +kernel), List.mem_of_getElem? (i := 387) (by decide +kernel)⟩
theorem lw_p10 : lw_okq (⟨"SnowRoad$Winter", "snowThaws", "(LSnowRoad$Told;II)V"⟩, 15) := ⟨⟨by decide +kernel, by decide +kernel⟩, List.mem_of_getElem? (i := 112) (by decide +kernel), List.mem_of_getElem? (i := 390) (by decide +kernel), List.mem_of_getElem? (i := 391) (by decide +kernel)⟩
theorem lw_p11 : lw_okq (⟨"SnowRoad$Winter", "ploughsGo", "(LSnowRoad$Told;I)V"⟩, 15) := ⟨⟨by decide +kernel, by decide +kernel⟩, List.mem_of_getElem? (i := 112) (by decide +kernel), List.mem_of_getElem? (i := 394) (by decide +kernel), List.mem_of_getElem? (i := 395) (by decide +kernel)⟩
theorem lw_p12 : lw_okq (⟨"SnowRoad$Winter", "ploughGoes", "(II)I"⟩, 15) := ⟨⟨by decide +kernel, by decide +kernel⟩, List.mem_of_getElem? (i := 112) (by decide +kernel), List.mem_of_getElem? (i := 398) (by decide +kernel), List.mem_of_getElem? (i := 399) (by decide +kernel)⟩
theorem lw_p13 : lw_okq (⟨"SnowRoad$Winter", "rideOn", "(II)I"⟩, 15) := ⟨⟨by decide +kernel, by decide +kernel⟩, List.mem_of_getElem? (i := 112) (by decide +kernel), List.mem_of_getElem? (i := 417) (by decide +kernel), List.mem_of_getElem? (i := 418) (by decide +kernel)⟩
theorem lw_p14 : lw_okq (⟨"SnowRoad", "tryLand", "(II)V"⟩, 12) := ⟨⟨by decide +kernel, by decide +kernel⟩, List.mem_of_getElem? (i := 13) (by decide +kernel), List.mem_of_getElem? (i := 471) (by decide +kernel), List.mem_of_getElem? (i := 472) (by decide +kernel)⟩
theorem lw_p15 : lw_okq (⟨"SnowRoad", "sparedEvents", "()I"⟩, 12) := ⟨⟨by decide +kernel, by decide +kernel⟩, List.mem_of_getElem? (i := 13) (by decide +kernel), List.mem_of_getElem? (i := 483) (by decide +kernel), List.mem_of_getElem? (i := 484) (by decide +kernel)⟩
def lw_privs_1 : List (MethodName × Nat) := [(⟨"SnowRoad", "takeText", "(I)V"⟩, 12), (⟨"SnowRoad$Text", "mayStand", "(II)Z"⟩, 3), (⟨"SnowRoad", "changed", "()V"⟩, 12), (⟨"SnowRoad", "found", "(I)I"⟩, 12), (⟨"SnowRoad", "asTold", "()LSnowRoad$Winter;"⟩, 12), (⟨"SnowRoad", "allEvents", "()I"⟩, 12), (⟨"SnowRoad$Winter", "sortEvents", "(LSnowRoad$Told;I)V"⟩, 15), (⟨"SnowRoad$Winter", "sortEvent", "(III)V"⟩, 15), (⟨"SnowRoad$Winter", "snowFalls", "([II)V"⟩, 15), (⟨"SnowRoad$Winter", "windCarries", "([II)V"⟩, 15), (⟨"SnowRoad$Winter", "snowThaws", "(LSnowRoad$Told;II)V"⟩, 15), (⟨"SnowRoad$Winter", "ploughsGo", "(LSnowRoad$Told;I)V"⟩, 15), (⟨"SnowRoad$Winter", "ploughGoes", "(II)I"⟩, 15), (⟨"SnowRoad$Winter", "rideOn", "(II)I"⟩, 15), (⟨"SnowRoad", "tryLand", "(II)V"⟩, 12), (⟨"SnowRoad", "sparedEvents", "()I"⟩, 12)]
theorem lw_r1 : ∀ q ∈ lw_privs_1, lw_okq q := List.forall_mem_cons.mpr ⟨lw_p0, List.forall_mem_cons.mpr ⟨lw_p1, List.forall_mem_cons.mpr ⟨lw_p2, List.forall_mem_cons.mpr ⟨lw_p3, List.forall_mem_cons.mpr ⟨lw_p4, List.forall_mem_cons.mpr ⟨lw_p5, List.forall_mem_cons.mpr ⟨lw_p6, List.forall_mem_cons.mpr ⟨lw_p7, List.forall_mem_cons.mpr ⟨lw_p8, List.forall_mem_cons.mpr ⟨lw_p9, List.forall_mem_cons.mpr ⟨lw_p10, List.forall_mem_cons.mpr ⟨lw_p11, List.forall_mem_cons.mpr ⟨lw_p12, List.forall_mem_cons.mpr ⟨lw_p13, List.forall_mem_cons.mpr ⟨lw_p14, List.forall_mem_cons.mpr ⟨lw_p15, fun _ h => absurd h List.not_mem_nil⟩⟩⟩⟩⟩⟩⟩⟩⟩⟩⟩⟩⟩⟩⟩⟩
theorem lw_p16 : lw_okq (⟨"SnowRoad", "allOverBut", "(I)Z"⟩, 12) := ⟨⟨by decide +kernel, by decide +kernel⟩, List.mem_of_getElem? (i := 13) (by decide +kernel), List.mem_of_getElem? (i := 487) (by decide +kernel), List.mem_of_getElem? (i := 488) (by decide +kernel)⟩
theorem lw_p17 : lw_okq (⟨"SnowRoad", "tryStrength", "(II)V"⟩, 12) := ⟨⟨by decide +kernel, by decide +kernel⟩, List.mem_of_getElem? (i := 13) (by decide +kernel), List.mem_of_getElem? (i := 525) (by decide +kernel), List.mem_of_getElem? (i := 526) (by decide +kernel)⟩
theorem lw_p18 : lw_okq (⟨"SnowRoad", "mostAlike", "(II)I"⟩, 12) := ⟨⟨by decide +kernel, by decide +kernel⟩, List.mem_of_getElem? (i := 13) (by decide +kernel), List.mem_of_getElem? (i := 538) (by decide +kernel), List.mem_of_getElem? (i := 539) (by decide +kernel)⟩
theorem lw_p19 : lw_okq (⟨"SnowRoad", "sameDrift", "(III)Z"⟩, 12) := ⟨⟨by decide +kernel, by decide +kernel⟩, List.mem_of_getElem? (i := 13) (by decide +kernel), List.mem_of_getElem? (i := 542) (by decide +kernel), List.mem_of_getElem? (i := 543) (by decide +kernel)⟩
theorem lw_p20 : lw_okq (⟨"SnowRoad", "countChoices", "()V"⟩, 12) := ⟨⟨by decide +kernel, by decide +kernel⟩, List.mem_of_getElem? (i := 13) (by decide +kernel), List.mem_of_getElem? (i := 554) (by decide +kernel), List.mem_of_getElem? (i := 555) (by decide +kernel)⟩
theorem lw_p21 : lw_okq (⟨"SnowRoad", "drawFall", "(II)V"⟩, 12) := ⟨⟨by decide +kernel, by decide +kernel⟩, List.mem_of_getElem? (i := 13) (by decide +kernel), List.mem_of_getElem? (i := 567) (by decide +kernel), List.mem_of_getElem? (i := 568) (by decide +kernel)⟩
theorem lw_p22 : lw_okq (⟨"SnowRoad", "allBytes", "()I"⟩, 12) := ⟨⟨by decide +kernel, by decide +kernel⟩, List.mem_of_getElem? (i := 13) (by decide +kernel), List.mem_of_getElem? (i := 620) (by decide +kernel), List.mem_of_getElem? (i := 621) (by decide +kernel)⟩
theorem lw_p23 : lw_okq (⟨"SnowRoad", "mixPlough", "(JI)J"⟩, 12) := ⟨⟨by decide +kernel, by decide +kernel⟩, List.mem_of_getElem? (i := 13) (by decide +kernel), List.mem_of_getElem? (i := 640) (by decide +kernel), List.mem_of_getElem? (i := 641) (by decide +kernel)⟩
theorem lw_p24 : lw_okq (⟨"SnowRoad", "mixBus", "(JI)J"⟩, 12) := ⟨⟨by decide +kernel, by decide +kernel⟩, List.mem_of_getElem? (i := 13) (by decide +kernel), List.mem_of_getElem? (i := 652) (by decide +kernel), List.mem_of_getElem? (i := 653) (by decide +kernel)⟩
theorem lw_p25 : lw_okq (⟨"SnowRoadModel", "finds", "(I)I"⟩, 35) := ⟨⟨by decide +kernel, by decide +kernel⟩, List.mem_of_getElem? (i := 668) (by decide +kernel), List.mem_of_getElem? (i := 792) (by decide +kernel), List.mem_of_getElem? (i := 793) (by decide +kernel)⟩
theorem lw_p26 : lw_okq (⟨"SnowRoadModel", "lacks", "(III)I"⟩, 35) := ⟨⟨by decide +kernel, by decide +kernel⟩, List.mem_of_getElem? (i := 668) (by decide +kernel), List.mem_of_getElem? (i := 804) (by decide +kernel), List.mem_of_getElem? (i := 805) (by decide +kernel)⟩
theorem lw_p27 : lw_okq (⟨"SnowRoadModel", "readsText", "(I)I"⟩, 35) := ⟨⟨by decide +kernel, by decide +kernel⟩, List.mem_of_getElem? (i := 668) (by decide +kernel), List.mem_of_getElem? (i := 840) (by decide +kernel), List.mem_of_getElem? (i := 841) (by decide +kernel)⟩
theorem lw_p28 : lw_okq (⟨"SnowRoadModel", "readsLand", "()I"⟩, 35) := ⟨⟨by decide +kernel, by decide +kernel⟩, List.mem_of_getElem? (i := 668) (by decide +kernel), List.mem_of_getElem? (i := 844) (by decide +kernel), List.mem_of_getElem? (i := 845) (by decide +kernel)⟩
theorem lw_p29 : lw_okq (⟨"SnowRoadModel", "plains", "()V"⟩, 35) := ⟨⟨by decide +kernel, by decide +kernel⟩, List.mem_of_getElem? (i := 668) (by decide +kernel), List.mem_of_getElem? (i := 848) (by decide +kernel), List.mem_of_getElem? (i := 849) (by decide +kernel)⟩
theorem lw_p30 : lw_okq (⟨"SnowRoadModel", "readsFall", "()I"⟩, 35) := ⟨⟨by decide +kernel, by decide +kernel⟩, List.mem_of_getElem? (i := 668) (by decide +kernel), List.mem_of_getElem? (i := 852) (by decide +kernel), List.mem_of_getElem? (i := 853) (by decide +kernel)⟩
theorem lw_p31 : lw_okq (⟨"SnowRoadModel", "clears", "()V"⟩, 35) := ⟨⟨by decide +kernel, by decide +kernel⟩, List.mem_of_getElem? (i := 668) (by decide +kernel), List.mem_of_getElem? (i := 856) (by decide +kernel), List.mem_of_getElem? (i := 857) (by decide +kernel)⟩
def lw_privs_2 : List (MethodName × Nat) := [(⟨"SnowRoad", "allOverBut", "(I)Z"⟩, 12), (⟨"SnowRoad", "tryStrength", "(II)V"⟩, 12), (⟨"SnowRoad", "mostAlike", "(II)I"⟩, 12), (⟨"SnowRoad", "sameDrift", "(III)Z"⟩, 12), (⟨"SnowRoad", "countChoices", "()V"⟩, 12), (⟨"SnowRoad", "drawFall", "(II)V"⟩, 12), (⟨"SnowRoad", "allBytes", "()I"⟩, 12), (⟨"SnowRoad", "mixPlough", "(JI)J"⟩, 12), (⟨"SnowRoad", "mixBus", "(JI)J"⟩, 12), (⟨"SnowRoadModel", "finds", "(I)I"⟩, 35), (⟨"SnowRoadModel", "lacks", "(III)I"⟩, 35), (⟨"SnowRoadModel", "readsText", "(I)I"⟩, 35), (⟨"SnowRoadModel", "readsLand", "()I"⟩, 35), (⟨"SnowRoadModel", "plains", "()V"⟩, 35), (⟨"SnowRoadModel", "readsFall", "()I"⟩, 35), (⟨"SnowRoadModel", "clears", "()V"⟩, 35)]
theorem lw_r2 : ∀ q ∈ lw_privs_2, lw_okq q := List.forall_mem_cons.mpr ⟨lw_p16, List.forall_mem_cons.mpr ⟨lw_p17, List.forall_mem_cons.mpr ⟨lw_p18, List.forall_mem_cons.mpr ⟨lw_p19, List.forall_mem_cons.mpr ⟨lw_p20, List.forall_mem_cons.mpr ⟨lw_p21, List.forall_mem_cons.mpr ⟨lw_p22, List.forall_mem_cons.mpr ⟨lw_p23, List.forall_mem_cons.mpr ⟨lw_p24, List.forall_mem_cons.mpr ⟨lw_p25, List.forall_mem_cons.mpr ⟨lw_p26, List.forall_mem_cons.mpr ⟨lw_p27, List.forall_mem_cons.mpr ⟨lw_p28, List.forall_mem_cons.mpr ⟨lw_p29, List.forall_mem_cons.mpr ⟨lw_p30, List.forall_mem_cons.mpr ⟨lw_p31, fun _ h => absurd h List.not_mem_nil⟩⟩⟩⟩⟩⟩⟩⟩⟩⟩⟩⟩⟩⟩⟩⟩
theorem lw_p32 : lw_okq (⟨"SnowRoadModel", "readsPloughs", "()I"⟩, 35) := ⟨⟨by decide +kernel, by decide +kernel⟩, List.mem_of_getElem? (i := 668) (by decide +kernel), List.mem_of_getElem? (i := 864) (by decide +kernel), List.mem_of_getElem? (i := 865) (by decide +kernel)⟩
theorem lw_p33 : lw_okq (⟨"SnowRoadModel", "readsBuses", "()I"⟩, 35) := ⟨⟨by decide +kernel, by decide +kernel⟩, List.mem_of_getElem? (i := 668) (by decide +kernel), List.mem_of_getElem? (i := 875) (by decide +kernel), List.mem_of_getElem? (i := 876) (by decide +kernel)⟩
theorem lw_p34 : lw_okq (⟨"SnowRoadModel", "isPlough", "(I)Z"⟩, 35) := ⟨⟨by decide +kernel, by decide +kernel⟩, List.mem_of_getElem? (i := 668) (by decide +kernel), List.mem_of_getElem? (i := 899) (by decide +kernel), List.mem_of_getElem? (i := 900) (by decide +kernel)⟩
theorem lw_p35 : lw_okq (⟨"SnowRoadModel", "isBus", "(I)Z"⟩, 35) := ⟨⟨by decide +kernel, by decide +kernel⟩, List.mem_of_getElem? (i := 668) (by decide +kernel), List.mem_of_getElem? (i := 907) (by decide +kernel), List.mem_of_getElem? (i := 908) (by decide +kernel)⟩
theorem lw_p36 : lw_okq (⟨"SnowRoadModel", "find", "()V"⟩, 35) := ⟨⟨by decide +kernel, by decide +kernel⟩, List.mem_of_getElem? (i := 668) (by decide +kernel), List.mem_of_getElem? (i := 933) (by decide +kernel), List.mem_of_getElem? (i := 934) (by decide +kernel)⟩
theorem lw_p37 : lw_okq (⟨"SnowRoadModel", "lives", "()V"⟩, 35) := ⟨⟨by decide +kernel, by decide +kernel⟩, List.mem_of_getElem? (i := 668) (by decide +kernel), List.mem_of_getElem? (i := 937) (by decide +kernel), List.mem_of_getElem? (i := 938) (by decide +kernel)⟩
theorem lw_p38 : lw_okq (⟨"SnowRoadModel", "passes", "(I)V"⟩, 35) := ⟨⟨by decide +kernel, by decide +kernel⟩, List.mem_of_getElem? (i := 668) (by decide +kernel), List.mem_of_getElem? (i := 941) (by decide +kernel), List.mem_of_getElem? (i := 942) (by decide +kernel)⟩
theorem lw_p39 : lw_okq (⟨"SnowRoadModel", "weathers", "(I)V"⟩, 35) := ⟨⟨by decide +kernel, by decide +kernel⟩, List.mem_of_getElem? (i := 668) (by decide +kernel), List.mem_of_getElem? (i := 945) (by decide +kernel), List.mem_of_getElem? (i := 946) (by decide +kernel)⟩
theorem lw_p40 : lw_okq (⟨"SnowRoadModel", "isTold", "(III)Z"⟩, 35) := ⟨⟨by decide +kernel, by decide +kernel⟩, List.mem_of_getElem? (i := 668) (by decide +kernel), List.mem_of_getElem? (i := 949) (by decide +kernel), List.mem_of_getElem? (i := 950) (by decide +kernel)⟩
theorem lw_p41 : lw_okq (⟨"SnowRoadModel", "isBroken", "(II)Z"⟩, 35) := ⟨⟨by decide +kernel, by decide +kernel⟩, List.mem_of_getElem? (i := 668) (by decide +kernel), List.mem_of_getElem? (i := 959) (by decide +kernel), List.mem_of_getElem? (i := 960) (by decide +kernel)⟩
theorem lw_p42 : lw_okq (⟨"SnowRoadModel", "scoops", "(I)I"⟩, 35) := ⟨⟨by decide +kernel, by decide +kernel⟩, List.mem_of_getElem? (i := 668) (by decide +kernel), List.mem_of_getElem? (i := 963) (by decide +kernel), List.mem_of_getElem? (i := 964) (by decide +kernel)⟩
theorem lw_p43 : lw_okq (⟨"SnowRoadModel", "drives", "(IIZ)V"⟩, 35) := ⟨⟨by decide +kernel, by decide +kernel⟩, List.mem_of_getElem? (i := 668) (by decide +kernel), List.mem_of_getElem? (i := 967) (by decide +kernel), List.mem_of_getElem? (i := 968) (by decide +kernel)⟩
theorem lw_p44 : lw_okq (⟨"SnowRoadModel", "atBy", "(III)I"⟩, 35) := ⟨⟨by decide +kernel, by decide +kernel⟩, List.mem_of_getElem? (i := 668) (by decide +kernel), List.mem_of_getElem? (i := 975) (by decide +kernel), List.mem_of_getElem? (i := 976) (by decide +kernel)⟩
theorem lw_p45 : lw_okq (⟨"SnowRoadModel", "snowBy", "(II)I"⟩, 35) := ⟨⟨by decide +kernel, by decide +kernel⟩, List.mem_of_getElem? (i := 668) (by decide +kernel), List.mem_of_getElem? (i := 990) (by decide +kernel), List.mem_of_getElem? (i := 991) (by decide +kernel)⟩
theorem lw_p46 : lw_okq (⟨"SnowRoadModel", "overBy", "(II)I"⟩, 35) := ⟨⟨by decide +kernel, by decide +kernel⟩, List.mem_of_getElem? (i := 668) (by decide +kernel), List.mem_of_getElem? (i := 998) (by decide +kernel), List.mem_of_getElem? (i := 999) (by decide +kernel)⟩
theorem lw_p47 : lw_okq (⟨"SnowRoadModel", "clearedBy", "(II)I"⟩, 35) := ⟨⟨by decide +kernel, by decide +kernel⟩, List.mem_of_getElem? (i := 668) (by decide +kernel), List.mem_of_getElem? (i := 1006) (by decide +kernel), List.mem_of_getElem? (i := 1007) (by decide +kernel)⟩
def lw_privs_3 : List (MethodName × Nat) := [(⟨"SnowRoadModel", "readsPloughs", "()I"⟩, 35), (⟨"SnowRoadModel", "readsBuses", "()I"⟩, 35), (⟨"SnowRoadModel", "isPlough", "(I)Z"⟩, 35), (⟨"SnowRoadModel", "isBus", "(I)Z"⟩, 35), (⟨"SnowRoadModel", "find", "()V"⟩, 35), (⟨"SnowRoadModel", "lives", "()V"⟩, 35), (⟨"SnowRoadModel", "passes", "(I)V"⟩, 35), (⟨"SnowRoadModel", "weathers", "(I)V"⟩, 35), (⟨"SnowRoadModel", "isTold", "(III)Z"⟩, 35), (⟨"SnowRoadModel", "isBroken", "(II)Z"⟩, 35), (⟨"SnowRoadModel", "scoops", "(I)I"⟩, 35), (⟨"SnowRoadModel", "drives", "(IIZ)V"⟩, 35), (⟨"SnowRoadModel", "atBy", "(III)I"⟩, 35), (⟨"SnowRoadModel", "snowBy", "(II)I"⟩, 35), (⟨"SnowRoadModel", "overBy", "(II)I"⟩, 35), (⟨"SnowRoadModel", "clearedBy", "(II)I"⟩, 35)]
theorem lw_r3 : ∀ q ∈ lw_privs_3, lw_okq q := List.forall_mem_cons.mpr ⟨lw_p32, List.forall_mem_cons.mpr ⟨lw_p33, List.forall_mem_cons.mpr ⟨lw_p34, List.forall_mem_cons.mpr ⟨lw_p35, List.forall_mem_cons.mpr ⟨lw_p36, List.forall_mem_cons.mpr ⟨lw_p37, List.forall_mem_cons.mpr ⟨lw_p38, List.forall_mem_cons.mpr ⟨lw_p39, List.forall_mem_cons.mpr ⟨lw_p40, List.forall_mem_cons.mpr ⟨lw_p41, List.forall_mem_cons.mpr ⟨lw_p42, List.forall_mem_cons.mpr ⟨lw_p43, List.forall_mem_cons.mpr ⟨lw_p44, List.forall_mem_cons.mpr ⟨lw_p45, List.forall_mem_cons.mpr ⟨lw_p46, List.forall_mem_cons.mpr ⟨lw_p47, fun _ h => absurd h List.not_mem_nil⟩⟩⟩⟩⟩⟩⟩⟩⟩⟩⟩⟩⟩⟩⟩⟩
theorem lw_p48 : lw_okq (⟨"SnowRoadModel", "deepestBy", "(I)I"⟩, 35) := ⟨⟨by decide +kernel, by decide +kernel⟩, List.mem_of_getElem? (i := 668) (by decide +kernel), List.mem_of_getElem? (i := 1014) (by decide +kernel), List.mem_of_getElem? (i := 1015) (by decide +kernel)⟩
theorem lw_p49 : lw_okq (⟨"SnowRoadModel", "shutNow", "()I"⟩, 35) := ⟨⟨by decide +kernel, by decide +kernel⟩, List.mem_of_getElem? (i := 668) (by decide +kernel), List.mem_of_getElem? (i := 1022) (by decide +kernel), List.mem_of_getElem? (i := 1023) (by decide +kernel)⟩
theorem lw_p50 : lw_okq (⟨"SnowRoadModel", "bestNow", "()I"⟩, 35) := ⟨⟨by decide +kernel, by decide +kernel⟩, List.mem_of_getElem? (i := 668) (by decide +kernel), List.mem_of_getElem? (i := 1030) (by decide +kernel), List.mem_of_getElem? (i := 1031) (by decide +kernel)⟩
theorem lw_p51 : lw_okq (⟨"SnowRoadModel", "beginOf", "(II)I"⟩, 35) := ⟨⟨by decide +kernel, by decide +kernel⟩, List.mem_of_getElem? (i := 668) (by decide +kernel), List.mem_of_getElem? (i := 1041) (by decide +kernel), List.mem_of_getElem? (i := 1042) (by decide +kernel)⟩
theorem lw_p52 : lw_okq (⟨"SnowRoadModel", "manyOver", "()I"⟩, 35) := ⟨⟨by decide +kernel, by decide +kernel⟩, List.mem_of_getElem? (i := 668) (by decide +kernel), List.mem_of_getElem? (i := 1045) (by decide +kernel), List.mem_of_getElem? (i := 1046) (by decide +kernel)⟩
theorem lw_p53 : lw_okq (⟨"SnowRoadModel", "hedgeBy", "(I)I"⟩, 35) := ⟨⟨by decide +kernel, by decide +kernel⟩, List.mem_of_getElem? (i := 668) (by decide +kernel), List.mem_of_getElem? (i := 1053) (by decide +kernel), List.mem_of_getElem? (i := 1054) (by decide +kernel)⟩
theorem lw_p54 : lw_okq (⟨"SnowRoadModel", "startOf", "(II)I"⟩, 35) := ⟨⟨by decide +kernel, by decide +kernel⟩, List.mem_of_getElem? (i := 668) (by decide +kernel), List.mem_of_getElem? (i := 1062) (by decide +kernel), List.mem_of_getElem? (i := 1063) (by decide +kernel)⟩
theorem lw_p55 : lw_okq (⟨"SnowRoadModel", "spareBy", "(I)I"⟩, 35) := ⟨⟨by decide +kernel, by decide +kernel⟩, List.mem_of_getElem? (i := 668) (by decide +kernel), List.mem_of_getElem? (i := 1071) (by decide +kernel), List.mem_of_getElem? (i := 1072) (by decide +kernel)⟩
theorem lw_p56 : lw_okq (⟨"SnowRoadModel", "isSpared", "(I)Z"⟩, 35) := ⟨⟨by decide +kernel, by decide +kernel⟩, List.mem_of_getElem? (i := 668) (by decide +kernel), List.mem_of_getElem? (i := 1075) (by decide +kernel), List.mem_of_getElem? (i := 1076) (by decide +kernel)⟩
theorem lw_p57 : lw_okq (⟨"SnowRoadModel", "neverNow", "()I"⟩, 35) := ⟨⟨by decide +kernel, by decide +kernel⟩, List.mem_of_getElem? (i := 668) (by decide +kernel), List.mem_of_getElem? (i := 1092) (by decide +kernel), List.mem_of_getElem? (i := 1093) (by decide +kernel)⟩
theorem lw_p58 : lw_okq (⟨"SnowRoadModel", "isSeen", "()Z"⟩, 35) := ⟨⟨by decide +kernel, by decide +kernel⟩, List.mem_of_getElem? (i := 668) (by decide +kernel), List.mem_of_getElem? (i := 1096) (by decide +kernel), List.mem_of_getElem? (i := 1097) (by decide +kernel)⟩
theorem lw_p59 : lw_okq (⟨"SnowRoadModel", "strengthsOf", "(I)I"⟩, 35) := ⟨⟨by decide +kernel, by decide +kernel⟩, List.mem_of_getElem? (i := 668) (by decide +kernel), List.mem_of_getElem? (i := 1104) (by decide +kernel), List.mem_of_getElem? (i := 1105) (by decide +kernel)⟩
theorem lw_p60 : lw_okq (⟨"SnowRoadModel", "lieOf", "(I)I"⟩, 35) := ⟨⟨by decide +kernel, by decide +kernel⟩, List.mem_of_getElem? (i := 668) (by decide +kernel), List.mem_of_getElem? (i := 1112) (by decide +kernel), List.mem_of_getElem? (i := 1113) (by decide +kernel)⟩
theorem lw_p61 : lw_okq (⟨"SnowRoadModel", "askOf", "(I)I"⟩, 35) := ⟨⟨by decide +kernel, by decide +kernel⟩, List.mem_of_getElem? (i := 668) (by decide +kernel), List.mem_of_getElem? (i := 1120) (by decide +kernel), List.mem_of_getElem? (i := 1121) (by decide +kernel)⟩
theorem lw_p62 : lw_okq (⟨"SnowRoadModel", "alike", "(II)I"⟩, 35) := ⟨⟨by decide +kernel, by decide +kernel⟩, List.mem_of_getElem? (i := 668) (by decide +kernel), List.mem_of_getElem? (i := 1124) (by decide +kernel), List.mem_of_getElem? (i := 1125) (by decide +kernel)⟩
theorem lw_p63 : lw_okq (⟨"SnowRoadModel", "same", "(III)Z"⟩, 35) := ⟨⟨by decide +kernel, by decide +kernel⟩, List.mem_of_getElem? (i := 668) (by decide +kernel), List.mem_of_getElem? (i := 1128) (by decide +kernel), List.mem_of_getElem? (i := 1129) (by decide +kernel)⟩
def lw_privs_4 : List (MethodName × Nat) := [(⟨"SnowRoadModel", "deepestBy", "(I)I"⟩, 35), (⟨"SnowRoadModel", "shutNow", "()I"⟩, 35), (⟨"SnowRoadModel", "bestNow", "()I"⟩, 35), (⟨"SnowRoadModel", "beginOf", "(II)I"⟩, 35), (⟨"SnowRoadModel", "manyOver", "()I"⟩, 35), (⟨"SnowRoadModel", "hedgeBy", "(I)I"⟩, 35), (⟨"SnowRoadModel", "startOf", "(II)I"⟩, 35), (⟨"SnowRoadModel", "spareBy", "(I)I"⟩, 35), (⟨"SnowRoadModel", "isSpared", "(I)Z"⟩, 35), (⟨"SnowRoadModel", "neverNow", "()I"⟩, 35), (⟨"SnowRoadModel", "isSeen", "()Z"⟩, 35), (⟨"SnowRoadModel", "strengthsOf", "(I)I"⟩, 35), (⟨"SnowRoadModel", "lieOf", "(I)I"⟩, 35), (⟨"SnowRoadModel", "askOf", "(I)I"⟩, 35), (⟨"SnowRoadModel", "alike", "(II)I"⟩, 35), (⟨"SnowRoadModel", "same", "(III)Z"⟩, 35)]
theorem lw_r4 : ∀ q ∈ lw_privs_4, lw_okq q := List.forall_mem_cons.mpr ⟨lw_p48, List.forall_mem_cons.mpr ⟨lw_p49, List.forall_mem_cons.mpr ⟨lw_p50, List.forall_mem_cons.mpr ⟨lw_p51, List.forall_mem_cons.mpr ⟨lw_p52, List.forall_mem_cons.mpr ⟨lw_p53, List.forall_mem_cons.mpr ⟨lw_p54, List.forall_mem_cons.mpr ⟨lw_p55, List.forall_mem_cons.mpr ⟨lw_p56, List.forall_mem_cons.mpr ⟨lw_p57, List.forall_mem_cons.mpr ⟨lw_p58, List.forall_mem_cons.mpr ⟨lw_p59, List.forall_mem_cons.mpr ⟨lw_p60, List.forall_mem_cons.mpr ⟨lw_p61, List.forall_mem_cons.mpr ⟨lw_p62, List.forall_mem_cons.mpr ⟨lw_p63, fun _ h => absurd h List.not_mem_nil⟩⟩⟩⟩⟩⟩⟩⟩⟩⟩⟩⟩⟩⟩⟩⟩
theorem lw_p64 : lw_okq (⟨"SnowRoadModel", "chanceOf", "(III)J"⟩, 35) := ⟨⟨by decide +kernel, by decide +kernel⟩, List.mem_of_getElem? (i := 668) (by decide +kernel), List.mem_of_getElem? (i := 1137) (by decide +kernel), List.mem_of_getElem? (i := 1138) (by decide +kernel)⟩
theorem lw_p65 : lw_okq (⟨"SnowRoadModel", "wintersOf", "(III)I"⟩, 35) := ⟨⟨by decide +kernel, by decide +kernel⟩, List.mem_of_getElem? (i := 668) (by decide +kernel), List.mem_of_getElem? (i := 1153) (by decide +kernel), List.mem_of_getElem? (i := 1154) (by decide +kernel)⟩
theorem lw_p66 : lw_okq (⟨"SnowRoadModel", "lot", "(I)I"⟩, 35) := ⟨⟨by decide +kernel, by decide +kernel⟩, List.mem_of_getElem? (i := 668) (by decide +kernel), List.mem_of_getElem? (i := 1157) (by decide +kernel), List.mem_of_getElem? (i := 1158) (by decide +kernel)⟩
theorem lw_p67 : lw_okq (⟨"SnowRoadModel", "tellsPlough", "(JI)J"⟩, 35) := ⟨⟨by decide +kernel, by decide +kernel⟩, List.mem_of_getElem? (i := 668) (by decide +kernel), List.mem_of_getElem? (i := 1177) (by decide +kernel), List.mem_of_getElem? (i := 1178) (by decide +kernel)⟩
theorem lw_p68 : lw_okq (⟨"SnowRoadModel", "tellsHour", "(JII)J"⟩, 35) := ⟨⟨by decide +kernel, by decide +kernel⟩, List.mem_of_getElem? (i := 668) (by decide +kernel), List.mem_of_getElem? (i := 1181) (by decide +kernel), List.mem_of_getElem? (i := 1182) (by decide +kernel)⟩
theorem lw_p69 : lw_okq (⟨"SnowRoadModel", "tellsBus", "(JI)J"⟩, 35) := ⟨⟨by decide +kernel, by decide +kernel⟩, List.mem_of_getElem? (i := 668) (by decide +kernel), List.mem_of_getElem? (i := 1185) (by decide +kernel), List.mem_of_getElem? (i := 1186) (by decide +kernel)⟩
def lw_privs_5 : List (MethodName × Nat) := [(⟨"SnowRoadModel", "chanceOf", "(III)J"⟩, 35), (⟨"SnowRoadModel", "wintersOf", "(III)I"⟩, 35), (⟨"SnowRoadModel", "lot", "(I)I"⟩, 35), (⟨"SnowRoadModel", "tellsPlough", "(JI)J"⟩, 35), (⟨"SnowRoadModel", "tellsHour", "(JII)J"⟩, 35), (⟨"SnowRoadModel", "tellsBus", "(JI)J"⟩, 35)]
theorem lw_r5 : ∀ q ∈ lw_privs_5, lw_okq q := List.forall_mem_cons.mpr ⟨lw_p64, List.forall_mem_cons.mpr ⟨lw_p65, List.forall_mem_cons.mpr ⟨lw_p66, List.forall_mem_cons.mpr ⟨lw_p67, List.forall_mem_cons.mpr ⟨lw_p68, List.forall_mem_cons.mpr ⟨lw_p69, fun _ h => absurd h List.not_mem_nil⟩⟩⟩⟩⟩⟩
def lw_privs : List (MethodName × Nat) := lw_privs_1 ++ (lw_privs_2 ++ (lw_privs_3 ++ (lw_privs_4 ++ (lw_privs_5))))
def lw_tbl : List Cond := k2_sels lw_privs ++ tables_1
theorem lw_privs_ok : ∀ q ∈ lw_privs, lw_okq q := by
  show ∀ q ∈ lw_privs_1 ++ (lw_privs_2 ++ (lw_privs_3 ++ (lw_privs_4 ++ (lw_privs_5)))), lw_okq q
  exact List.forall_mem_append.mpr ⟨lw_r1, List.forall_mem_append.mpr ⟨lw_r2, List.forall_mem_append.mpr ⟨lw_r3, List.forall_mem_append.mpr ⟨lw_r4, lw_r5⟩⟩⟩⟩
end
section
/-! LAYER Z: one flat memory (cell, slot), no heap in sight: own rows over the kit's -/
abbrev Mem : Type := Nat → Nat → Int32
def upm (M : Mem) (k i : Nat) (v : Int32) : Mem := fun a => if a = k then upd (M k) i v else M a
def upr (M : Mem) (k : Nat) (f : Nat → Int32) : Mem := fun a => if a = k then f else M a
abbrev ZW : Type := va_G × List vw_C × List (ClassId × FieldType) × (Mem → va_W) × Nat
def zz_tab (j : Nat) : Int32 := if j = 0 then 0 else if j = 1 then 5 else 14
/-- the one table that is read behind the constructors -/
def Zst (w : ZW) (A : Nat → Prop) (U : State) (H : Heap) : Prop := va_Z "SnowRoad" "DIGEST_PLOUGH_HOURS" "[I" (.ref w.2.2.2.2) A U H ∧ va_T .int w.2.2.2.2 3 (fun j => .int (zz_tab j)) A U H
abbrev ZX : Type := Program × Launch × Env × Room × State × MethodId × Array Value × List Frame × Method × Code × (Nat → Prop) × (State → Prop)
def zt : List Cond := lw_tbl.filter goodWord
theorem zz_good : ∀ q ∈ zt, goodWord q = true := fun _ h => (List.mem_filter.mp h).2
theorem zt_mem {q : Cond} (i : Nat) (h : tables_1[i]? = some q) (hg : goodWord q = true) : q ∈ zt := List.mem_filter.mpr ⟨List.mem_append_right _ (List.mem_of_getElem? h), hg⟩
theorem zt_sel {q : Cond} (i : Nat) (h : (k2_sels lw_privs)[i]? = some q) (hg : goodWord q = true) : q ∈ zt := List.mem_filter.mpr ⟨List.mem_append_left _ (List.mem_of_getElem? h), hg⟩
def Zj (X : ZX) (nL : Nat) (w : ZW) (M : Mem) (pc : Nat) (lv : List (Nat × Value)) (st : List Value) : Prop :=
  match X with
  | (p, l, e, R, s, m, args, below, meth, c, A, Q) => ∀ (H : Heap) (locs : List Loc) (ls : Array Slot), lv_has ls nL lv → va_P w.1 w.2.1 (w.2.2.2.1 M) H → va_S A s.heap H locs → W p l e R s m args below meth c H locs 0 0 Q (F0 m pc ls st)
def Zc (X : ZX) (cc : ByteArray) (own : String) (nL : Nat) (rm : Room) (w : ZW) : Prop :=
  match X with
  | (p, l, e, R, s, m, args, below, meth, c, A, Q) => p.tables.exec = Jvm.exec ∧ c.code = cc ∧ c.maxLocals = nL ∧ s.vm.findClass own = some m.cls ∧ (∀ q ∈ zt, q.before args s = true) ∧ va_K w.1 w.2.1 w.2.2.1 s ∧ (∀ M, va_D A (w.2.2.2.1 M)) ∧ (∀ q, s.heap.size ≤ q → A q) ∧ meth.locks = false ∧ R = rm ∧ Zst w A s s.heap
section ZR
variable {X : ZX} {cc : ByteArray} {own : String} {nL : Nat} {rm : Room} {w : ZW} {M : Mem} {pc : Nat} {lv : List (Nat × Value)} {st : List Value}
theorem z_iconst (C : Zc X cc own nL rm w) {n : Int} {v : Int32} (hd : decode cc pc = .ok (.iconst n, 1)) (hv : Int32.ofInt n = v) (kk : Zj X nL w M (pc + 1) lv (.int v :: st)) : Zj X nL w M pc lv st := by
  obtain ⟨p, l, e, R, s, m, args, below, meth, c, A, Q⟩ := X
  obtain ⟨hx, hb, -⟩ := C
  exact fun H locs ls hl hP hS => lv_iconst hx hb hd hv (kk H locs ls hl hP hS)
theorem z_bipush (C : Zc X cc own nL rm w) {n : Int} {v : Int32} (hd : decode cc pc = .ok (.bipush n, 2)) (hv : (Int8.ofInt n).toInt32 = v) (kk : Zj X nL w M (pc + 2) lv (.int v :: st)) : Zj X nL w M pc lv st := by
  obtain ⟨p, l, e, R, s, m, args, below, meth, c, A, Q⟩ := X
  obtain ⟨hx, hb, -⟩ := C
  exact fun H locs ls hl hP hS => lv_bipush hx hb hd hv (kk H locs ls hl hP hS)
theorem z_sipush (C : Zc X cc own nL rm w) {n : Int} {v : Int32} (hd : decode cc pc = .ok (.sipush n, 3)) (hv : (Int16.ofInt n).toInt32 = v) (kk : Zj X nL w M (pc + 3) lv (.int v :: st)) : Zj X nL w M pc lv st := by
  obtain ⟨p, l, e, R, s, m, args, below, meth, c, A, Q⟩ := X
  obtain ⟨hx, hb, -⟩ := C
  exact fun H locs ls hl hP hS => lv_sipush hx hb hd hv (kk H locs ls hl hP hS)
theorem z_lconst (C : Zc X cc own nL rm w) {n : Fin 2} {v : Int64} (hd : decode cc pc = .ok (.lconst n, 1)) (hv : Int64.ofNat (n : Nat) = v) (kk : Zj X nL w M (pc + 1) lv (.long v :: st)) : Zj X nL w M pc lv st := by
  obtain ⟨p, l, e, R, s, m, args, below, meth, c, A, Q⟩ := X
  obtain ⟨hx, hb, -⟩ := C
  exact fun H locs ls hl hP hS => lv_lconst hx hb hd hv (kk H locs ls hl hP hS)
theorem z_ldc (C : Zc X cc own nL rm w) {i : Nat} {v : Int32} (hd : decode cc pc = .ok (.ldc i, 2)) (hw : Cond.constant own i v ∈ zt) (kk : Zj X nL w M (pc + 2) lv (.int v :: st)) : Zj X nL w M pc lv st := by
  obtain ⟨p, l, e, R, s, m, args, below, meth, c, A, Q⟩ := X
  obtain ⟨hx, hb, -, ho, ht, -⟩ := C
  exact fun H locs ls hl hP hS => lv_ldc hx hb ho (ht _ hw) hd (kk H locs ls hl hP hS)
theorem z_ldcw (C : Zc X cc own nL rm w) {i : Nat} {v : Int32} (hd : decode cc pc = .ok (.ldc_w i, 3)) (hw : Cond.constant own i v ∈ zt) (kk : Zj X nL w M (pc + 3) lv (.int v :: st)) : Zj X nL w M pc lv st := by
  obtain ⟨p, l, e, R, s, m, args, below, meth, c, A, Q⟩ := X
  obtain ⟨hx, hb, -, ho, ht, -⟩ := C
  exact fun H locs ls hl hP hS => lv_ldcw hx hb ho (ht _ hw) hd (kk H locs ls hl hP hS)
theorem z_ldc2 (C : Zc X cc own nL rm w) {i : Nat} {v : Int64} (hd : decode cc pc = .ok (.ldc2_w i, 3)) (hw : Cond.constantLong own i v ∈ zt) (kk : Zj X nL w M (pc + 3) lv (.long v :: st)) : Zj X nL w M pc lv st := by
  obtain ⟨p, l, e, R, s, m, args, below, meth, c, A, Q⟩ := X
  obtain ⟨hx, hb, -, ho, ht, -⟩ := C
  exact fun H locs ls hl hP hS => lv_ldc2 hx hb ho (ht _ hw) hd (kk H locs ls hl hP hS)
theorem z_iload_n (C : Zc X cc own nL rm w) {k : Fin 4} {i : Nat} {x : Int32} (hd : decode cc pc = .ok (.iload_n k, 1)) (hi : (k : Nat) = i) (j : Nat) (hj : lv[j]? = some (i, .int x)) (kk : Zj X nL w M (pc + 1) lv (.int x :: st)) : Zj X nL w M pc lv st := by
  obtain ⟨p, l, e, R, s, m, args, below, meth, c, A, Q⟩ := X
  obtain ⟨hx, hb, -⟩ := C
  exact fun H locs ls hl hP hS => lv_iload_n hx hb hd hi (lv_at hl j hj) (kk H locs ls hl hP hS)
theorem z_iload (C : Zc X cc own nL rm w) {i : Nat} {x : Int32} (hd : decode cc pc = .ok (.iload i, 2)) (j : Nat) (hj : lv[j]? = some (i, .int x)) (kk : Zj X nL w M (pc + 2) lv (.int x :: st)) : Zj X nL w M pc lv st := by
  obtain ⟨p, l, e, R, s, m, args, below, meth, c, A, Q⟩ := X
  obtain ⟨hx, hb, -⟩ := C
  exact fun H locs ls hl hP hS => lv_iload hx hb hd (lv_at hl j hj) (kk H locs ls hl hP hS)
theorem z_lload_n (C : Zc X cc own nL rm w) {k : Fin 4} {i : Nat} {x : Int64} (hd : decode cc pc = .ok (.lload_n k, 1)) (hi : (k : Nat) = i) (j : Nat) (hj : lv[j]? = some (i, .long x)) (kk : Zj X nL w M (pc + 1) lv (.long x :: st)) : Zj X nL w M pc lv st := by
  obtain ⟨p, l, e, R, s, m, args, below, meth, c, A, Q⟩ := X
  obtain ⟨hx, hb, -⟩ := C
  exact fun H locs ls hl hP hS => lv_lload_n hx hb hd hi (lv_at hl j hj) (kk H locs ls hl hP hS)
theorem z_lload (C : Zc X cc own nL rm w) {i : Nat} {x : Int64} (hd : decode cc pc = .ok (.lload i, 2)) (j : Nat) (hj : lv[j]? = some (i, .long x)) (kk : Zj X nL w M (pc + 2) lv (.long x :: st)) : Zj X nL w M pc lv st := by
  obtain ⟨p, l, e, R, s, m, args, below, meth, c, A, Q⟩ := X
  obtain ⟨hx, hb, -⟩ := C
  exact fun H locs ls hl hP hS => lv_lload hx hb hd (lv_at hl j hj) (kk H locs ls hl hP hS)
theorem z_aload_n (C : Zc X cc own nL rm w) {k : Fin 4} {i : Nat} {x : Nat} (hd : decode cc pc = .ok (.aload_n k, 1)) (hi : (k : Nat) = i) (j : Nat) (hj : lv[j]? = some (i, .ref x)) (kk : Zj X nL w M (pc + 1) lv (.ref x :: st)) : Zj X nL w M pc lv st := by
  obtain ⟨p, l, e, R, s, m, args, below, meth, c, A, Q⟩ := X
  obtain ⟨hx, hb, -⟩ := C
  exact fun H locs ls hl hP hS => lv_aload_n hx hb hd hi (lv_at hl j hj) (kk H locs ls hl hP hS)
theorem z_aload (C : Zc X cc own nL rm w) {i : Nat} {x : Nat} (hd : decode cc pc = .ok (.aload i, 2)) (j : Nat) (hj : lv[j]? = some (i, .ref x)) (kk : Zj X nL w M (pc + 2) lv (.ref x :: st)) : Zj X nL w M pc lv st := by
  obtain ⟨p, l, e, R, s, m, args, below, meth, c, A, Q⟩ := X
  obtain ⟨hx, hb, -⟩ := C
  exact fun H locs ls hl hP hS => lv_aload hx hb hd (lv_at hl j hj) (kk H locs ls hl hP hS)
def z_s1 (i : Nat) (v : Value) (lv : List (Nat × Value)) : List (Nat × Value) := (i, v) :: lv.filter (fun q => !(q.1 == i) && !(q.1 + 1 == i && q.2.category == 2))
def z_s2 (i : Nat) (v : Value) (lv : List (Nat × Value)) : List (Nat × Value) := (i, v) :: lv.filter (fun q => !(q.1 == i) && (!(q.1 == i + 1) && !(q.1 + 1 == i && q.2.category == 2)))
theorem z_istore_n (C : Zc X cc own nL rm w) {k : Fin 4} {i : Nat} {x : Int32} {lv' : List (Nat × Value)} (hd : decode cc pc = .ok (.istore_n k, 1)) (hi : (k : Nat) = i) (hn : Nat.blt i nL = true) (hl' : z_s1 i (.int x) lv = lv') (kk : Zj X nL w M (pc + 1) lv' st) : Zj X nL w M pc lv (.int x :: st) := by
  obtain ⟨p, l, e, R, s, m, args, below, meth, c, A, Q⟩ := X
  obtain ⟨hx, hb, -⟩ := C
  exact fun H locs ls hl hP hS => lv_istore_n hx hb hd hi hl (Nat.le_of_ble_eq_true hn) hl' (fun ls hl => kk H locs ls hl hP hS)
theorem z_istore (C : Zc X cc own nL rm w) {i : Nat} {x : Int32} {lv' : List (Nat × Value)} (hd : decode cc pc = .ok (.istore i, 2)) (hn : Nat.blt i nL = true) (hl' : z_s1 i (.int x) lv = lv') (kk : Zj X nL w M (pc + 2) lv' st) : Zj X nL w M pc lv (.int x :: st) := by
  obtain ⟨p, l, e, R, s, m, args, below, meth, c, A, Q⟩ := X
  obtain ⟨hx, hb, -⟩ := C
  exact fun H locs ls hl hP hS => lv_istore hx hb hd hl (Nat.le_of_ble_eq_true hn) hl' (fun ls hl => kk H locs ls hl hP hS)
theorem z_lstore_n (C : Zc X cc own nL rm w) {k : Fin 4} {i : Nat} {x : Int64} {lv' : List (Nat × Value)} (hd : decode cc pc = .ok (.lstore_n k, 1)) (hi : (k : Nat) = i) (hn : Nat.blt (i + 1) nL = true) (hl' : z_s2 i (.long x) lv = lv') (kk : Zj X nL w M (pc + 1) lv' st) : Zj X nL w M pc lv (.long x :: st) := by
  obtain ⟨p, l, e, R, s, m, args, below, meth, c, A, Q⟩ := X
  obtain ⟨hx, hb, -⟩ := C
  exact fun H locs ls hl hP hS => lv_lstore_n hx hb hd hi hl (Nat.le_of_ble_eq_true hn) hl' (fun ls hl => kk H locs ls hl hP hS)
theorem z_lstore (C : Zc X cc own nL rm w) {i : Nat} {x : Int64} {lv' : List (Nat × Value)} (hd : decode cc pc = .ok (.lstore i, 2)) (hn : Nat.blt (i + 1) nL = true) (hl' : z_s2 i (.long x) lv = lv') (kk : Zj X nL w M (pc + 2) lv' st) : Zj X nL w M pc lv (.long x :: st) := by
  obtain ⟨p, l, e, R, s, m, args, below, meth, c, A, Q⟩ := X
  obtain ⟨hx, hb, -⟩ := C
  exact fun H locs ls hl hP hS => lv_lstore hx hb hd hl (Nat.le_of_ble_eq_true hn) hl' (fun ls hl => kk H locs ls hl hP hS)
theorem z_astore_n (C : Zc X cc own nL rm w) {k : Fin 4} {i : Nat} {x : Nat} {lv' : List (Nat × Value)} (hd : decode cc pc = .ok (.astore_n k, 1)) (hi : (k : Nat) = i) (hn : Nat.blt i nL = true) (hl' : z_s1 i (.ref x) lv = lv') (kk : Zj X nL w M (pc + 1) lv' st) : Zj X nL w M pc lv (.ref x :: st) := by
  obtain ⟨p, l, e, R, s, m, args, below, meth, c, A, Q⟩ := X
  obtain ⟨hx, hb, -⟩ := C
  exact fun H locs ls hl hP hS => lv_astore_n hx hb hd hi hl (Nat.le_of_ble_eq_true hn) hl' (fun ls hl => kk H locs ls hl hP hS)
theorem z_astore (C : Zc X cc own nL rm w) {i : Nat} {x : Nat} {lv' : List (Nat × Value)} (hd : decode cc pc = .ok (.astore i, 2)) (hn : Nat.blt i nL = true) (hl' : z_s1 i (.ref x) lv = lv') (kk : Zj X nL w M (pc + 2) lv' st) : Zj X nL w M pc lv (.ref x :: st) := by
  obtain ⟨p, l, e, R, s, m, args, below, meth, c, A, Q⟩ := X
  obtain ⟨hx, hb, -⟩ := C
  exact fun H locs ls hl hP hS => lv_astore hx hb hd hl (Nat.le_of_ble_eq_true hn) hl' (fun ls hl => kk H locs ls hl hP hS)
theorem z_iinc (C : Zc X cc own nL rm w) {i : Nat} {n : Int} {x v : Int32} {lv' : List (Nat × Value)} (hd : decode cc pc = .ok (.iinc i n, 3)) (j : Nat) (hj : lv[j]? = some (i, .int x)) (hv : x + Int32.ofInt n = v) (hn : Nat.blt i nL = true) (hl' : z_s1 i (.int v) lv = lv') (kk : Zj X nL w M (pc + 3) lv' st) : Zj X nL w M pc lv st := by
  obtain ⟨p, l, e, R, s, m, args, below, meth, c, A, Q⟩ := X
  obtain ⟨hx, hb, -⟩ := C
  exact fun H locs ls hl hP hS => lv_iinc hx hb hd hl hj hv (Nat.le_of_ble_eq_true hn) hl' (fun ls hl => kk H locs ls hl hP hS)
theorem z_iadd (C : Zc X cc own nL rm w) {x y : Int32} (hd : decode cc pc = .ok (.iadd, 1)) (kk : Zj X nL w M (pc + 1) lv (.int (x + y) :: st)) : Zj X nL w M pc lv (.int y :: .int x :: st) := by
  obtain ⟨p, l, e, R, s, m, args, below, meth, c, A, Q⟩ := X
  obtain ⟨hx, hb, -⟩ := C
  exact fun H locs ls hl hP hS => lv_iadd hx hb hd (kk H locs ls hl hP hS)
theorem z_isub (C : Zc X cc own nL rm w) {x y : Int32} (hd : decode cc pc = .ok (.isub, 1)) (kk : Zj X nL w M (pc + 1) lv (.int (x - y) :: st)) : Zj X nL w M pc lv (.int y :: .int x :: st) := by
  obtain ⟨p, l, e, R, s, m, args, below, meth, c, A, Q⟩ := X
  obtain ⟨hx, hb, -⟩ := C
  exact fun H locs ls hl hP hS => lv_isub hx hb hd (kk H locs ls hl hP hS)
theorem z_imul (C : Zc X cc own nL rm w) {x y : Int32} (hd : decode cc pc = .ok (.imul, 1)) (kk : Zj X nL w M (pc + 1) lv (.int (x * y) :: st)) : Zj X nL w M pc lv (.int y :: .int x :: st) := by
  obtain ⟨p, l, e, R, s, m, args, below, meth, c, A, Q⟩ := X
  obtain ⟨hx, hb, -⟩ := C
  exact fun H locs ls hl hP hS => lv_imul hx hb hd (kk H locs ls hl hP hS)
theorem z_iand (C : Zc X cc own nL rm w) {x y : Int32} (hd : decode cc pc = .ok (.iand, 1)) (kk : Zj X nL w M (pc + 1) lv (.int (x &&& y) :: st)) : Zj X nL w M pc lv (.int y :: .int x :: st) := by
  obtain ⟨p, l, e, R, s, m, args, below, meth, c, A, Q⟩ := X
  obtain ⟨hx, hb, -⟩ := C
  exact fun H locs ls hl hP hS => lv_iand hx hb hd (kk H locs ls hl hP hS)
theorem z_ior (C : Zc X cc own nL rm w) {x y : Int32} (hd : decode cc pc = .ok (.ior, 1)) (kk : Zj X nL w M (pc + 1) lv (.int (x ||| y) :: st)) : Zj X nL w M pc lv (.int y :: .int x :: st) := by
  obtain ⟨p, l, e, R, s, m, args, below, meth, c, A, Q⟩ := X
  obtain ⟨hx, hb, -⟩ := C
  exact fun H locs ls hl hP hS => lv_ior hx hb hd (kk H locs ls hl hP hS)
theorem z_ixor (C : Zc X cc own nL rm w) {x y : Int32} (hd : decode cc pc = .ok (.ixor, 1)) (kk : Zj X nL w M (pc + 1) lv (.int (x ^^^ y) :: st)) : Zj X nL w M pc lv (.int y :: .int x :: st) := by
  obtain ⟨p, l, e, R, s, m, args, below, meth, c, A, Q⟩ := X
  obtain ⟨hx, hb, -⟩ := C
  exact fun H locs ls hl hP hS => lv_ixor hx hb hd (kk H locs ls hl hP hS)
theorem z_idiv (C : Zc X cc own nL rm w) {x y : Int32} (hd : decode cc pc = .ok (.idiv, 1)) (hne : ¬ y = 0) (kk : Zj X nL w M (pc + 1) lv (.int (x / y) :: st)) : Zj X nL w M pc lv (.int y :: .int x :: st) := by
  obtain ⟨p, l, e, R, s, m, args, below, meth, c, A, Q⟩ := X
  obtain ⟨hx, hb, -⟩ := C
  exact fun H locs ls hl hP hS => lv_idiv hx hb hd hne (kk H locs ls hl hP hS)
theorem z_irem (C : Zc X cc own nL rm w) {x y : Int32} (hd : decode cc pc = .ok (.irem, 1)) (hne : ¬ y = 0) (kk : Zj X nL w M (pc + 1) lv (.int (x - x / y * y) :: st)) : Zj X nL w M pc lv (.int y :: .int x :: st) := by
  obtain ⟨p, l, e, R, s, m, args, below, meth, c, A, Q⟩ := X
  obtain ⟨hx, hb, -⟩ := C
  exact fun H locs ls hl hP hS => lv_irem hx hb hd hne (kk H locs ls hl hP hS)
theorem z_ladd (C : Zc X cc own nL rm w) {x y : Int64} (hd : decode cc pc = .ok (.ladd, 1)) (kk : Zj X nL w M (pc + 1) lv (.long (x + y) :: st)) : Zj X nL w M pc lv (.long y :: .long x :: st) := by
  obtain ⟨p, l, e, R, s, m, args, below, meth, c, A, Q⟩ := X
  obtain ⟨hx, hb, -⟩ := C
  exact fun H locs ls hl hP hS => lv_ladd hx hb hd (kk H locs ls hl hP hS)
theorem z_lsub (C : Zc X cc own nL rm w) {x y : Int64} (hd : decode cc pc = .ok (.lsub, 1)) (kk : Zj X nL w M (pc + 1) lv (.long (x - y) :: st)) : Zj X nL w M pc lv (.long y :: .long x :: st) := by
  obtain ⟨p, l, e, R, s, m, args, below, meth, c, A, Q⟩ := X
  obtain ⟨hx, hb, -⟩ := C
  exact fun H locs ls hl hP hS => lv_lsub hx hb hd (kk H locs ls hl hP hS)
theorem z_lmul (C : Zc X cc own nL rm w) {x y : Int64} (hd : decode cc pc = .ok (.lmul, 1)) (kk : Zj X nL w M (pc + 1) lv (.long (x * y) :: st)) : Zj X nL w M pc lv (.long y :: .long x :: st) := by
  obtain ⟨p, l, e, R, s, m, args, below, meth, c, A, Q⟩ := X
  obtain ⟨hx, hb, -⟩ := C
  exact fun H locs ls hl hP hS => lv_lmul hx hb hd (kk H locs ls hl hP hS)
theorem z_ldiv (C : Zc X cc own nL rm w) {x y : Int64} (hd : decode cc pc = .ok (.ldiv, 1)) (hne : ¬ y = 0) (kk : Zj X nL w M (pc + 1) lv (.long (x / y) :: st)) : Zj X nL w M pc lv (.long y :: .long x :: st) := by
  obtain ⟨p, l, e, R, s, m, args, below, meth, c, A, Q⟩ := X
  obtain ⟨hx, hb, -⟩ := C
  exact fun H locs ls hl hP hS => lv_ldiv hx hb hd hne (kk H locs ls hl hP hS)
theorem z_lrem (C : Zc X cc own nL rm w) {x y : Int64} (hd : decode cc pc = .ok (.lrem, 1)) (hne : ¬ y = 0) (kk : Zj X nL w M (pc + 1) lv (.long (x - x / y * y) :: st)) : Zj X nL w M pc lv (.long y :: .long x :: st) := by
  obtain ⟨p, l, e, R, s, m, args, below, meth, c, A, Q⟩ := X
  obtain ⟨hx, hb, -⟩ := C
  exact fun H locs ls hl hP hS => lv_lrem hx hb hd hne (kk H locs ls hl hP hS)
theorem z_ishl (C : Zc X cc own nL rm w) {x y : Int32} (hd : decode cc pc = .ok (.ishl, 1)) (kk : Zj X nL w M (pc + 1) lv (.int (x <<< (y &&& 31)) :: st)) : Zj X nL w M pc lv (.int y :: .int x :: st) := by
  obtain ⟨p, l, e, R, s, m, args, below, meth, c, A, Q⟩ := X
  obtain ⟨hx, hb, -⟩ := C
  exact fun H locs ls hl hP hS => lv_ishl hx hb hd (kk H locs ls hl hP hS)
theorem z_ishr (C : Zc X cc own nL rm w) {x y : Int32} (hd : decode cc pc = .ok (.ishr, 1)) (kk : Zj X nL w M (pc + 1) lv (.int (x >>> (y &&& 31)) :: st)) : Zj X nL w M pc lv (.int y :: .int x :: st) := by
  obtain ⟨p, l, e, R, s, m, args, below, meth, c, A, Q⟩ := X
  obtain ⟨hx, hb, -⟩ := C
  exact fun H locs ls hl hP hS => lv_ishr hx hb hd (kk H locs ls hl hP hS)
def ushr32 (x y : Int32) : Int32 := (x.toUInt32 >>> (y.toUInt32 &&& Int32.toUInt32 31)).toInt32
theorem z_iushr (C : Zc X cc own nL rm w) {x y : Int32} (hd : decode cc pc = .ok (.iushr, 1)) (kk : Zj X nL w M (pc + 1) lv (.int (ushr32 x y) :: st)) : Zj X nL w M pc lv (.int y :: .int x :: st) := by
  obtain ⟨p, l, e, R, s, m, args, below, meth, c, A, Q⟩ := X
  obtain ⟨hx, hb, -⟩ := C
  exact fun H locs ls hl hP hS => lv_iushr hx hb hd rfl (kk H locs ls hl hP hS)
theorem z_lshl (C : Zc X cc own nL rm w) {x : Int64} {y : Int32} (hd : decode cc pc = .ok (.lshl, 1)) (kk : Zj X nL w M (pc + 1) lv (.long (x <<< (y.toInt64 &&& 63)) :: st)) : Zj X nL w M pc lv (.int y :: .long x :: st) := by
  obtain ⟨p, l, e, R, s, m, args, below, meth, c, A, Q⟩ := X
  obtain ⟨hx, hb, -⟩ := C
  exact fun H locs ls hl hP hS => lv_lshl hx hb hd rfl (kk H locs ls hl hP hS)
theorem z_i2l (C : Zc X cc own nL rm w) {x : Int32} (hd : decode cc pc = .ok (.i2l, 1)) (kk : Zj X nL w M (pc + 1) lv (.long x.toInt64 :: st)) : Zj X nL w M pc lv (.int x :: st) := by
  obtain ⟨p, l, e, R, s, m, args, below, meth, c, A, Q⟩ := X
  obtain ⟨hx, hb, -⟩ := C
  exact fun H locs ls hl hP hS => lv_i2l hx hb hd rfl (kk H locs ls hl hP hS)
theorem z_i2b (C : Zc X cc own nL rm w) {x : Int32} (hd : decode cc pc = .ok (.i2b, 1)) (kk : Zj X nL w M (pc + 1) lv (.int x.toInt8.toInt32 :: st)) : Zj X nL w M pc lv (.int x :: st) := by
  obtain ⟨p, l, e, R, s, m, args, below, meth, c, A, Q⟩ := X
  obtain ⟨hx, hb, -⟩ := C
  exact fun H locs ls hl hP hS => lv_i2b hx hb hd rfl (kk H locs ls hl hP hS)
theorem z_i2s (C : Zc X cc own nL rm w) {x : Int32} (hd : decode cc pc = .ok (.i2s, 1)) (kk : Zj X nL w M (pc + 1) lv (.int x.toInt16.toInt32 :: st)) : Zj X nL w M pc lv (.int x :: st) := by
  obtain ⟨p, l, e, R, s, m, args, below, meth, c, A, Q⟩ := X
  obtain ⟨hx, hb, -⟩ := C
  exact fun H locs ls hl hP hS => lv_i2s hx hb hd rfl (kk H locs ls hl hP hS)
theorem z_lcmp (C : Zc X cc own nL rm w) {x y : Int64} (hd : decode cc pc = .ok (.lcmp, 1)) (kk : Zj X nL w M (pc + 1) lv (.int (lg_cmp x y) :: st)) : Zj X nL w M pc lv (.long y :: .long x :: st) := by
  obtain ⟨p, l, e, R, s, m, args, below, meth, c, A, Q⟩ := X
  obtain ⟨hx, hb, -⟩ := C
  exact fun H locs ls hl hP hS => W.lcmp hx hb hd (kk H locs ls hl hP hS)
theorem z_dup (C : Zc X cc own nL rm w) {va : Value} (hd : decode cc pc = .ok (.dup, 1)) (hva : va.category = 1) (kk : Zj X nL w M (pc + 1) lv (va :: va :: st)) : Zj X nL w M pc lv (va :: st) := by
  obtain ⟨p, l, e, R, s, m, args, below, meth, c, A, Q⟩ := X
  obtain ⟨hx, hb, -⟩ := C
  exact fun H locs ls hl hP hS => lv_dup hx hb hd hva (kk H locs ls hl hP hS)
theorem z_pop (C : Zc X cc own nL rm w) {va : Value} (hd : decode cc pc = .ok (.pop, 1)) (hva : va.category = 1) (kk : Zj X nL w M (pc + 1) lv st) : Zj X nL w M pc lv (va :: st) := by
  obtain ⟨p, l, e, R, s, m, args, below, meth, c, A, Q⟩ := X
  obtain ⟨hx, hb, -⟩ := C
  exact fun H locs ls hl hP hS => lv_pop hx hb hd hva (kk H locs ls hl hP hS)
theorem z_dup2 (C : Zc X cc own nL rm w) {va vb : Value} (hd : decode cc pc = .ok (.dup2, 1)) (hva : va.category = 1) (hvb : vb.category = 1) (kk : Zj X nL w M (pc + 1) lv (va :: vb :: va :: vb :: st)) : Zj X nL w M pc lv (va :: vb :: st) := by
  obtain ⟨p, l, e, R, s, m, args, below, meth, c, A, Q⟩ := X
  obtain ⟨hx, hb, -⟩ := C
  exact fun H locs ls hl hP hS => lv_dup2_11 hx hb hd hva hvb (kk H locs ls hl hP hS)
theorem z_goto (C : Zc X cc own nL rm w) {off : Int} (tgt : Nat) (hd : decode cc pc = .ok (.goto off, 3)) (ht : (pc : Int) + off = (tgt : Int)) (kk : Zj X nL w M tgt lv st) : Zj X nL w M pc lv st := by
  obtain ⟨p, l, e, R, s, m, args, below, meth, c, A, Q⟩ := X
  obtain ⟨hx, hb, -⟩ := C
  exact fun H locs ls hl hP hS => lv_goto hx hb hd ht (kk H locs ls hl hP hS)
theorem z_if_eq (C : Zc X cc own nL rm w) {x : Int32} {off : Int} (tgt : Nat) (hd : decode cc pc = .ok (.ifCond .eq off, 3)) (ht : (pc : Int) + off = (tgt : Int)) (kt : x = 0 → Zj X nL w M tgt lv st) (kf : ¬ x = 0 → Zj X nL w M (pc + 3) lv st) : Zj X nL w M pc lv (.int x :: st) := by
  obtain ⟨p, l, e, R, s, m, args, below, meth, c, A, Q⟩ := X
  obtain ⟨hx, hb, -⟩ := C
  exact fun H locs ls hl hP hS => lv_if_eq hx hb hd ht (fun h => kt h H locs ls hl hP hS) (fun h => kf h H locs ls hl hP hS)
theorem z_ic_eq (C : Zc X cc own nL rm w) {x y : Int32} {off : Int} (tgt : Nat) (hd : decode cc pc = .ok (.if_icmp .eq off, 3)) (ht : (pc : Int) + off = (tgt : Int)) (kt : x = y → Zj X nL w M tgt lv st) (kf : ¬ x = y → Zj X nL w M (pc + 3) lv st) : Zj X nL w M pc lv (.int y :: .int x :: st) := by
  obtain ⟨p, l, e, R, s, m, args, below, meth, c, A, Q⟩ := X
  obtain ⟨hx, hb, -⟩ := C
  exact fun H locs ls hl hP hS => lv_icmp_eq hx hb hd ht (fun h => kt h H locs ls hl hP hS) (fun h => kf h H locs ls hl hP hS)
theorem z_if_ne (C : Zc X cc own nL rm w) {x : Int32} {off : Int} (tgt : Nat) (hd : decode cc pc = .ok (.ifCond .ne off, 3)) (ht : (pc : Int) + off = (tgt : Int)) (kt : ¬ x = 0 → Zj X nL w M tgt lv st) (kf : x = 0 → Zj X nL w M (pc + 3) lv st) : Zj X nL w M pc lv (.int x :: st) := by
  obtain ⟨p, l, e, R, s, m, args, below, meth, c, A, Q⟩ := X
  obtain ⟨hx, hb, -⟩ := C
  exact fun H locs ls hl hP hS => lv_if_ne hx hb hd ht (fun h => kt h H locs ls hl hP hS) (fun h => kf h H locs ls hl hP hS)
theorem z_ic_ne (C : Zc X cc own nL rm w) {x y : Int32} {off : Int} (tgt : Nat) (hd : decode cc pc = .ok (.if_icmp .ne off, 3)) (ht : (pc : Int) + off = (tgt : Int)) (kt : ¬ x = y → Zj X nL w M tgt lv st) (kf : x = y → Zj X nL w M (pc + 3) lv st) : Zj X nL w M pc lv (.int y :: .int x :: st) := by
  obtain ⟨p, l, e, R, s, m, args, below, meth, c, A, Q⟩ := X
  obtain ⟨hx, hb, -⟩ := C
  exact fun H locs ls hl hP hS => lv_icmp_ne hx hb hd ht (fun h => kt h H locs ls hl hP hS) (fun h => kf h H locs ls hl hP hS)
theorem z_if_lt (C : Zc X cc own nL rm w) {x : Int32} {off : Int} (tgt : Nat) (hd : decode cc pc = .ok (.ifCond .lt off, 3)) (ht : (pc : Int) + off = (tgt : Int)) (kt : x < 0 → Zj X nL w M tgt lv st) (kf : ¬ x < 0 → Zj X nL w M (pc + 3) lv st) : Zj X nL w M pc lv (.int x :: st) := by
  obtain ⟨p, l, e, R, s, m, args, below, meth, c, A, Q⟩ := X
  obtain ⟨hx, hb, -⟩ := C
  exact fun H locs ls hl hP hS => lv_if_lt hx hb hd ht (fun h => kt h H locs ls hl hP hS) (fun h => kf h H locs ls hl hP hS)
theorem z_ic_lt (C : Zc X cc own nL rm w) {x y : Int32} {off : Int} (tgt : Nat) (hd : decode cc pc = .ok (.if_icmp .lt off, 3)) (ht : (pc : Int) + off = (tgt : Int)) (kt : x < y → Zj X nL w M tgt lv st) (kf : ¬ x < y → Zj X nL w M (pc + 3) lv st) : Zj X nL w M pc lv (.int y :: .int x :: st) := by
  obtain ⟨p, l, e, R, s, m, args, below, meth, c, A, Q⟩ := X
  obtain ⟨hx, hb, -⟩ := C
  exact fun H locs ls hl hP hS => lv_icmp_lt hx hb hd ht (fun h => kt h H locs ls hl hP hS) (fun h => kf h H locs ls hl hP hS)
theorem z_if_ge (C : Zc X cc own nL rm w) {x : Int32} {off : Int} (tgt : Nat) (hd : decode cc pc = .ok (.ifCond .ge off, 3)) (ht : (pc : Int) + off = (tgt : Int)) (kt : 0 ≤ x → Zj X nL w M tgt lv st) (kf : ¬ 0 ≤ x → Zj X nL w M (pc + 3) lv st) : Zj X nL w M pc lv (.int x :: st) := by
  obtain ⟨p, l, e, R, s, m, args, below, meth, c, A, Q⟩ := X
  obtain ⟨hx, hb, -⟩ := C
  exact fun H locs ls hl hP hS => lv_if_ge hx hb hd ht (fun h => kt h H locs ls hl hP hS) (fun h => kf h H locs ls hl hP hS)
theorem z_ic_ge (C : Zc X cc own nL rm w) {x y : Int32} {off : Int} (tgt : Nat) (hd : decode cc pc = .ok (.if_icmp .ge off, 3)) (ht : (pc : Int) + off = (tgt : Int)) (kt : y ≤ x → Zj X nL w M tgt lv st) (kf : ¬ y ≤ x → Zj X nL w M (pc + 3) lv st) : Zj X nL w M pc lv (.int y :: .int x :: st) := by
  obtain ⟨p, l, e, R, s, m, args, below, meth, c, A, Q⟩ := X
  obtain ⟨hx, hb, -⟩ := C
  exact fun H locs ls hl hP hS => lv_icmp_ge hx hb hd ht (fun h => kt h H locs ls hl hP hS) (fun h => kf h H locs ls hl hP hS)
theorem z_if_gt (C : Zc X cc own nL rm w) {x : Int32} {off : Int} (tgt : Nat) (hd : decode cc pc = .ok (.ifCond .gt off, 3)) (ht : (pc : Int) + off = (tgt : Int)) (kt : 0 < x → Zj X nL w M tgt lv st) (kf : ¬ 0 < x → Zj X nL w M (pc + 3) lv st) : Zj X nL w M pc lv (.int x :: st) := by
  obtain ⟨p, l, e, R, s, m, args, below, meth, c, A, Q⟩ := X
  obtain ⟨hx, hb, -⟩ := C
  exact fun H locs ls hl hP hS => lv_if_gt hx hb hd ht (fun h => kt h H locs ls hl hP hS) (fun h => kf h H locs ls hl hP hS)
theorem z_ic_gt (C : Zc X cc own nL rm w) {x y : Int32} {off : Int} (tgt : Nat) (hd : decode cc pc = .ok (.if_icmp .gt off, 3)) (ht : (pc : Int) + off = (tgt : Int)) (kt : y < x → Zj X nL w M tgt lv st) (kf : ¬ y < x → Zj X nL w M (pc + 3) lv st) : Zj X nL w M pc lv (.int y :: .int x :: st) := by
  obtain ⟨p, l, e, R, s, m, args, below, meth, c, A, Q⟩ := X
  obtain ⟨hx, hb, -⟩ := C
  exact fun H locs ls hl hP hS => lv_icmp_gt hx hb hd ht (fun h => kt h H locs ls hl hP hS) (fun h => kf h H locs ls hl hP hS)
theorem z_if_le (C : Zc X cc own nL rm w) {x : Int32} {off : Int} (tgt : Nat) (hd : decode cc pc = .ok (.ifCond .le off, 3)) (ht : (pc : Int) + off = (tgt : Int)) (kt : x ≤ 0 → Zj X nL w M tgt lv st) (kf : ¬ x ≤ 0 → Zj X nL w M (pc + 3) lv st) : Zj X nL w M pc lv (.int x :: st) := by
  obtain ⟨p, l, e, R, s, m, args, below, meth, c, A, Q⟩ := X
  obtain ⟨hx, hb, -⟩ := C
  exact fun H locs ls hl hP hS => lv_if_le hx hb hd ht (fun h => kt h H locs ls hl hP hS) (fun h => kf h H locs ls hl hP hS)
theorem z_ic_le (C : Zc X cc own nL rm w) {x y : Int32} {off : Int} (tgt : Nat) (hd : decode cc pc = .ok (.if_icmp .le off, 3)) (ht : (pc : Int) + off = (tgt : Int)) (kt : x ≤ y → Zj X nL w M tgt lv st) (kf : ¬ x ≤ y → Zj X nL w M (pc + 3) lv st) : Zj X nL w M pc lv (.int y :: .int x :: st) := by
  obtain ⟨p, l, e, R, s, m, args, below, meth, c, A, Q⟩ := X
  obtain ⟨hx, hb, -⟩ := C
  exact fun H locs ls hl hP hS => lv_icmp_le hx hb hd ht (fun h => kt h H locs ls hl hP hS) (fun h => kf h H locs ls hl hP hS)
/-- fewer or other locals, by places -/
theorem z_sub (ks : List Nat) {lv' : List (Nat × Value)} (h : lv_pick lv ks = lv') (kk : Zj X nL w M pc lv' st) : Zj X nL w M pc lv st := by
  obtain ⟨p, l, e, R, s, m, args, below, meth, c, A, Q⟩ := X
  exact fun H locs ls hl hP hS => kk H locs ls (lv_sub hl ks h) hP hS
/-- a switch by a table from 0 on -/
theorem z_table (C : Zc X cc own nL rm w) {x : Int32} {dflt hi : Int} {offs : Array Int} {len : Nat} (tgts : List Nat) (td : Nat) (hd : decode cc pc = .ok (.tableswitch dflt 0 hi offs, len)) (ho : offs.toList = tgts.map (fun t : Nat => (t : Int) - (pc : Int))) (hh : hi = (tgts.length : Int) - 1) (hq : dflt = (td : Int) - (pc : Int)) (hn : tgts.length < 1000)
    (kin : ∀ (k t : Nat), tgts[k]? = some t → x = nI k → Zj X nL w M t lv st) (kout : (∀ k, k < tgts.length → ¬ x = nI k) → Zj X nL w M td lv st) : Zj X nL w M pc lv (.int x :: st) := by
  by_cases h : 0 ≤ x.toInt ∧ x.toInt < (tgts.length : Int)
  · have hk : x = nI x.toInt.toNat := by
      apply Int32.toInt_inj.mp
      rw [nI_toInt (by omega)]
      omega
    have hlt : x.toInt.toNat < tgts.length := by omega
    have h1 : tgts[x.toInt.toNat]? = some tgts[x.toInt.toNat] := List.getElem?_eq_getElem hlt
    have kk := kin _ _ h1 hk
    obtain ⟨p, l, e, R, s, m, args, below, meth, c, A, Q⟩ := X
    obtain ⟨hx, hb, -⟩ := C
    refine fun H locs ls hl hP hS => lv_tableIn (tgt := tgts[x.toInt.toNat]) (off := (tgts[x.toInt.toNat] : Int) - (pc : Int)) hx hb hd (by omega) (by omega) ?_ (by omega) (kk H locs ls hl hP hS)
    rw [← Array.getElem?_toList, ho, List.getElem?_map, show (x.toInt - 0).toNat = x.toInt.toNat by omega, h1]
    rfl
  · have kk := kout (fun k hk e => h (by rw [e, nI_toInt (by omega)]; omega))
    obtain ⟨p, l, e, R, s, m, args, below, meth, c, A, Q⟩ := X
    obtain ⟨hx, hb, -⟩ := C
    exact fun H locs ls hl hP hS => lv_tableOut (tgt := td) hx hb hd (by omega) (by omega) (kk H locs ls hl hP hS)
/-! the heap's rows -/
theorem z_get (C : Zc X cc own nL rm w) {ref Cn : String} {T : u_T} {N ci index a : Nat} (hin : ∀ q ∈ u_ws Cn T N, q ∈ zt) (q0 : Nat) {fs : List Value} (he : (w.2.2.2.1 M)[q0]? = some (a, .inr (ci, fs))) (hc : w.2.1[ci]? = some (Cn, T, N)) (k : Nat) (hk : Nat.blt k N = true) (hlink : Cond.fieldLink own index ref (T k).2.1 (T k).2.2.1 ∈ zt) (href : (T k).1 = ref) {v : Value} (hv : fs[k]? = some v) (hd : decode cc pc = .ok (.getfield index, 3))
    (kk : Zj X nL w M (pc + 3) lv (v :: st)) : Zj X nL w M pc lv (.ref a :: st) := by
  obtain ⟨p, l, e, R, s, m, args, below, meth, c, A, Q⟩ := X
  obtain ⟨hx, hb, hml, ho, ht, hK, hDa, hA, -⟩ := C
  subst href
  exact fun H locs ls hl hP hS => va_get hx hb ht hin ho hK hP q0 he hc k (Nat.le_of_ble_eq_true hk) (ht _ hlink) (fun _ h => h) hv hd (kk H locs ls hl hP hS)
theorem z_put (C : Zc X cc own nL rm w) {ref Cn : String} {T : u_T} {N ci index a : Nat} (hin : ∀ q ∈ u_ws Cn T N, q ∈ zt) (ty0 : Nat → FieldType) (hty : ∀ k, k < N → parseFieldDescriptor (T k).2.2.1 = some (ty0 k)) (hnm : ∀ a, a < N → ∀ b, b < N → a ≠ b → (T a).2.1 ≠ (T b).2.1) (q0 : Nat) {fs : List Value} (he : (w.2.2.2.1 M)[q0]? = some (a, .inr (ci, fs))) (hc : w.2.1[ci]? = some (Cn, T, N)) (k : Nat) (hk : Nat.blt k N = true) (hlink : Cond.fieldLink own index ref (T k).2.1 (T k).2.2.1 ∈ zt) (href : (T k).1 = ref) (hfin : (T k).2.2.2 = false) {ty : FieldType} {v : Value} (hty1 : parseFieldDescriptor (T k).2.2.1 = some ty) (hn : narrow ty v = v) (hfit : fits ty v = true) (hl0 : k < fs.length) (hd : decode cc pc = .ok (.putfield index, 3))
    {M2 : Mem} (hset : (w.2.2.2.1 M).set q0 (a, .inr (ci, fs.set k v)) = w.2.2.2.1 M2) (kk : Zj X nL w M2 (pc + 3) lv st) : Zj X nL w M pc lv (v :: .ref a :: st) := by
  obtain ⟨p, l, e, R, s, m, args, below, meth, c, A, Q⟩ := X
  obtain ⟨hx, hb, hml, ho, ht, hK, hDa, hA, -⟩ := C
  subst href
  exact fun H locs ls hl hP hS => va_put hx hb ht hin ty0 hty hnm ho hK hP (hDa M) hS q0 he hc k (Nat.le_of_ble_eq_true hk) (ht _ hlink) (fun _ h => h) hfin hty1 hn hfit hl0 hd (fun H locs hP hD hS => kk H locs ls hl (hset ▸ hP) hS)
theorem z_iald (C : Zc X cc own nL rm w) (q0 t0 : Nat) {a n : Nat} {cA : ClassId} {f : Nat → Int32} (ha : (w.2.2.2.1 M)[q0]? = some (a, .inl (cA, n, .inl f))) (ht : w.2.2.1[t0]? = some (cA, .int)) {i : Int32} (hi : vp_in i n) (hd : decode cc pc = .ok (.iaload, 1))
    (kk : Zj X nL w M (pc + 1) lv (.int (f i.toNatClampNeg) :: st)) : Zj X nL w M pc lv (.int i :: .ref a :: st) := by
  obtain ⟨p, l, e, R, s, m, args, below, meth, c, A, Q⟩ := X
  obtain ⟨hx, hb, hml, ho, -, hK, hDa, hA, -⟩ := C
  exact fun H locs ls hl hP hS => va_iald hx hb hK hP q0 t0 ha ht hi hd (kk H locs ls hl hP hS)
theorem z_iast (C : Zc X cc own nL rm w) (q0 t0 : Nat) {a n : Nat} {cA : ClassId} {f : Nat → Int32} (ha : (w.2.2.2.1 M)[q0]? = some (a, .inl (cA, n, .inl f))) (ht : w.2.2.1[t0]? = some (cA, .int)) {i x : Int32} (hi : vp_in i n) (hd : decode cc pc = .ok (.iastore, 1))
    {M2 : Mem} (hset : (w.2.2.2.1 M).set q0 (a, .inl (cA, n, .inl (upd f i.toNatClampNeg x))) = w.2.2.2.1 M2) (kk : Zj X nL w M2 (pc + 1) lv st) : Zj X nL w M pc lv (.int x :: .int i :: .ref a :: st) := by
  obtain ⟨p, l, e, R, s, m, args, below, meth, c, A, Q⟩ := X
  obtain ⟨hx, hb, hml, ho, -, hK, hDa, hA, -⟩ := C
  exact fun H locs ls hl hP hS => va_iast hx hb hK hP (hDa M) hS q0 t0 ha ht hi hd (fun H locs hP hD hS => kk H locs ls hl (hset ▸ hP) hS)
theorem z_alen (C : Zc X cc own nL rm w) (q0 t0 : Nat) {a : Nat} {cA : ClassId} {x : vp_A} {ty : FieldType} (ha : (w.2.2.2.1 M)[q0]? = some (a, .inl (cA, x))) (ht : w.2.2.1[t0]? = some (cA, ty)) {v : Int32} (hv : Int32.ofNat x.1 = v) (hd : decode cc pc = .ok (.arraylength, 1))
    (kk : Zj X nL w M (pc + 1) lv (.int v :: st)) : Zj X nL w M pc lv (.ref a :: st) := by
  obtain ⟨p, l, e, R, s, m, args, below, meth, c, A, Q⟩ := X
  obtain ⟨hx, hb, hml, ho, -, hK, hDa, hA, -⟩ := C
  exact fun H locs ls hl hP hS => va_alen hx hb hK hP q0 t0 ha ht hv hd (kk H locs ls hl hP hS)
theorem z_aald (C : Zc X cc own nL rm w) (q0 t0 : Nat) {a n : Nat} {cA : ClassId} {Cn : String} {f : Nat → Option Nat} (ha : (w.2.2.2.1 M)[q0]? = some (a, .inl (cA, n, .inr (.inr (.inr (.inr f)))))) (ht : w.2.2.1[t0]? = some (cA, .object Cn)) {i : Int32} (hi : vp_in i n) {v : Value} (hv : va_rf (f i.toNatClampNeg) = v) (hd : decode cc pc = .ok (.aaload, 1))
    (kk : Zj X nL w M (pc + 1) lv (v :: st)) : Zj X nL w M pc lv (.int i :: .ref a :: st) := by
  obtain ⟨p, l, e, R, s, m, args, below, meth, c, A, Q⟩ := X
  obtain ⟨hx, hb, hml, ho, -, hK, hDa, hA, -⟩ := C
  exact fun H locs ls hl hP hS => va_aldq hx hb hK hP q0 t0 ha ht hi hd (hv ▸ kk H locs ls hl hP hS)
theorem z_copy (C : Zc X cc own nL rm w) {index : Nat} (hlink : Cond.methodLink own index arraycopyName ∈ zt) (hnat : Cond.native arraycopyName ∈ zt) (hstat : Cond.static arraycopyName ∈ zt) (hini : Cond.initialized "java/lang/System" ∈ zt) (q0 q1 t0 : Nat) {a0 a n0 n1 : Nat} {c0 : ClassId} {f g : Nat → Int32} (ha0 : (w.2.2.2.1 M)[q0]? = some (a0, .inl (c0, n0, .inl f))) (ha1 : (w.2.2.2.1 M)[q1]? = some (a, .inl (c0, n1, .inl g))) (ht : w.2.2.1[t0]? = some (c0, .int))
    {sp dp n : Int32} (h1 : ¬ sp < 0) (h2 : ¬ dp < 0) (h3 : ¬ n < 0) (h4 : sp.toNatClampNeg + n.toNatClampNeg ≤ n0) (h5 : dp.toNatClampNeg + n.toNatClampNeg ≤ n1) (hfr : 1 ≤ rm.frames) (hlo : (st.map fun v => v.category).sum + (nativeFrameWords "java/lang/System" "arraycopy" 5 + 11) ≤ rm.locals) (hd : decode cc pc = .ok (.invokestatic index, 3))
    {M2 : Mem} (hset : (w.2.2.2.1 M).set q1 (a, .inl (c0, n1, .inl (va_cpy f g sp.toNatClampNeg dp.toNatClampNeg n.toNatClampNeg))) = w.2.2.2.1 M2) (kk : Zj X nL w M2 (pc + 3) lv st) : Zj X nL w M pc lv (.int n :: .int dp :: .ref a :: .int sp :: .ref a0 :: st) := by
  obtain ⟨p, l, e, R, s, m, args, below, meth, c, A, Q⟩ := X
  obtain ⟨hx, hb, hml, ho, htb, hK, hDa, hA, -, hR, -⟩ := C
  subst hR
  exact fun H locs ls hl hP hS => va_copyi hx hb (hml.trans hl.1.symm) ho (htb _ hlink) (htb _ hnat) (htb _ hstat) (htb _ hini) hK hP (hDa M) hS q0 q1 t0 t0 ha0 ha1 ht ht rfl h1 h2 h3 h4 h5 (fun _ _ => rfl) hfr hlo hd (fun H locs hP hD hS => kk H locs ls hl (hset ▸ hP) hS)
/-! returns -/
def Zat (w : ZW) (A : Nat → Prop) (M : Mem) (t : State) : Prop := va_P w.1 w.2.1 (w.2.2.2.1 M) t.heap ∧ va_K w.1 w.2.1 w.2.2.1 t ∧ va_D A (w.2.2.2.1 M)
def Zri (X : ZX) (w : ZW) (ret : Option FieldType) (post : Int32 → Mem → Prop) : Prop := match X with
  | (p, l, e, R, s, m, args, below, meth, c, A, Q) => meth.sig.returnType = ret ∧ Q = MQ below (va_Qi post (Zat w A) A) args s 0 0 A
def Zrl (X : ZX) (w : ZW) (post : Int64 → Mem → Prop) : Prop := match X with
  | (p, l, e, R, s, m, args, below, meth, c, A, Q) => meth.sig.returnType = some .long ∧ Q = MQ below (va_Ql post (Zat w A) A) args s 0 0 A
def Zrv (X : ZX) (w : ZW) (post : Mem → Prop) : Prop := match X with
  | (p, l, e, R, s, m, args, below, meth, c, A, Q) => meth.sig.returnType = none ∧ Q = MQ below (va_Qv post (Zat w A) A) args s 0 0 A
def Zrr (X : ZX) (w : ZW) (ret : Option FieldType) (post : Mem → Prop) (ra : Nat) : Prop := match X with
  | (p, l, e, R, s, m, args, below, meth, c, A, Q) => meth.sig.returnType = ret ∧ Q = MQ below (va_Qr post (fun u a t => a = ra ∧ Zat w A u t) A) args s 0 0 A
theorem z_iret (C : Zc X cc own nL rm w) {post : Int32 → Mem → Prop} (hr : Zri X w (some .int) post) {v : Int32} (hp : post v M) (hd : decode cc pc = .ok (.ireturn, 1)) : Zj X nL w M pc lv [.int v] := by
  obtain ⟨p, l, e, R, s, m, args, below, meth, c, A, Q⟩ := X
  obtain ⟨hx, hb, hml, ho, htb, hK, hDa, hA, hlk, hR, -⟩ := C
  obtain ⟨hr, rfl⟩ := hr
  exact fun H locs ls hl hP hS => W.iret hx hb hr (fun t ht hW => ⟨⟨v, M, rfl, hp, by rw [ht]; exact hP, va_K.moved hW.alike hK, hDa M⟩, hS.F ht⟩) hS.2.2 hd hlk
theorem z_zret (C : Zc X cc own nL rm w) {post : Int32 → Mem → Prop} (hr : Zri X w (some .boolean) post) {v : Int32} (hv : v = 0 ∨ v = 1) (hp : post v M) (hd : decode cc pc = .ok (.ireturn, 1)) : Zj X nL w M pc lv [.int v] := by
  obtain ⟨p, l, e, R, s, m, args, below, meth, c, A, Q⟩ := X
  obtain ⟨hx, hb, hml, ho, htb, hK, hDa, hA, hlk, hR, -⟩ := C
  obtain ⟨hr, rfl⟩ := hr
  have hn : narrow .boolean (.int v) = .int v := by rcases hv with rfl | rfl <;> rfl
  exact fun H locs ls hl hP hS => W.zret hx hb hr hn (fun t ht hW => ⟨⟨v, M, rfl, hp, by rw [ht]; exact hP, va_K.moved hW.alike hK, hDa M⟩, hS.F ht⟩) hS.2.2 hd hlk
theorem z_lret (C : Zc X cc own nL rm w) {post : Int64 → Mem → Prop} (hr : Zrl X w post) {v : Int64} (hp : post v M) (hd : decode cc pc = .ok (.lreturn, 1)) : Zj X nL w M pc lv [.long v] := by
  obtain ⟨p, l, e, R, s, m, args, below, meth, c, A, Q⟩ := X
  obtain ⟨hx, hb, hml, ho, htb, hK, hDa, hA, hlk, hR, -⟩ := C
  obtain ⟨hr, rfl⟩ := hr
  exact fun H locs ls hl hP hS => W.lret hx hb hr (fun t ht hW => ⟨⟨v, M, rfl, hp, by rw [ht]; exact hP, va_K.moved hW.alike hK, hDa M⟩, hS.F ht⟩) hS.2.2 hd hlk
theorem z_vret (C : Zc X cc own nL rm w) {post : Mem → Prop} (hr : Zrv X w post) (hp : post M) (hd : decode cc pc = .ok (.return_, 1)) : Zj X nL w M pc lv [] := by
  obtain ⟨p, l, e, R, s, m, args, below, meth, c, A, Q⟩ := X
  obtain ⟨hx, hb, hml, ho, htb, hK, hDa, hA, hlk, hR, -⟩ := C
  obtain ⟨hr, rfl⟩ := hr
  exact fun H locs ls hl hP hS => W.vret hx hb hr (fun t ht hW => ⟨⟨M, rfl, hp, by rw [ht]; exact hP, va_K.moved hW.alike hK, hDa M⟩, hS.F ht⟩) hS.2.2 hd hlk
end ZR
end
section
/-! calls and contracts -/
def zws (y : MethodName) (cy : ByteArray) (ml : Nat) (rt : Option FieldType) : List Cond := .code y cy ml rt :: zt
def Zpre (w : ZW) (av : List Value) (M : Mem) (sz : Nat) : Array Value → State → Prop := va_Pc av (fun U => U.heap.size = sz ∧ va_P w.1 w.2.1 (w.2.2.2.1 M) U.heap ∧ va_K w.1 w.2.1 w.2.2.1 U ∧ va_D (fun _ => True) (w.2.2.2.1 M) ∧ Zst w (va_A (w.2.2.2.1 M) sz) U U.heap)
/-- the addresses of a world don't hang on what its cells hold -/
def Zok (w : ZW) : Prop := ∀ (M M' : Mem) (k : Nat), ((w.2.2.2.1 M)[k]?).map Prod.fst = ((w.2.2.2.1 M')[k]?).map Prod.fst
def CtI (w : ZW) (y : MethodName) (cy : ByteArray) (ml : Nat) (rt : Option FieldType) (rmy : Room) (av : List Value) (M : Mem) (post : Int32 → Mem → Prop) : Prop := ∀ (l : Launch) (sz : Nat), Met l y (zws y cy ml rt) rmy (Zpre w av M sz) (va_Qi post (Zat w (va_A (w.2.2.2.1 M) sz)) (va_A (w.2.2.2.1 M) sz)) 0 0 (va_A (w.2.2.2.1 M) sz)
def CtL (w : ZW) (y : MethodName) (cy : ByteArray) (ml : Nat) (rt : Option FieldType) (rmy : Room) (av : List Value) (M : Mem) (post : Int64 → Mem → Prop) : Prop := ∀ (l : Launch) (sz : Nat), Met l y (zws y cy ml rt) rmy (Zpre w av M sz) (va_Ql post (Zat w (va_A (w.2.2.2.1 M) sz)) (va_A (w.2.2.2.1 M) sz)) 0 0 (va_A (w.2.2.2.1 M) sz)
def CtV (w : ZW) (y : MethodName) (cy : ByteArray) (ml : Nat) (rt : Option FieldType) (rmy : Room) (av : List Value) (M : Mem) (post : Mem → Prop) : Prop := ∀ (l : Launch) (sz : Nat), Met l y (zws y cy ml rt) rmy (Zpre w av M sz) (va_Qv post (Zat w (va_A (w.2.2.2.1 M) sz)) (va_A (w.2.2.2.1 M) sz)) 0 0 (va_A (w.2.2.2.1 M) sz)
def CtR (w : ZW) (y : MethodName) (cy : ByteArray) (ml : Nat) (rt : Option FieldType) (rmy : Room) (av : List Value) (M : Mem) (post : Mem → Prop) (ra : Nat) : Prop := ∀ (l : Launch) (sz : Nat), Met l y (zws y cy ml rt) rmy (Zpre w av M sz) (va_Qr post (fun u a t => a = ra ∧ Zat w (va_A (w.2.2.2.1 M) sz) u t) (va_A (w.2.2.2.1 M) sz)) 0 0 (va_A (w.2.2.2.1 M) sz)
/-- what the tables say of a method, virtual (v = true) or static -/
def Zm (v : Bool) (y : MethodName) (cy : ByteArray) (ml : Nat) (rt : Option FieldType) (n : Nat) (rmy : Room) : Prop :=
  Cond.code y cy ml rt ∈ zt ∧ Cond.initialized y.cls ∈ zt ∧ (v = true → Cond.instanceMethod y ∈ zt ∧ Cond.selects y.cls y y ∈ zt) ∧ (v = false → Cond.static y ∈ zt) ∧ (y.cls ≠ "java/lang/invoke/MethodHandle" ∧ y.cls ≠ "java/lang/invoke/VarHandle" ∧ (parseMethodDescriptor y.desc).map (fun d => d.parameters.length) = some n) ∧ rmy.cells = 0 ∧ rmy.slots = 0
theorem zm_goodS {y : MethodName} {cy : ByteArray} {ml : Nat} {rt : Option FieldType} {n idx : Nat} {rmy : Room} {own : String} (h : Zm false y cy ml rt n rmy) (hl : Cond.methodLink own idx y ∈ zt) : GoodIn zt (va_wsS own idx y (zws y cy ml rt)) := by
  obtain ⟨h1, h2, -, h4, -⟩ := h
  intro q hq
  have hz : q ∈ zt := by
    rcases List.mem_append.mp hq with h | h
    · simp only [List.mem_cons, List.not_mem_nil, or_false] at h
      rcases h with rfl | rfl | rfl
      · exact hl
      · exact h4 rfl
      · exact h2
    · rcases List.mem_cons.mp h with rfl | h
      · exact h1
      · exact h
  exact ⟨hz, good_of_word (zz_good q hz)⟩
theorem zm_goodV {y : MethodName} {cy : ByteArray} {ml : Nat} {rt : Option FieldType} {n idx : Nat} {rmy : Room} {own : String} (h : Zm true y cy ml rt n rmy) (hl : Cond.methodLink own idx y ∈ zt) : GoodIn zt (wsV own idx y.cls y (zws y cy ml rt)) := by
  obtain ⟨h1, h2, h3, -, -⟩ := h
  intro q hq
  have hz : q ∈ zt := by
    rcases List.mem_append.mp hq with h | h
    · simp only [List.mem_cons, List.not_mem_nil, or_false] at h
      rcases h with rfl | rfl | rfl | rfl
      · exact hl
      · exact (h3 rfl).1
      · exact (h3 rfl).2
      · exact h2
    · rcases List.mem_cons.mp h with rfl | h
      · exact h1
      · exact h
  exact ⟨hz, good_of_word (zz_good q hz)⟩
theorem zok_D {w : ZW} (hw : Zok w) {A : Nat → Prop} {M : Mem} (h : va_D A (w.2.2.2.1 M)) (M' : Mem) : va_D A (w.2.2.2.1 M') := by
  have key : ∀ (k : Nat) (q : Nat × va_E), (w.2.2.2.1 M')[k]? = some q → ∃ q', (w.2.2.2.1 M)[k]? = some q' ∧ q'.1 = q.1 := by
    intro k q hq
    have h1 := hw M M' k
    rw [hq] at h1
    cases h2 : (w.2.2.2.1 M)[k]? with
    | none => rw [h2] at h1; cases h1
    | some q' => rw [h2] at h1; exact ⟨q', rfl, Option.some.inj h1⟩
  refine ⟨fun i j p q hp hq e => ?_, fun k q hq => ?_⟩
  · obtain ⟨p', hp', ep⟩ := key i p hp
    obtain ⟨q', hq', eq⟩ := key j q hq
    exact h.1 i j p' q' hp' hq' (by rw [ep, eq, e])
  · obtain ⟨q', hq', e⟩ := key k q hq
    rw [← e]
    exact h.2 k q' hq'
theorem zok_A {w : ZW} (hw : Zok w) {M M' : Mem} {sz : Nat} : va_A (w.2.2.2.1 M) sz = va_A (w.2.2.2.1 M') sz := by
  have key : ∀ (M M' : Mem) (q : Nat), va_A (w.2.2.2.1 M) sz q → va_A (w.2.2.2.1 M') sz q := by
    intro M M' q h
    rcases h with ⟨k, e, h⟩ | h
    · have h1 := hw M M' k
      rw [h] at h1
      cases h2 : (w.2.2.2.1 M')[k]? with
      | none => rw [h2] at h1; cases h1
      | some q' =>
        rw [h2] at h1
        have h3 : q = q'.1 := Option.some.inj h1
        exact Or.inl ⟨k, q'.2, by rw [h2, h3]⟩
    · exact Or.inr h
  funext q
  exact propext ⟨key M M' q, key M' M q⟩
section ZS
variable {X : ZX} {cc : ByteArray} {own : String} {nL : Nat} {rm : Room} {w : ZW} {M : Mem} {pc : Nat} {lv : List (Nat × Value)} {st : List Value}
theorem zz_blind {av : List Value} {sz : Nat} : FrameBlind (Zpre w av M sz) := fun a U g mk q => by
  obtain ⟨q0, q1, qP, qK, qD, qZ⟩ := q
  exact ⟨q0, q1, qP, va_K.moved (u := U) (U := U.calling g mk a) (Vm.Alike.refl U.vm) qK, qD, va_Z.moved (u := U) (U := U.calling g mk a) (Vm.Alike.refl U.vm) qZ.1, va_T.moved (u := U) (U := U.calling g mk a) (Vm.Alike.refl U.vm) qZ.2⟩
theorem zz_freeA {A : Nat → Prop} {s : State} {H : Heap} {locs : List Loc} (hD : va_D A (w.2.2.2.1 M)) (hS : va_S A s.heap H locs) (hA : ∀ q, s.heap.size ≤ q → A q) : ∀ q, va_A (w.2.2.2.1 M) H.size q → A q := by
  intro q h
  rcases h with ⟨k, e, h⟩ | h
  · exact hD.2 k (q, e) h
  · exact hA q (Nat.le_trans hS.1 h)
theorem zz_st {A : Nat → Prop} {s U : State} {H : Heap} {locs : List Loc} (hZ : Zst w A s s.heap) (hS : va_S A s.heap H locs) (hF : ∀ q, va_A (w.2.2.2.1 M) H.size q → A q) (hU : U.heap = H) (hvm : s.vm.Alike U.vm) : Zst w (va_A (w.2.2.2.1 M) H.size) U U.heap := by
  rw [hU]
  exact ⟨((hZ.1.kept hS.2.1).narrow hF).moved hvm, ((hZ.2.kept hS.2.1).narrow hF).moved hvm⟩
theorem z_callSi (C : Zc X cc own nL rm w) {y : MethodName} {cy : ByteArray} {ml n idx : Nat} {rt : Option FieldType} {rmy : Room} {As rest : List Value} {post : Int32 → Mem → Prop} (hm : Zm false y cy ml rt n rmy) (hl : Cond.methodLink own idx y ∈ zt) (hR : Nat.ble (rmy.frames + 1) rm.frames = true ∧ Nat.ble (8 + (ml + 11) + rmy.locals) rm.locals = true) (hM : CtI w y cy ml rt rmy As M post) (hn : As.length = n) (hst : st = As.reverse ++ rest) (hrm : Nat.ble (rest.map fun v => v.category).sum 8 = true) (hd : decode cc pc = .ok (.invokestatic idx, 3))
    (kk : ∀ (r : Int32) (M2 : Mem), post r M2 → Zj X nL w M2 (pc + 3) lv (.int r :: rest)) : Zj X nL w M pc lv st := by
  subst hst
  obtain ⟨p, l, e, R, s, m, args, below, meth, c, A, Q⟩ := X
  obtain ⟨hx, hb, hml, ho, htb, hK, hDa, hA, hlk, rfl, hZs⟩ := C
  intro H locs ls hl' hP hS
  have hF := zz_freeA (hDa M) hS hA
  refine va_calli (va_runS (As := As) (rest := rest) ⟨hx, hb, hml, ho, htb⟩ (hM l H.size) (va_cwS n htb (zm_goodS hm hl) rfl hm.2.2.2.2.2.1 hm.2.2.2.2.2.2 hm.2.2.2.2.1 ⟨Nat.le_of_ble_eq_true hR.1, Nat.le_of_ble_eq_true hR.2⟩) ⟨zz_blind, fun U hU hW => ⟨rfl, by rw [hU], by rw [hU]; exact hP, va_K.moved hW.alike hK, (hDa M).weaken (fun _ _ _ _ => trivial), zz_st hZs hS hF hU hW.alike⟩⟩ rfl hn hl'.1 rfl (lv_room (Nat.le_of_ble_eq_true hrm)) hd ⟨Nat.zero_le _, Nat.zero_le _⟩) hS (fun q _ h => hF q h) hF (fun r u t H1 locs ht hvm hw hB hz1 hk1 hS => ?_)
  exact kk r u hw H1 locs ls hl' (ht ▸ hB.1) hS
theorem z_callVi (C : Zc X cc own nL rm w) {y : MethodName} {cy : ByteArray} {ml n idx b : Nat} {rt : Option FieldType} {rmy : Room} {As rest : List Value} {post : Int32 → Mem → Prop} (hm : Zm true y cy ml rt n rmy) (hl : Cond.methodLink own idx y ∈ zt) (q0 : Nat) {ci N : Nat} {T : u_T} {fs : List Value} (he : (w.2.2.2.1 M)[q0]? = some (b, .inr (ci, fs))) (hc : w.2.1[ci]? = some (y.cls, T, N)) (hR : Nat.ble (rmy.frames + 1) rm.frames = true ∧ Nat.ble (8 + (ml + 11) + rmy.locals) rm.locals = true) (hM : CtI w y cy ml rt rmy (.ref b :: As) M post) (hn : As.length = n) (hst : st = As.reverse ++ .ref b :: rest) (hrm : Nat.ble (rest.map fun v => v.category).sum 8 = true) (hd : decode cc pc = .ok (.invokevirtual idx, 3))
    (kk : ∀ (r : Int32) (M2 : Mem), post r M2 → Zj X nL w M2 (pc + 3) lv (.int r :: rest)) : Zj X nL w M pc lv st := by
  subst hst
  obtain ⟨p, l, e, R, s, m, args, below, meth, c, A, Q⟩ := X
  obtain ⟨hx, hb, hml, ho, htb, hK, hDa, hA, hlk, rfl, hZs⟩ := C
  intro H locs ls hl' hP hS
  have hF := zz_freeA (hDa M) hS hA
  refine va_calli (va_runV (C := y.cls) (As := As) (rest := rest) ⟨hx, hb, hml, ho, htb⟩ (hM l H.size) (cwV n htb (zm_goodV hm hl) rfl hm.2.2.2.2.2.1 hm.2.2.2.2.2.2 ⟨rfl, hm.2.2.2.2.1⟩ ⟨Nat.le_of_ble_eq_true hR.1, Nat.le_of_ble_eq_true hR.2⟩) ⟨zz_blind, va_recv hK hP hc he, fun U hU hW => ⟨rfl, by rw [hU], by rw [hU]; exact hP, va_K.moved hW.alike hK, (hDa M).weaken (fun _ _ _ _ => trivial), zz_st hZs hS hF hU hW.alike⟩⟩ rfl hn hl'.1 rfl (lv_room (Nat.le_of_ble_eq_true hrm)) hd ⟨Nat.zero_le _, Nat.zero_le _⟩) hS (fun q _ h => hF q h) hF (fun r u t H1 locs ht hvm hw hB hz1 hk1 hS => ?_)
  exact kk r u hw H1 locs ls hl' (ht ▸ hB.1) hS
theorem z_callSl (C : Zc X cc own nL rm w) {y : MethodName} {cy : ByteArray} {ml n idx : Nat} {rt : Option FieldType} {rmy : Room} {As rest : List Value} {post : Int64 → Mem → Prop} (hm : Zm false y cy ml rt n rmy) (hl : Cond.methodLink own idx y ∈ zt) (hR : Nat.ble (rmy.frames + 1) rm.frames = true ∧ Nat.ble (8 + (ml + 11) + rmy.locals) rm.locals = true) (hM : CtL w y cy ml rt rmy As M post) (hn : As.length = n) (hst : st = As.reverse ++ rest) (hrm : Nat.ble (rest.map fun v => v.category).sum 8 = true) (hd : decode cc pc = .ok (.invokestatic idx, 3))
    (kk : ∀ (r : Int64) (M2 : Mem), post r M2 → Zj X nL w M2 (pc + 3) lv (.long r :: rest)) : Zj X nL w M pc lv st := by
  subst hst
  obtain ⟨p, l, e, R, s, m, args, below, meth, c, A, Q⟩ := X
  obtain ⟨hx, hb, hml, ho, htb, hK, hDa, hA, hlk, rfl, hZs⟩ := C
  intro H locs ls hl' hP hS
  have hF := zz_freeA (hDa M) hS hA
  refine va_calll (va_runS (As := As) (rest := rest) ⟨hx, hb, hml, ho, htb⟩ (hM l H.size) (va_cwS n htb (zm_goodS hm hl) rfl hm.2.2.2.2.2.1 hm.2.2.2.2.2.2 hm.2.2.2.2.1 ⟨Nat.le_of_ble_eq_true hR.1, Nat.le_of_ble_eq_true hR.2⟩) ⟨zz_blind, fun U hU hW => ⟨rfl, by rw [hU], by rw [hU]; exact hP, va_K.moved hW.alike hK, (hDa M).weaken (fun _ _ _ _ => trivial), zz_st hZs hS hF hU hW.alike⟩⟩ rfl hn hl'.1 rfl (lv_room (Nat.le_of_ble_eq_true hrm)) hd ⟨Nat.zero_le _, Nat.zero_le _⟩) hS (fun q _ h => hF q h) hF (fun r u t H1 locs ht hvm hw hB hz1 hk1 hS => ?_)
  exact kk r u hw H1 locs ls hl' (ht ▸ hB.1) hS
theorem z_callVl (C : Zc X cc own nL rm w) {y : MethodName} {cy : ByteArray} {ml n idx b : Nat} {rt : Option FieldType} {rmy : Room} {As rest : List Value} {post : Int64 → Mem → Prop} (hm : Zm true y cy ml rt n rmy) (hl : Cond.methodLink own idx y ∈ zt) (q0 : Nat) {ci N : Nat} {T : u_T} {fs : List Value} (he : (w.2.2.2.1 M)[q0]? = some (b, .inr (ci, fs))) (hc : w.2.1[ci]? = some (y.cls, T, N)) (hR : Nat.ble (rmy.frames + 1) rm.frames = true ∧ Nat.ble (8 + (ml + 11) + rmy.locals) rm.locals = true) (hM : CtL w y cy ml rt rmy (.ref b :: As) M post) (hn : As.length = n) (hst : st = As.reverse ++ .ref b :: rest) (hrm : Nat.ble (rest.map fun v => v.category).sum 8 = true) (hd : decode cc pc = .ok (.invokevirtual idx, 3))
    (kk : ∀ (r : Int64) (M2 : Mem), post r M2 → Zj X nL w M2 (pc + 3) lv (.long r :: rest)) : Zj X nL w M pc lv st := by
  subst hst
  obtain ⟨p, l, e, R, s, m, args, below, meth, c, A, Q⟩ := X
  obtain ⟨hx, hb, hml, ho, htb, hK, hDa, hA, hlk, rfl, hZs⟩ := C
  intro H locs ls hl' hP hS
  have hF := zz_freeA (hDa M) hS hA
  refine va_calll (va_runV (C := y.cls) (As := As) (rest := rest) ⟨hx, hb, hml, ho, htb⟩ (hM l H.size) (cwV n htb (zm_goodV hm hl) rfl hm.2.2.2.2.2.1 hm.2.2.2.2.2.2 ⟨rfl, hm.2.2.2.2.1⟩ ⟨Nat.le_of_ble_eq_true hR.1, Nat.le_of_ble_eq_true hR.2⟩) ⟨zz_blind, va_recv hK hP hc he, fun U hU hW => ⟨rfl, by rw [hU], by rw [hU]; exact hP, va_K.moved hW.alike hK, (hDa M).weaken (fun _ _ _ _ => trivial), zz_st hZs hS hF hU hW.alike⟩⟩ rfl hn hl'.1 rfl (lv_room (Nat.le_of_ble_eq_true hrm)) hd ⟨Nat.zero_le _, Nat.zero_le _⟩) hS (fun q _ h => hF q h) hF (fun r u t H1 locs ht hvm hw hB hz1 hk1 hS => ?_)
  exact kk r u hw H1 locs ls hl' (ht ▸ hB.1) hS
theorem z_callSv (C : Zc X cc own nL rm w) {y : MethodName} {cy : ByteArray} {ml n idx : Nat} {rt : Option FieldType} {rmy : Room} {As rest : List Value} {post : Mem → Prop} (hm : Zm false y cy ml rt n rmy) (hl : Cond.methodLink own idx y ∈ zt) (hR : Nat.ble (rmy.frames + 1) rm.frames = true ∧ Nat.ble (8 + (ml + 11) + rmy.locals) rm.locals = true) (hM : CtV w y cy ml rt rmy As M post) (hn : As.length = n) (hst : st = As.reverse ++ rest) (hrm : Nat.ble (rest.map fun v => v.category).sum 8 = true) (hd : decode cc pc = .ok (.invokestatic idx, 3))
    (kk : ∀ (M2 : Mem), post M2 → Zj X nL w M2 (pc + 3) lv rest) : Zj X nL w M pc lv st := by
  subst hst
  obtain ⟨p, l, e, R, s, m, args, below, meth, c, A, Q⟩ := X
  obtain ⟨hx, hb, hml, ho, htb, hK, hDa, hA, hlk, rfl, hZs⟩ := C
  intro H locs ls hl' hP hS
  have hF := zz_freeA (hDa M) hS hA
  refine va_callv (va_runS (As := As) (rest := rest) ⟨hx, hb, hml, ho, htb⟩ (hM l H.size) (va_cwS n htb (zm_goodS hm hl) rfl hm.2.2.2.2.2.1 hm.2.2.2.2.2.2 hm.2.2.2.2.1 ⟨Nat.le_of_ble_eq_true hR.1, Nat.le_of_ble_eq_true hR.2⟩) ⟨zz_blind, fun U hU hW => ⟨rfl, by rw [hU], by rw [hU]; exact hP, va_K.moved hW.alike hK, (hDa M).weaken (fun _ _ _ _ => trivial), zz_st hZs hS hF hU hW.alike⟩⟩ rfl hn hl'.1 rfl (lv_room (Nat.le_of_ble_eq_true hrm)) hd ⟨Nat.zero_le _, Nat.zero_le _⟩) hS (fun q _ h => hF q h) hF (fun u t H1 locs ht hvm hw hB hz1 hk1 hS => ?_)
  exact kk u hw H1 locs ls hl' (ht ▸ hB.1) hS
theorem z_callVv (C : Zc X cc own nL rm w) {y : MethodName} {cy : ByteArray} {ml n idx b : Nat} {rt : Option FieldType} {rmy : Room} {As rest : List Value} {post : Mem → Prop} (hm : Zm true y cy ml rt n rmy) (hl : Cond.methodLink own idx y ∈ zt) (q0 : Nat) {ci N : Nat} {T : u_T} {fs : List Value} (he : (w.2.2.2.1 M)[q0]? = some (b, .inr (ci, fs))) (hc : w.2.1[ci]? = some (y.cls, T, N)) (hR : Nat.ble (rmy.frames + 1) rm.frames = true ∧ Nat.ble (8 + (ml + 11) + rmy.locals) rm.locals = true) (hM : CtV w y cy ml rt rmy (.ref b :: As) M post) (hn : As.length = n) (hst : st = As.reverse ++ .ref b :: rest) (hrm : Nat.ble (rest.map fun v => v.category).sum 8 = true) (hd : decode cc pc = .ok (.invokevirtual idx, 3))
    (kk : ∀ (M2 : Mem), post M2 → Zj X nL w M2 (pc + 3) lv rest) : Zj X nL w M pc lv st := by
  subst hst
  obtain ⟨p, l, e, R, s, m, args, below, meth, c, A, Q⟩ := X
  obtain ⟨hx, hb, hml, ho, htb, hK, hDa, hA, hlk, rfl, hZs⟩ := C
  intro H locs ls hl' hP hS
  have hF := zz_freeA (hDa M) hS hA
  refine va_callv (va_runV (C := y.cls) (As := As) (rest := rest) ⟨hx, hb, hml, ho, htb⟩ (hM l H.size) (cwV n htb (zm_goodV hm hl) rfl hm.2.2.2.2.2.1 hm.2.2.2.2.2.2 ⟨rfl, hm.2.2.2.2.1⟩ ⟨Nat.le_of_ble_eq_true hR.1, Nat.le_of_ble_eq_true hR.2⟩) ⟨zz_blind, va_recv hK hP hc he, fun U hU hW => ⟨rfl, by rw [hU], by rw [hU]; exact hP, va_K.moved hW.alike hK, (hDa M).weaken (fun _ _ _ _ => trivial), zz_st hZs hS hF hU hW.alike⟩⟩ rfl hn hl'.1 rfl (lv_room (Nat.le_of_ble_eq_true hrm)) hd ⟨Nat.zero_le _, Nat.zero_le _⟩) hS (fun q _ h => hF q h) hF (fun u t H1 locs ht hvm hw hB hz1 hk1 hS => ?_)
  exact kk u hw H1 locs ls hl' (ht ▸ hB.1) hS
theorem z_callSr (C : Zc X cc own nL rm w) {y : MethodName} {cy : ByteArray} {ml n idx : Nat} {rt : Option FieldType} {rmy : Room} {As rest : List Value} {post : Mem → Prop} {ra : Nat} (hm : Zm false y cy ml rt n rmy) (hl : Cond.methodLink own idx y ∈ zt) (hR : Nat.ble (rmy.frames + 1) rm.frames = true ∧ Nat.ble (8 + (ml + 11) + rmy.locals) rm.locals = true) (hM : CtR w y cy ml rt rmy As M post ra) (hn : As.length = n) (hst : st = As.reverse ++ rest) (hrm : Nat.ble (rest.map fun v => v.category).sum 8 = true) (hd : decode cc pc = .ok (.invokestatic idx, 3))
    (kk : ∀ (M2 : Mem), post M2 → Zj X nL w M2 (pc + 3) lv (.ref ra :: rest)) : Zj X nL w M pc lv st := by
  subst hst
  obtain ⟨p, l, e, R, s, m, args, below, meth, c, A, Q⟩ := X
  obtain ⟨hx, hb, hml, ho, htb, hK, hDa, hA, hlk, rfl, hZs⟩ := C
  intro H locs ls hl' hP hS
  have hF := zz_freeA (hDa M) hS hA
  refine va_callr (va_runS (As := As) (rest := rest) ⟨hx, hb, hml, ho, htb⟩ (hM l H.size) (va_cwS n htb (zm_goodS hm hl) rfl hm.2.2.2.2.2.1 hm.2.2.2.2.2.2 hm.2.2.2.2.1 ⟨Nat.le_of_ble_eq_true hR.1, Nat.le_of_ble_eq_true hR.2⟩) ⟨zz_blind, fun U hU hW => ⟨rfl, by rw [hU], by rw [hU]; exact hP, va_K.moved hW.alike hK, (hDa M).weaken (fun _ _ _ _ => trivial), zz_st hZs hS hF hU hW.alike⟩⟩ rfl hn hl'.1 rfl (lv_room (Nat.le_of_ble_eq_true hrm)) hd ⟨Nat.zero_le _, Nat.zero_le _⟩) hS (fun q _ h => hF q h) hF (fun u ra2 t H1 locs ht hvm hw hB hz1 hk1 hS => ?_)
  obtain ⟨rfl, hB⟩ := hB
  exact kk u hw H1 locs ls hl' (ht ▸ hB.1) hS
theorem z_callVr (C : Zc X cc own nL rm w) {y : MethodName} {cy : ByteArray} {ml n idx b : Nat} {rt : Option FieldType} {rmy : Room} {As rest : List Value} {post : Mem → Prop} {ra : Nat} (hm : Zm true y cy ml rt n rmy) (hl : Cond.methodLink own idx y ∈ zt) (q0 : Nat) {ci N : Nat} {T : u_T} {fs : List Value} (he : (w.2.2.2.1 M)[q0]? = some (b, .inr (ci, fs))) (hc : w.2.1[ci]? = some (y.cls, T, N)) (hR : Nat.ble (rmy.frames + 1) rm.frames = true ∧ Nat.ble (8 + (ml + 11) + rmy.locals) rm.locals = true) (hM : CtR w y cy ml rt rmy (.ref b :: As) M post ra) (hn : As.length = n) (hst : st = As.reverse ++ .ref b :: rest) (hrm : Nat.ble (rest.map fun v => v.category).sum 8 = true) (hd : decode cc pc = .ok (.invokevirtual idx, 3))
    (kk : ∀ (M2 : Mem), post M2 → Zj X nL w M2 (pc + 3) lv (.ref ra :: rest)) : Zj X nL w M pc lv st := by
  subst hst
  obtain ⟨p, l, e, R, s, m, args, below, meth, c, A, Q⟩ := X
  obtain ⟨hx, hb, hml, ho, htb, hK, hDa, hA, hlk, rfl, hZs⟩ := C
  intro H locs ls hl' hP hS
  have hF := zz_freeA (hDa M) hS hA
  refine va_callr (va_runV (C := y.cls) (As := As) (rest := rest) ⟨hx, hb, hml, ho, htb⟩ (hM l H.size) (cwV n htb (zm_goodV hm hl) rfl hm.2.2.2.2.2.1 hm.2.2.2.2.2.2 ⟨rfl, hm.2.2.2.2.1⟩ ⟨Nat.le_of_ble_eq_true hR.1, Nat.le_of_ble_eq_true hR.2⟩) ⟨zz_blind, va_recv hK hP hc he, fun U hU hW => ⟨rfl, by rw [hU], by rw [hU]; exact hP, va_K.moved hW.alike hK, (hDa M).weaken (fun _ _ _ _ => trivial), zz_st hZs hS hF hU hW.alike⟩⟩ rfl hn hl'.1 rfl (lv_room (Nat.le_of_ble_eq_true hrm)) hd ⟨Nat.zero_le _, Nat.zero_le _⟩) hS (fun q _ h => hF q h) hF (fun u ra2 t H1 locs ht hvm hw hB hz1 hk1 hS => ?_)
  obtain ⟨rfl, hB⟩ := hB
  exact kk u hw H1 locs ls hl' (ht ▸ hB.1) hS
theorem z_rret (C : Zc X cc own nL rm w) {post : Mem → Prop} {a : Nat} {Cn : String} (hr : Zrr X w (some (.object Cn)) post a) (hp : post M) (hd : decode cc pc = .ok (.areturn, 1)) : Zj X nL w M pc lv [.ref a] := by
  obtain ⟨p, l, e, R, s, m, args, below, meth, c, A, Q⟩ := X
  obtain ⟨hx, hb, hml, ho, htb, hK, hDa, hA, hlk, hR, -⟩ := C
  obtain ⟨hr, rfl⟩ := hr
  exact fun H locs ls hl hP hS => W.aret (v := .ref a) hx hb hr (Or.inl ⟨Cn, rfl⟩) (Or.inr ⟨a, rfl⟩) (fun t ht hW => ⟨⟨M, a, rfl, hp, rfl, by rw [ht]; exact hP, va_K.moved hW.alike hK, hDa M⟩, hS.F ht⟩) hS.2.2 hd hlk
end ZS
theorem z_metI {w : ZW} (hw : Zok w) {y : MethodName} {cy : ByteArray} {ml : Nat} {rt : Option FieldType} {rmy : Room} {av : List Value} {M : Mem} {post : Int32 → Mem → Prop} (hy : plainName y.cls = true) (hlen : Nat.ble (lg_sl av).length ml = true)
    (body : ∀ X : ZX, Zc X cy y.cls ml rmy w → Zri X w rt post → Zj X ml w M 0 (lv_args 0 av) []) : CtI w y cy ml rt rmy av M post := by
  intro l sz
  refine Met.ofW (cc := cy) (maxL := ml) (ret := rt) hy rfl ?_
  intro p e s m args below meth c s₁ B hml hv
  obtain ⟨rfl, hsz, hP, hK, hD0, hZs⟩ := hv
  have hts := atoms_spec (ws := zws y cy ml rt) B.pre
  subst hsz
  have hD := hD0.self (sz := s.heap.size)
  have hl := lv_entry av (n := ml) (Nat.le_of_ble_eq_true hlen)
  rw [lg_entry_eq]
  refine body (p, l, e, rmy, s, m, av.toArray, below, meth, c, va_A (w.2.2.2.1 M) s.heap.size, _) ⟨B.exec, B.bytes, hml, findClass_of_methodNamed B.named, fun q hq => hts q (List.mem_cons_of_mem _ hq), hK, zok_D hw hD, fun q h => Or.inr h, B.notSynchronized, rfl, hZs⟩ ⟨B.returns, rfl⟩ s.heap [] _ hl hP va_S.rf
theorem z_metL {w : ZW} (hw : Zok w) {y : MethodName} {cy : ByteArray} {ml : Nat} {rmy : Room} {av : List Value} {M : Mem} {post : Int64 → Mem → Prop} (hy : plainName y.cls = true) (hlen : Nat.ble (lg_sl av).length ml = true)
    (body : ∀ X : ZX, Zc X cy y.cls ml rmy w → Zrl X w post → Zj X ml w M 0 (lv_args 0 av) []) : CtL w y cy ml (some .long) rmy av M post := by
  intro l sz
  refine Met.ofW (cc := cy) (maxL := ml) (ret := some .long) hy rfl ?_
  intro p e s m args below meth c s₁ B hml hv
  obtain ⟨rfl, hsz, hP, hK, hD0, hZs⟩ := hv
  have hts := atoms_spec (ws := zws y cy ml (some .long)) B.pre
  subst hsz
  have hD := hD0.self (sz := s.heap.size)
  have hl := lv_entry av (n := ml) (Nat.le_of_ble_eq_true hlen)
  rw [lg_entry_eq]
  refine body (p, l, e, rmy, s, m, av.toArray, below, meth, c, va_A (w.2.2.2.1 M) s.heap.size, _) ⟨B.exec, B.bytes, hml, findClass_of_methodNamed B.named, fun q hq => hts q (List.mem_cons_of_mem _ hq), hK, zok_D hw hD, fun q h => Or.inr h, B.notSynchronized, rfl, hZs⟩ ⟨B.returns, rfl⟩ s.heap [] _ hl hP va_S.rf
theorem z_metV {w : ZW} (hw : Zok w) {y : MethodName} {cy : ByteArray} {ml : Nat} {rmy : Room} {av : List Value} {M : Mem} {post : Mem → Prop} (hy : plainName y.cls = true) (hlen : Nat.ble (lg_sl av).length ml = true)
    (body : ∀ X : ZX, Zc X cy y.cls ml rmy w → Zrv X w post → Zj X ml w M 0 (lv_args 0 av) []) : CtV w y cy ml none rmy av M post := by
  intro l sz
  refine Met.ofW (cc := cy) (maxL := ml) (ret := none) hy rfl ?_
  intro p e s m args below meth c s₁ B hml hv
  obtain ⟨rfl, hsz, hP, hK, hD0, hZs⟩ := hv
  have hts := atoms_spec (ws := zws y cy ml none) B.pre
  subst hsz
  have hD := hD0.self (sz := s.heap.size)
  have hl := lv_entry av (n := ml) (Nat.le_of_ble_eq_true hlen)
  rw [lg_entry_eq]
  refine body (p, l, e, rmy, s, m, av.toArray, below, meth, c, va_A (w.2.2.2.1 M) s.heap.size, _) ⟨B.exec, B.bytes, hml, findClass_of_methodNamed B.named, fun q hq => hts q (List.mem_cons_of_mem _ hq), hK, zok_D hw hD, fun q h => Or.inr h, B.notSynchronized, rfl, hZs⟩ ⟨B.returns, rfl⟩ s.heap [] _ hl hP va_S.rf
theorem z_metR {w : ZW} (hw : Zok w) {y : MethodName} {cy : ByteArray} {ml : Nat} {rt : Option FieldType} {rmy : Room} {av : List Value} {M : Mem} {post : Mem → Prop} {ra : Nat} (hy : plainName y.cls = true) (hlen : Nat.ble (lg_sl av).length ml = true)
    (body : ∀ X : ZX, Zc X cy y.cls ml rmy w → Zrr X w rt post ra → Zj X ml w M 0 (lv_args 0 av) []) : CtR w y cy ml rt rmy av M post ra := by
  intro l sz
  refine Met.ofW (cc := cy) (maxL := ml) (ret := rt) hy rfl ?_
  intro p e s m args below meth c s₁ B hml hv
  obtain ⟨rfl, hsz, hP, hK, hD0, hZs⟩ := hv
  have hts := atoms_spec (ws := zws y cy ml rt) B.pre
  subst hsz
  have hD := hD0.self (sz := s.heap.size)
  have hl := lv_entry av (n := ml) (Nat.le_of_ble_eq_true hlen)
  rw [lg_entry_eq]
  refine body (p, l, e, rmy, s, m, av.toArray, below, meth, c, va_A (w.2.2.2.1 M) s.heap.size, _) ⟨B.exec, B.bytes, hml, findClass_of_methodNamed B.named, fun q hq => hts q (List.mem_cons_of_mem _ hq), hK, zok_D hw hD, fun q h => Or.inr h, B.notSynchronized, rfl, hZs⟩ ⟨B.returns, rfl⟩ s.heap [] _ hl hP va_S.rf
end
section
/-! loops as predicates; the table's rows; rows by cells; filling and copying arrays -/
def tn (i : Int32) : Nat := i.toNatClampNeg
theorem vp_lt {i : Int32} {n : Nat} (h : vp_in i n) : tn i < n := Nat.not_le.mp fun q => h (Or.inr q)
def rl (k : Nat) : Room := { frames := k, cells := 0, slots := 0, locals := 40 * k }
def it1 {A1 : Type} (b : (A1 → Prop) → A1 → Prop) : Nat → A1 → Prop
  | 0 => fun _ => False
  | k + 1 => b (it1 b k)
theorem it1_Z {A1 : Type} {b : (A1 → Prop) → A1 → Prop} {Z : A1 → Prop} (h : ∀ (rc : A1 → Prop), (∀ (x1 : A1), rc x1 → Z x1) → ∀ (x1 : A1), b rc x1 → Z x1) : ∀ (k : Nat) (x1 : A1), it1 b k x1 → Z x1 := by
  intro k
  induction k with
  | zero => intro x1 q; exact q.elim
  | succ k ih => intro x1 q; exact h _ ih x1 q
theorem it1_R {A1 : Type} {b : (A1 → Prop) → A1 → Prop} (I : A1 → Prop) (μ : A1 → Nat) (h : ∀ (rc : A1 → Prop) (x1 : A1), I x1 → (∀ (y1 : A1), I y1 → μ y1 < μ x1 → rc y1) → b rc x1) : ∀ (k : Nat) (x1 : A1), I x1 → μ x1 < k → it1 b k x1 := by
  intro k
  induction k with
  | zero => intro x1 _ q; exact absurd q (Nat.not_lt_zero _)
  | succ k ih => intro x1 hI q; exact h _ x1 hI (fun y1 hI' hm => ih y1 hI' (by omega))
def it2 {A1 A2 : Type} (b : (A1 → A2 → Prop) → A1 → A2 → Prop) : Nat → A1 → A2 → Prop
  | 0 => fun _ _ => False
  | k + 1 => b (it2 b k)
theorem it2_Z {A1 A2 : Type} {b : (A1 → A2 → Prop) → A1 → A2 → Prop} {Z : A1 → A2 → Prop} (h : ∀ (rc : A1 → A2 → Prop), (∀ (x1 : A1) (x2 : A2), rc x1 x2 → Z x1 x2) → ∀ (x1 : A1) (x2 : A2), b rc x1 x2 → Z x1 x2) : ∀ (k : Nat) (x1 : A1) (x2 : A2), it2 b k x1 x2 → Z x1 x2 := by
  intro k
  induction k with
  | zero => intro x1 x2 q; exact q.elim
  | succ k ih => intro x1 x2 q; exact h _ ih x1 x2 q
theorem it2_R {A1 A2 : Type} {b : (A1 → A2 → Prop) → A1 → A2 → Prop} (I : A1 → A2 → Prop) (μ : A1 → A2 → Nat) (h : ∀ (rc : A1 → A2 → Prop) (x1 : A1) (x2 : A2), I x1 x2 → (∀ (y1 : A1) (y2 : A2), I y1 y2 → μ y1 y2 < μ x1 x2 → rc y1 y2) → b rc x1 x2) : ∀ (k : Nat) (x1 : A1) (x2 : A2), I x1 x2 → μ x1 x2 < k → it2 b k x1 x2 := by
  intro k
  induction k with
  | zero => intro x1 x2 _ q; exact absurd q (Nat.not_lt_zero _)
  | succ k ih => intro x1 x2 hI q; exact h _ x1 x2 hI (fun y1 y2 hI' hm => ih y1 y2 hI' (by omega))
def it3 {A1 A2 A3 : Type} (b : (A1 → A2 → A3 → Prop) → A1 → A2 → A3 → Prop) : Nat → A1 → A2 → A3 → Prop
  | 0 => fun _ _ _ => False
  | k + 1 => b (it3 b k)
theorem it3_Z {A1 A2 A3 : Type} {b : (A1 → A2 → A3 → Prop) → A1 → A2 → A3 → Prop} {Z : A1 → A2 → A3 → Prop} (h : ∀ (rc : A1 → A2 → A3 → Prop), (∀ (x1 : A1) (x2 : A2) (x3 : A3), rc x1 x2 x3 → Z x1 x2 x3) → ∀ (x1 : A1) (x2 : A2) (x3 : A3), b rc x1 x2 x3 → Z x1 x2 x3) : ∀ (k : Nat) (x1 : A1) (x2 : A2) (x3 : A3), it3 b k x1 x2 x3 → Z x1 x2 x3 := by
  intro k
  induction k with
  | zero => intro x1 x2 x3 q; exact q.elim
  | succ k ih => intro x1 x2 x3 q; exact h _ ih x1 x2 x3 q
theorem it3_R {A1 A2 A3 : Type} {b : (A1 → A2 → A3 → Prop) → A1 → A2 → A3 → Prop} (I : A1 → A2 → A3 → Prop) (μ : A1 → A2 → A3 → Nat) (h : ∀ (rc : A1 → A2 → A3 → Prop) (x1 : A1) (x2 : A2) (x3 : A3), I x1 x2 x3 → (∀ (y1 : A1) (y2 : A2) (y3 : A3), I y1 y2 y3 → μ y1 y2 y3 < μ x1 x2 x3 → rc y1 y2 y3) → b rc x1 x2 x3) : ∀ (k : Nat) (x1 : A1) (x2 : A2) (x3 : A3), I x1 x2 x3 → μ x1 x2 x3 < k → it3 b k x1 x2 x3 := by
  intro k
  induction k with
  | zero => intro x1 x2 x3 _ q; exact absurd q (Nat.not_lt_zero _)
  | succ k ih => intro x1 x2 x3 hI q; exact h _ x1 x2 x3 hI (fun y1 y2 y3 hI' hm => ih y1 y2 y3 hI' (by omega))
def it4 {A1 A2 A3 A4 : Type} (b : (A1 → A2 → A3 → A4 → Prop) → A1 → A2 → A3 → A4 → Prop) : Nat → A1 → A2 → A3 → A4 → Prop
  | 0 => fun _ _ _ _ => False
  | k + 1 => b (it4 b k)
theorem it4_Z {A1 A2 A3 A4 : Type} {b : (A1 → A2 → A3 → A4 → Prop) → A1 → A2 → A3 → A4 → Prop} {Z : A1 → A2 → A3 → A4 → Prop} (h : ∀ (rc : A1 → A2 → A3 → A4 → Prop), (∀ (x1 : A1) (x2 : A2) (x3 : A3) (x4 : A4), rc x1 x2 x3 x4 → Z x1 x2 x3 x4) → ∀ (x1 : A1) (x2 : A2) (x3 : A3) (x4 : A4), b rc x1 x2 x3 x4 → Z x1 x2 x3 x4) : ∀ (k : Nat) (x1 : A1) (x2 : A2) (x3 : A3) (x4 : A4), it4 b k x1 x2 x3 x4 → Z x1 x2 x3 x4 := by
  intro k
  induction k with
  | zero => intro x1 x2 x3 x4 q; exact q.elim
  | succ k ih => intro x1 x2 x3 x4 q; exact h _ ih x1 x2 x3 x4 q
theorem it4_R {A1 A2 A3 A4 : Type} {b : (A1 → A2 → A3 → A4 → Prop) → A1 → A2 → A3 → A4 → Prop} (I : A1 → A2 → A3 → A4 → Prop) (μ : A1 → A2 → A3 → A4 → Nat) (h : ∀ (rc : A1 → A2 → A3 → A4 → Prop) (x1 : A1) (x2 : A2) (x3 : A3) (x4 : A4), I x1 x2 x3 x4 → (∀ (y1 : A1) (y2 : A2) (y3 : A3) (y4 : A4), I y1 y2 y3 y4 → μ y1 y2 y3 y4 < μ x1 x2 x3 x4 → rc y1 y2 y3 y4) → b rc x1 x2 x3 x4) : ∀ (k : Nat) (x1 : A1) (x2 : A2) (x3 : A3) (x4 : A4), I x1 x2 x3 x4 → μ x1 x2 x3 x4 < k → it4 b k x1 x2 x3 x4 := by
  intro k
  induction k with
  | zero => intro x1 x2 x3 x4 _ q; exact absurd q (Nat.not_lt_zero _)
  | succ k ih => intro x1 x2 x3 x4 hI q; exact h _ x1 x2 x3 x4 hI (fun y1 y2 y3 y4 hI' hm => ih y1 y2 y3 y4 hI' (by omega))
def it5 {A1 A2 A3 A4 A5 : Type} (b : (A1 → A2 → A3 → A4 → A5 → Prop) → A1 → A2 → A3 → A4 → A5 → Prop) : Nat → A1 → A2 → A3 → A4 → A5 → Prop
  | 0 => fun _ _ _ _ _ => False
  | k + 1 => b (it5 b k)
theorem it5_Z {A1 A2 A3 A4 A5 : Type} {b : (A1 → A2 → A3 → A4 → A5 → Prop) → A1 → A2 → A3 → A4 → A5 → Prop} {Z : A1 → A2 → A3 → A4 → A5 → Prop} (h : ∀ (rc : A1 → A2 → A3 → A4 → A5 → Prop), (∀ (x1 : A1) (x2 : A2) (x3 : A3) (x4 : A4) (x5 : A5), rc x1 x2 x3 x4 x5 → Z x1 x2 x3 x4 x5) → ∀ (x1 : A1) (x2 : A2) (x3 : A3) (x4 : A4) (x5 : A5), b rc x1 x2 x3 x4 x5 → Z x1 x2 x3 x4 x5) : ∀ (k : Nat) (x1 : A1) (x2 : A2) (x3 : A3) (x4 : A4) (x5 : A5), it5 b k x1 x2 x3 x4 x5 → Z x1 x2 x3 x4 x5 := by
  intro k
  induction k with
  | zero => intro x1 x2 x3 x4 x5 q; exact q.elim
  | succ k ih => intro x1 x2 x3 x4 x5 q; exact h _ ih x1 x2 x3 x4 x5 q
theorem it5_R {A1 A2 A3 A4 A5 : Type} {b : (A1 → A2 → A3 → A4 → A5 → Prop) → A1 → A2 → A3 → A4 → A5 → Prop} (I : A1 → A2 → A3 → A4 → A5 → Prop) (μ : A1 → A2 → A3 → A4 → A5 → Nat) (h : ∀ (rc : A1 → A2 → A3 → A4 → A5 → Prop) (x1 : A1) (x2 : A2) (x3 : A3) (x4 : A4) (x5 : A5), I x1 x2 x3 x4 x5 → (∀ (y1 : A1) (y2 : A2) (y3 : A3) (y4 : A4) (y5 : A5), I y1 y2 y3 y4 y5 → μ y1 y2 y3 y4 y5 < μ x1 x2 x3 x4 x5 → rc y1 y2 y3 y4 y5) → b rc x1 x2 x3 x4 x5) : ∀ (k : Nat) (x1 : A1) (x2 : A2) (x3 : A3) (x4 : A4) (x5 : A5), I x1 x2 x3 x4 x5 → μ x1 x2 x3 x4 x5 < k → it5 b k x1 x2 x3 x4 x5 := by
  intro k
  induction k with
  | zero => intro x1 x2 x3 x4 x5 _ q; exact absurd q (Nat.not_lt_zero _)
  | succ k ih => intro x1 x2 x3 x4 x5 hI q; exact h _ x1 x2 x3 x4 x5 hI (fun y1 y2 y3 y4 y5 hI' hm => ih y1 y2 y3 y4 y5 hI' (by omega))
def it6 {A1 A2 A3 A4 A5 A6 : Type} (b : (A1 → A2 → A3 → A4 → A5 → A6 → Prop) → A1 → A2 → A3 → A4 → A5 → A6 → Prop) : Nat → A1 → A2 → A3 → A4 → A5 → A6 → Prop
  | 0 => fun _ _ _ _ _ _ => False
  | k + 1 => b (it6 b k)
theorem it6_Z {A1 A2 A3 A4 A5 A6 : Type} {b : (A1 → A2 → A3 → A4 → A5 → A6 → Prop) → A1 → A2 → A3 → A4 → A5 → A6 → Prop} {Z : A1 → A2 → A3 → A4 → A5 → A6 → Prop} (h : ∀ (rc : A1 → A2 → A3 → A4 → A5 → A6 → Prop), (∀ (x1 : A1) (x2 : A2) (x3 : A3) (x4 : A4) (x5 : A5) (x6 : A6), rc x1 x2 x3 x4 x5 x6 → Z x1 x2 x3 x4 x5 x6) → ∀ (x1 : A1) (x2 : A2) (x3 : A3) (x4 : A4) (x5 : A5) (x6 : A6), b rc x1 x2 x3 x4 x5 x6 → Z x1 x2 x3 x4 x5 x6) : ∀ (k : Nat) (x1 : A1) (x2 : A2) (x3 : A3) (x4 : A4) (x5 : A5) (x6 : A6), it6 b k x1 x2 x3 x4 x5 x6 → Z x1 x2 x3 x4 x5 x6 := by
  intro k
  induction k with
  | zero => intro x1 x2 x3 x4 x5 x6 q; exact q.elim
  | succ k ih => intro x1 x2 x3 x4 x5 x6 q; exact h _ ih x1 x2 x3 x4 x5 x6 q
theorem it6_R {A1 A2 A3 A4 A5 A6 : Type} {b : (A1 → A2 → A3 → A4 → A5 → A6 → Prop) → A1 → A2 → A3 → A4 → A5 → A6 → Prop} (I : A1 → A2 → A3 → A4 → A5 → A6 → Prop) (μ : A1 → A2 → A3 → A4 → A5 → A6 → Nat) (h : ∀ (rc : A1 → A2 → A3 → A4 → A5 → A6 → Prop) (x1 : A1) (x2 : A2) (x3 : A3) (x4 : A4) (x5 : A5) (x6 : A6), I x1 x2 x3 x4 x5 x6 → (∀ (y1 : A1) (y2 : A2) (y3 : A3) (y4 : A4) (y5 : A5) (y6 : A6), I y1 y2 y3 y4 y5 y6 → μ y1 y2 y3 y4 y5 y6 < μ x1 x2 x3 x4 x5 x6 → rc y1 y2 y3 y4 y5 y6) → b rc x1 x2 x3 x4 x5 x6) : ∀ (k : Nat) (x1 : A1) (x2 : A2) (x3 : A3) (x4 : A4) (x5 : A5) (x6 : A6), I x1 x2 x3 x4 x5 x6 → μ x1 x2 x3 x4 x5 x6 < k → it6 b k x1 x2 x3 x4 x5 x6 := by
  intro k
  induction k with
  | zero => intro x1 x2 x3 x4 x5 x6 _ q; exact absurd q (Nat.not_lt_zero _)
  | succ k ih => intro x1 x2 x3 x4 x5 x6 hI q; exact h _ x1 x2 x3 x4 x5 x6 hI (fun y1 y2 y3 y4 y5 y6 hI' hm => ih y1 y2 y3 y4 y5 y6 hI' (by omega))
def it7 {A1 A2 A3 A4 A5 A6 A7 : Type} (b : (A1 → A2 → A3 → A4 → A5 → A6 → A7 → Prop) → A1 → A2 → A3 → A4 → A5 → A6 → A7 → Prop) : Nat → A1 → A2 → A3 → A4 → A5 → A6 → A7 → Prop
  | 0 => fun _ _ _ _ _ _ _ => False
  | k + 1 => b (it7 b k)
theorem it7_Z {A1 A2 A3 A4 A5 A6 A7 : Type} {b : (A1 → A2 → A3 → A4 → A5 → A6 → A7 → Prop) → A1 → A2 → A3 → A4 → A5 → A6 → A7 → Prop} {Z : A1 → A2 → A3 → A4 → A5 → A6 → A7 → Prop} (h : ∀ (rc : A1 → A2 → A3 → A4 → A5 → A6 → A7 → Prop), (∀ (x1 : A1) (x2 : A2) (x3 : A3) (x4 : A4) (x5 : A5) (x6 : A6) (x7 : A7), rc x1 x2 x3 x4 x5 x6 x7 → Z x1 x2 x3 x4 x5 x6 x7) → ∀ (x1 : A1) (x2 : A2) (x3 : A3) (x4 : A4) (x5 : A5) (x6 : A6) (x7 : A7), b rc x1 x2 x3 x4 x5 x6 x7 → Z x1 x2 x3 x4 x5 x6 x7) : ∀ (k : Nat) (x1 : A1) (x2 : A2) (x3 : A3) (x4 : A4) (x5 : A5) (x6 : A6) (x7 : A7), it7 b k x1 x2 x3 x4 x5 x6 x7 → Z x1 x2 x3 x4 x5 x6 x7 := by
  intro k
  induction k with
  | zero => intro x1 x2 x3 x4 x5 x6 x7 q; exact q.elim
  | succ k ih => intro x1 x2 x3 x4 x5 x6 x7 q; exact h _ ih x1 x2 x3 x4 x5 x6 x7 q
theorem it7_R {A1 A2 A3 A4 A5 A6 A7 : Type} {b : (A1 → A2 → A3 → A4 → A5 → A6 → A7 → Prop) → A1 → A2 → A3 → A4 → A5 → A6 → A7 → Prop} (I : A1 → A2 → A3 → A4 → A5 → A6 → A7 → Prop) (μ : A1 → A2 → A3 → A4 → A5 → A6 → A7 → Nat) (h : ∀ (rc : A1 → A2 → A3 → A4 → A5 → A6 → A7 → Prop) (x1 : A1) (x2 : A2) (x3 : A3) (x4 : A4) (x5 : A5) (x6 : A6) (x7 : A7), I x1 x2 x3 x4 x5 x6 x7 → (∀ (y1 : A1) (y2 : A2) (y3 : A3) (y4 : A4) (y5 : A5) (y6 : A6) (y7 : A7), I y1 y2 y3 y4 y5 y6 y7 → μ y1 y2 y3 y4 y5 y6 y7 < μ x1 x2 x3 x4 x5 x6 x7 → rc y1 y2 y3 y4 y5 y6 y7) → b rc x1 x2 x3 x4 x5 x6 x7) : ∀ (k : Nat) (x1 : A1) (x2 : A2) (x3 : A3) (x4 : A4) (x5 : A5) (x6 : A6) (x7 : A7), I x1 x2 x3 x4 x5 x6 x7 → μ x1 x2 x3 x4 x5 x6 x7 < k → it7 b k x1 x2 x3 x4 x5 x6 x7 := by
  intro k
  induction k with
  | zero => intro x1 x2 x3 x4 x5 x6 x7 _ q; exact absurd q (Nat.not_lt_zero _)
  | succ k ih => intro x1 x2 x3 x4 x5 x6 x7 hI q; exact h _ x1 x2 x3 x4 x5 x6 x7 hI (fun y1 y2 y3 y4 y5 y6 y7 hI' hm => ih y1 y2 y3 y4 y5 y6 y7 hI' (by omega))
def it8 {A1 A2 A3 A4 A5 A6 A7 A8 : Type} (b : (A1 → A2 → A3 → A4 → A5 → A6 → A7 → A8 → Prop) → A1 → A2 → A3 → A4 → A5 → A6 → A7 → A8 → Prop) : Nat → A1 → A2 → A3 → A4 → A5 → A6 → A7 → A8 → Prop
  | 0 => fun _ _ _ _ _ _ _ _ => False
  | k + 1 => b (it8 b k)
theorem it8_Z {A1 A2 A3 A4 A5 A6 A7 A8 : Type} {b : (A1 → A2 → A3 → A4 → A5 → A6 → A7 → A8 → Prop) → A1 → A2 → A3 → A4 → A5 → A6 → A7 → A8 → Prop} {Z : A1 → A2 → A3 → A4 → A5 → A6 → A7 → A8 → Prop} (h : ∀ (rc : A1 → A2 → A3 → A4 → A5 → A6 → A7 → A8 → Prop), (∀ (x1 : A1) (x2 : A2) (x3 : A3) (x4 : A4) (x5 : A5) (x6 : A6) (x7 : A7) (x8 : A8), rc x1 x2 x3 x4 x5 x6 x7 x8 → Z x1 x2 x3 x4 x5 x6 x7 x8) → ∀ (x1 : A1) (x2 : A2) (x3 : A3) (x4 : A4) (x5 : A5) (x6 : A6) (x7 : A7) (x8 : A8), b rc x1 x2 x3 x4 x5 x6 x7 x8 → Z x1 x2 x3 x4 x5 x6 x7 x8) : ∀ (k : Nat) (x1 : A1) (x2 : A2) (x3 : A3) (x4 : A4) (x5 : A5) (x6 : A6) (x7 : A7) (x8 : A8), it8 b k x1 x2 x3 x4 x5 x6 x7 x8 → Z x1 x2 x3 x4 x5 x6 x7 x8 := by
  intro k
  induction k with
  | zero => intro x1 x2 x3 x4 x5 x6 x7 x8 q; exact q.elim
  | succ k ih => intro x1 x2 x3 x4 x5 x6 x7 x8 q; exact h _ ih x1 x2 x3 x4 x5 x6 x7 x8 q
theorem it8_R {A1 A2 A3 A4 A5 A6 A7 A8 : Type} {b : (A1 → A2 → A3 → A4 → A5 → A6 → A7 → A8 → Prop) → A1 → A2 → A3 → A4 → A5 → A6 → A7 → A8 → Prop} (I : A1 → A2 → A3 → A4 → A5 → A6 → A7 → A8 → Prop) (μ : A1 → A2 → A3 → A4 → A5 → A6 → A7 → A8 → Nat) (h : ∀ (rc : A1 → A2 → A3 → A4 → A5 → A6 → A7 → A8 → Prop) (x1 : A1) (x2 : A2) (x3 : A3) (x4 : A4) (x5 : A5) (x6 : A6) (x7 : A7) (x8 : A8), I x1 x2 x3 x4 x5 x6 x7 x8 → (∀ (y1 : A1) (y2 : A2) (y3 : A3) (y4 : A4) (y5 : A5) (y6 : A6) (y7 : A7) (y8 : A8), I y1 y2 y3 y4 y5 y6 y7 y8 → μ y1 y2 y3 y4 y5 y6 y7 y8 < μ x1 x2 x3 x4 x5 x6 x7 x8 → rc y1 y2 y3 y4 y5 y6 y7 y8) → b rc x1 x2 x3 x4 x5 x6 x7 x8) : ∀ (k : Nat) (x1 : A1) (x2 : A2) (x3 : A3) (x4 : A4) (x5 : A5) (x6 : A6) (x7 : A7) (x8 : A8), I x1 x2 x3 x4 x5 x6 x7 x8 → μ x1 x2 x3 x4 x5 x6 x7 x8 < k → it8 b k x1 x2 x3 x4 x5 x6 x7 x8 := by
  intro k
  induction k with
  | zero => intro x1 x2 x3 x4 x5 x6 x7 x8 _ q; exact absurd q (Nat.not_lt_zero _)
  | succ k ih => intro x1 x2 x3 x4 x5 x6 x7 x8 hI q; exact h _ x1 x2 x3 x4 x5 x6 x7 x8 hI (fun y1 y2 y3 y4 y5 y6 y7 y8 hI' hm => ih y1 y2 y3 y4 y5 y6 y7 y8 hI' (by omega))
theorem tw_native : Cond.native arraycopyName ∈ zt := zt_mem 403 (by decide +kernel) (by decide +kernel)
theorem tw_static : Cond.static arraycopyName ∈ zt := zt_mem 402 (by decide +kernel) (by decide +kernel)
theorem tw_inisys : Cond.initialized "java/lang/System" ∈ zt := zt_mem 9 (by decide +kernel) (by decide +kernel)
/-- an array of ints is a cell of the world: its place, its length -/
def Zar (w : ZW) (cA : ClassId) (k a n : Nat) : Prop := w.2.2.1[0]? = some (cA, .int) ∧ (∀ M : Mem, (w.2.2.2.1 M)[k]? = some (a, .inl (cA, n, .inl (M k)))) ∧ (∀ (M : Mem) (f : Nat → Int32), (w.2.2.2.1 M).set k (a, .inl (cA, n, .inl f)) = w.2.2.2.1 (upr M k f))
section ZT
variable {X : ZX} {cc : ByteArray} {own : String} {nL : Nat} {rm : Room} {w : ZW} {M : Mem} {pc : Nat} {lv : List (Nat × Value)} {st : List Value} {cA : ClassId} {k a n : Nat}
theorem z_al (h : Zar w cA k a n) (C : Zc X cc own nL rm w) {i : Int32} (hi : vp_in i n) (hd : decode cc pc = .ok (.iaload, 1)) (kk : Zj X nL w M (pc + 1) lv (.int (M k (tn i)) :: st)) : Zj X nL w M pc lv (.int i :: .ref a :: st) := z_iald C k 0 (h.2.1 M) h.1 hi hd kk
theorem z_as (h : Zar w cA k a n) (C : Zc X cc own nL rm w) {i x : Int32} (hi : vp_in i n) (hd : decode cc pc = .ok (.iastore, 1)) (kk : ∀ M2, M2 = upm M k (tn i) x → Zj X nL w M2 (pc + 1) lv st) : Zj X nL w M pc lv (.int x :: .int i :: .ref a :: st) := z_iast C k 0 (h.2.1 M) h.1 hi hd (h.2.2 M _) (kk _ rfl)
theorem z_an (h : Zar w cA k a n) (C : Zc X cc own nL rm w) {v : Int32} (hv : Int32.ofNat n = v) (hd : decode cc pc = .ok (.arraylength, 1)) (kk : Zj X nL w M (pc + 1) lv (.int v :: st)) : Zj X nL w M pc lv (.ref a :: st) := z_alen C k 0 (h.2.1 M) h.1 hv hd kk
theorem z_acopy {k0 a0 n0 : Nat} (C : Zc X cc own nL rm w) {index : Nat} (hlink : Cond.methodLink own index arraycopyName ∈ zt) (h0 : Zar w cA k0 a0 n0) (h : Zar w cA k a n) {sp dp m : Int32} (hb : ¬ sp < 0 ∧ ¬ dp < 0 ∧ ¬ m < 0 ∧ tn sp + tn m ≤ n0 ∧ tn dp + tn m ≤ n) (hfr : 1 ≤ rm.frames) (hlo : (st.map fun v => v.category).sum + (nativeFrameWords "java/lang/System" "arraycopy" 5 + 11) ≤ rm.locals) (hd : decode cc pc = .ok (.invokestatic index, 3))
    (kk : ∀ M2, M2 = upr M k (va_cpy (M k0) (M k) (tn sp) (tn dp) (tn m)) → Zj X nL w M2 (pc + 3) lv st) : Zj X nL w M pc lv (.int m :: .int dp :: .ref a :: .int sp :: .ref a0 :: st) := z_copy C hlink tw_native tw_static tw_inisys k0 k 0 (h0.2.1 M) (h.2.1 M) h.1 hb.1 hb.2.1 hb.2.2.1 hb.2.2.2.1 hb.2.2.2.2 hfr hlo hd (h.2.2 M _) (kk _ rfl)
theorem z_gets (C : Zc X cc own nL rm w) {index : Nat} (hlink : Cond.fieldLink own index "SnowRoad" "DIGEST_PLOUGH_HOURS" "[I" ∈ zt) (hd : decode cc pc = .ok (.getstatic index, 3)) (kk : Zj X nL w M (pc + 3) lv (.ref w.2.2.2.2 :: st)) : Zj X nL w M pc lv st := by
  obtain ⟨p, l, e, R, s, m, args, below, meth, c, A, Q⟩ := X
  obtain ⟨hx, hb, hml, ho, htb, hK, hDa, hA, hlk, hR, hZ⟩ := C
  exact fun H locs ls hl hP hS => va_gets hx hb hZ.1 hS ho (htb _ hlink) (fun _ h => h) hd (kk H locs ls hl hP hS)
theorem z_tlen (C : Zc X cc own nL rm w) (hd : decode cc pc = .ok (.arraylength, 1)) (kk : Zj X nL w M (pc + 1) lv (.int 3 :: st)) : Zj X nL w M pc lv (.ref w.2.2.2.2 :: st) := by
  obtain ⟨p, l, e, R, s, m, args, below, meth, c, A, Q⟩ := X
  obtain ⟨hx, hb, hml, ho, htb, hK, hDa, hA, hlk, hR, hZ⟩ := C
  exact fun H locs ls hl hP hS => va_tlen hx hb hZ.2 hS rfl hd (kk H locs ls hl hP hS)
theorem z_ti (C : Zc X cc own nL rm w) {i : Int32} (hi : vp_in i 3) (hd : decode cc pc = .ok (.iaload, 1)) (kk : Zj X nL w M (pc + 1) lv (.int (zz_tab (tn i)) :: st)) : Zj X nL w M pc lv (.int i :: .ref w.2.2.2.2 :: st) := by
  obtain ⟨p, l, e, R, s, m, args, below, meth, c, A, Q⟩ := X
  obtain ⟨hx, hb, hml, ho, htb, hK, hDa, hA, hlk, hR, hZ⟩ := C
  exact fun H locs ls hl hP hS => va_ti hx hb hZ.2 hS hi rfl hd (kk H locs ls hl hP hS)
end ZT
end
section
/-! names; words of the tables by their places -/
abbrev y_X_allBytes : MethodName := ⟨"SnowRoad", "allBytes", "()I"⟩
abbrev y_X_allEvents : MethodName := ⟨"SnowRoad", "allEvents", "()I"⟩
abbrev y_X_allOverBut : MethodName := ⟨"SnowRoad", "allOverBut", "(I)Z"⟩
abbrev y_X_asTold : MethodName := ⟨"SnowRoad", "asTold", "()LSnowRoad$Winter;"⟩
abbrev y_X_ask : MethodName := ⟨"SnowRoad", "ask", "(I)I"⟩
abbrev y_X_at : MethodName := ⟨"SnowRoad", "at", "(III)I"⟩
abbrev y_X_back : MethodName := ⟨"SnowRoad", "back", "()I"⟩
abbrev y_X_begin : MethodName := ⟨"SnowRoad", "begin", "(II)I"⟩
abbrev y_X_best : MethodName := ⟨"SnowRoad", "best", "()I"⟩
abbrev y_X_bus : MethodName := ⟨"SnowRoad", "bus", "(I)I"⟩
abbrev y_X_chance : MethodName := ⟨"SnowRoad", "chance", "(III)J"⟩
abbrev y_X_changed : MethodName := ⟨"SnowRoad", "changed", "()V"⟩
abbrev y_X_cleared : MethodName := ⟨"SnowRoad", "cleared", "(II)I"⟩
abbrev y_X_copy : MethodName := ⟨"SnowRoad", "copy", "(IIIII)I"⟩
abbrev y_X_count : MethodName := ⟨"SnowRoad", "count", "(I)I"⟩
abbrev y_X_countChoices : MethodName := ⟨"SnowRoad", "countChoices", "()V"⟩
abbrev y_X_deep : MethodName := ⟨"SnowRoad", "deep", "(II)I"⟩
abbrev y_X_deepest : MethodName := ⟨"SnowRoad", "deepest", "(I)I"⟩
abbrev y_X_digest : MethodName := ⟨"SnowRoad", "digest", "()J"⟩
abbrev y_X_drawFall : MethodName := ⟨"SnowRoad", "drawFall", "(II)V"⟩
abbrev y_X_event : MethodName := ⟨"SnowRoad", "event", "(III)I"⟩
abbrev y_X_fall : MethodName := ⟨"SnowRoad", "fall", "(I)I"⟩
abbrev y_X_fault : MethodName := ⟨"SnowRoad", "fault", "(I)I"⟩
abbrev y_X_forget : MethodName := ⟨"SnowRoad", "forget", "()I"⟩
abbrev y_X_found : MethodName := ⟨"SnowRoad", "found", "(I)I"⟩
abbrev y_X_get : MethodName := ⟨"SnowRoad", "get", "(III)I"⟩
abbrev y_X_hedge : MethodName := ⟨"SnowRoad", "hedge", "(I)I"⟩
abbrev y_X_land : MethodName := ⟨"SnowRoad", "land", "(I)I"⟩
abbrev y_X_lay : MethodName := ⟨"SnowRoad", "lay", "(IIII)I"⟩
abbrev y_X_lie : MethodName := ⟨"SnowRoad", "lie", "(I)I"⟩
abbrev y_X_lose : MethodName := ⟨"SnowRoad", "lose", "(I)I"⟩
abbrev y_X_mayBeEvent : MethodName := ⟨"SnowRoad", "mayBeEvent", "(III)Z"⟩
abbrev y_X_mix : MethodName := ⟨"SnowRoad", "mix", "(JJ)J"⟩
abbrev y_X_mixBus : MethodName := ⟨"SnowRoad", "mixBus", "(JI)J"⟩
abbrev y_X_mixPlough : MethodName := ⟨"SnowRoad", "mixPlough", "(JI)J"⟩
abbrev y_X_mostAlike : MethodName := ⟨"SnowRoad", "mostAlike", "(II)I"⟩
abbrev y_X_never : MethodName := ⟨"SnowRoad", "never", "()I"⟩
abbrev y_X_outside : MethodName := ⟨"SnowRoad", "outside", "(II)Z"⟩
abbrev y_X_over : MethodName := ⟨"SnowRoad", "over", "(II)I"⟩
abbrev y_X_plough : MethodName := ⟨"SnowRoad", "plough", "(II)I"⟩
abbrev y_X_power : MethodName := ⟨"SnowRoad", "power", "(II)J"⟩
abbrev y_X_read : MethodName := ⟨"SnowRoad", "read", "(I)I"⟩
abbrev y_X_rides : MethodName := ⟨"SnowRoad", "rides", "(II)I"⟩
abbrev y_X_sameDrift : MethodName := ⟨"SnowRoad", "sameDrift", "(III)Z"⟩
abbrev y_X_seen : MethodName := ⟨"SnowRoad", "seen", "(III)I"⟩
abbrev y_X_sheet : MethodName := ⟨"SnowRoad", "sheet", "(III)I"⟩
abbrev y_X_shut : MethodName := ⟨"SnowRoad", "shut", "()I"⟩
abbrev y_X_snow : MethodName := ⟨"SnowRoad", "snow", "(II)I"⟩
abbrev y_X_spare : MethodName := ⟨"SnowRoad", "spare", "(I)I"⟩
abbrev y_X_sparedEvents : MethodName := ⟨"SnowRoad", "sparedEvents", "()I"⟩
abbrev y_X_start : MethodName := ⟨"SnowRoad", "start", "(II)I"⟩
abbrev y_X_strengths : MethodName := ⟨"SnowRoad", "strengths", "(I)I"⟩
abbrev y_X_takeText : MethodName := ⟨"SnowRoad", "takeText", "(I)V"⟩
abbrev y_X_tryLand : MethodName := ⟨"SnowRoad", "tryLand", "(II)V"⟩
abbrev y_X_tryStrength : MethodName := ⟨"SnowRoad", "tryStrength", "(II)V"⟩
abbrev y_X_type : MethodName := ⟨"SnowRoad", "type", "(II)I"⟩
abbrev y_X_undo : MethodName := ⟨"SnowRoad", "undo", "(I)I"⟩
abbrev y_X_wind : MethodName := ⟨"SnowRoad", "wind", "(I)I"⟩
abbrev y_X_winters : MethodName := ⟨"SnowRoad", "winters", "(III)I"⟩
abbrev y_X_wipe : MethodName := ⟨"SnowRoad", "wipe", "(I)I"⟩
abbrev y_X_write : MethodName := ⟨"SnowRoad", "write", "(II)I"⟩
abbrev y_X_wrongWith : MethodName := ⟨"SnowRoad", "wrongWith", "(LSnowRoad$Sheet;II)I"⟩
abbrev y_XH_hasItems : MethodName := ⟨"SnowRoad$Sheet", "hasItems", "(II)Z"⟩
abbrev y_XH_put : MethodName := ⟨"SnowRoad$Sheet", "put", "(II)V"⟩
abbrev y_XH_renew : MethodName := ⟨"SnowRoad$Sheet", "renew", "(II)V"⟩
abbrev y_XG_add : MethodName := ⟨"SnowRoad$Sightings", "add", "(III)Z"⟩
abbrev y_XG_fit : MethodName := ⟨"SnowRoad$Sightings", "fit", "(LSnowRoad$Winter;)Z"⟩
abbrev y_XT_append : MethodName := ⟨"SnowRoad$Text", "append", "(I)Z"⟩
abbrev y_XT_firstFault : MethodName := ⟨"SnowRoad$Text", "firstFault", "()I"⟩
abbrev y_XT_mayStand : MethodName := ⟨"SnowRoad$Text", "mayStand", "(II)Z"⟩
abbrev y_XT_mayStandInPloughs : MethodName := ⟨"SnowRoad$Text", "mayStandInPloughs", "(II)Z"⟩
abbrev y_XT_meant : MethodName := ⟨"SnowRoad$Text", "meant", "()I"⟩
abbrev y_XO_addEvent : MethodName := ⟨"SnowRoad$Told", "addEvent", "(III)Z"⟩
abbrev y_XO_takeBuses : MethodName := ⟨"SnowRoad$Told", "takeBuses", "(LSnowRoad$Text;)V"⟩
abbrev y_XO_takeFall : MethodName := ⟨"SnowRoad$Told", "takeFall", "(LSnowRoad$Text;)V"⟩
abbrev y_XO_takeLand : MethodName := ⟨"SnowRoad$Told", "takeLand", "(LSnowRoad$Text;)V"⟩
abbrev y_XO_takePloughs : MethodName := ⟨"SnowRoad$Told", "takePloughs", "(LSnowRoad$Text;)V"⟩
abbrev y_XW_busesOver : MethodName := ⟨"SnowRoad$Winter", "busesOver", "(LSnowRoad$Told;)I"⟩
abbrev y_XW_deepMilesBehind : MethodName := ⟨"SnowRoad$Winter", "deepMilesBehind", "(I)I"⟩
abbrev y_XW_deepestPlace : MethodName := ⟨"SnowRoad$Winter", "deepestPlace", "()I"⟩
abbrev y_XW_ploughGoes : MethodName := ⟨"SnowRoad$Winter", "ploughGoes", "(II)I"⟩
abbrev y_XW_ploughsGo : MethodName := ⟨"SnowRoad$Winter", "ploughsGo", "(LSnowRoad$Told;I)V"⟩
abbrev y_XW_ride : MethodName := ⟨"SnowRoad$Winter", "ride", "(II)V"⟩
abbrev y_XW_rideOn : MethodName := ⟨"SnowRoad$Winter", "rideOn", "(II)I"⟩
abbrev y_XW_run : MethodName := ⟨"SnowRoad$Winter", "run", "(LSnowRoad$Told;I)V"⟩
abbrev y_XW_snowBehind : MethodName := ⟨"SnowRoad$Winter", "snowBehind", "(I)I"⟩
abbrev y_XW_snowFalls : MethodName := ⟨"SnowRoad$Winter", "snowFalls", "([II)V"⟩
abbrev y_XW_snowThaws : MethodName := ⟨"SnowRoad$Winter", "snowThaws", "(LSnowRoad$Told;II)V"⟩
abbrev y_XW_sortEvent : MethodName := ⟨"SnowRoad$Winter", "sortEvent", "(III)V"⟩
abbrev y_XW_sortEvents : MethodName := ⟨"SnowRoad$Winter", "sortEvents", "(LSnowRoad$Told;I)V"⟩
abbrev y_XW_windCarries : MethodName := ⟨"SnowRoad$Winter", "windCarries", "([II)V"⟩
abbrev y_R_alike : MethodName := ⟨"SnowRoadModel", "alike", "(II)I"⟩
abbrev y_R_ask : MethodName := ⟨"SnowRoadModel", "ask", "(I)I"⟩
abbrev y_R_askOf : MethodName := ⟨"SnowRoadModel", "askOf", "(I)I"⟩
abbrev y_R_at : MethodName := ⟨"SnowRoadModel", "at", "(III)I"⟩
abbrev y_R_atBy : MethodName := ⟨"SnowRoadModel", "atBy", "(III)I"⟩
abbrev y_R_back : MethodName := ⟨"SnowRoadModel", "back", "()I"⟩
abbrev y_R_begin : MethodName := ⟨"SnowRoadModel", "begin", "(II)I"⟩
abbrev y_R_beginOf : MethodName := ⟨"SnowRoadModel", "beginOf", "(II)I"⟩
abbrev y_R_best : MethodName := ⟨"SnowRoadModel", "best", "()I"⟩
abbrev y_R_bestNow : MethodName := ⟨"SnowRoadModel", "bestNow", "()I"⟩
abbrev y_R_bus : MethodName := ⟨"SnowRoadModel", "bus", "(I)I"⟩
abbrev y_R_chance : MethodName := ⟨"SnowRoadModel", "chance", "(III)J"⟩
abbrev y_R_chanceOf : MethodName := ⟨"SnowRoadModel", "chanceOf", "(III)J"⟩
abbrev y_R_cleared : MethodName := ⟨"SnowRoadModel", "cleared", "(II)I"⟩
abbrev y_R_clearedBy : MethodName := ⟨"SnowRoadModel", "clearedBy", "(II)I"⟩
abbrev y_R_clears : MethodName := ⟨"SnowRoadModel", "clears", "()V"⟩
abbrev y_R_copy : MethodName := ⟨"SnowRoadModel", "copy", "(IIIII)I"⟩
abbrev y_R_count : MethodName := ⟨"SnowRoadModel", "count", "(I)I"⟩
abbrev y_R_cut : MethodName := ⟨"SnowRoadModel", "cut", "(II)I"⟩
abbrev y_R_deep : MethodName := ⟨"SnowRoadModel", "deep", "(II)I"⟩
abbrev y_R_deepest : MethodName := ⟨"SnowRoadModel", "deepest", "(I)I"⟩
abbrev y_R_deepestBy : MethodName := ⟨"SnowRoadModel", "deepestBy", "(I)I"⟩
abbrev y_R_digest : MethodName := ⟨"SnowRoadModel", "digest", "()J"⟩
abbrev y_R_drives : MethodName := ⟨"SnowRoadModel", "drives", "(IIZ)V"⟩
abbrev y_R_event : MethodName := ⟨"SnowRoadModel", "event", "(III)I"⟩
abbrev y_R_fall : MethodName := ⟨"SnowRoadModel", "fall", "(I)I"⟩
abbrev y_R_fault : MethodName := ⟨"SnowRoadModel", "fault", "(I)I"⟩
abbrev y_R_figureOf : MethodName := ⟨"SnowRoadModel", "figureOf", "(II)I"⟩
abbrev y_R_find : MethodName := ⟨"SnowRoadModel", "find", "()V"⟩
abbrev y_R_finds : MethodName := ⟨"SnowRoadModel", "finds", "(I)I"⟩
abbrev y_R_forget : MethodName := ⟨"SnowRoadModel", "forget", "()I"⟩
abbrev y_R_get : MethodName := ⟨"SnowRoadModel", "get", "(III)I"⟩
abbrev y_R_greater : MethodName := ⟨"SnowRoadModel", "greater", "(II)I"⟩
abbrev y_R_hedge : MethodName := ⟨"SnowRoadModel", "hedge", "(I)I"⟩
abbrev y_R_hedgeBy : MethodName := ⟨"SnowRoadModel", "hedgeBy", "(I)I"⟩
abbrev y_R_in : MethodName := ⟨"SnowRoadModel", "in", "(JJJ)Z"⟩
abbrev y_R_isBroken : MethodName := ⟨"SnowRoadModel", "isBroken", "(II)Z"⟩
abbrev y_R_isBus : MethodName := ⟨"SnowRoadModel", "isBus", "(I)Z"⟩
abbrev y_R_isHour : MethodName := ⟨"SnowRoadModel", "isHour", "(I)Z"⟩
abbrev y_R_isIn : MethodName := ⟨"SnowRoadModel", "isIn", "(II)Z"⟩
abbrev y_R_isMile : MethodName := ⟨"SnowRoadModel", "isMile", "(I)Z"⟩
abbrev y_R_isPlough : MethodName := ⟨"SnowRoadModel", "isPlough", "(I)Z"⟩
abbrev y_R_isSeen : MethodName := ⟨"SnowRoadModel", "isSeen", "()Z"⟩
abbrev y_R_isSheet : MethodName := ⟨"SnowRoadModel", "isSheet", "(I)Z"⟩
abbrev y_R_isSpared : MethodName := ⟨"SnowRoadModel", "isSpared", "(I)Z"⟩
abbrev y_R_isText : MethodName := ⟨"SnowRoadModel", "isText", "(I)Z"⟩
abbrev y_R_isTold : MethodName := ⟨"SnowRoadModel", "isTold", "(III)Z"⟩
abbrev y_R_isTwo : MethodName := ⟨"SnowRoadModel", "isTwo", "(I)Z"⟩
abbrev y_R_lacks : MethodName := ⟨"SnowRoadModel", "lacks", "(III)I"⟩
abbrev y_R_land : MethodName := ⟨"SnowRoadModel", "land", "(I)I"⟩
abbrev y_R_lay : MethodName := ⟨"SnowRoadModel", "lay", "(IIII)I"⟩
abbrev y_R_lesser : MethodName := ⟨"SnowRoadModel", "lesser", "(II)I"⟩
abbrev y_R_letterOf : MethodName := ⟨"SnowRoadModel", "letterOf", "(II)I"⟩
abbrev y_R_lie : MethodName := ⟨"SnowRoadModel", "lie", "(I)I"⟩
abbrev y_R_lieOf : MethodName := ⟨"SnowRoadModel", "lieOf", "(I)I"⟩
abbrev y_R_lives : MethodName := ⟨"SnowRoadModel", "lives", "()V"⟩
abbrev y_R_lose : MethodName := ⟨"SnowRoadModel", "lose", "(I)I"⟩
abbrev y_R_lot : MethodName := ⟨"SnowRoadModel", "lot", "(I)I"⟩
abbrev y_R_manyOver : MethodName := ⟨"SnowRoadModel", "manyOver", "()I"⟩
abbrev y_R_never : MethodName := ⟨"SnowRoadModel", "never", "()I"⟩
abbrev y_R_neverNow : MethodName := ⟨"SnowRoadModel", "neverNow", "()I"⟩
abbrev y_R_no : MethodName := ⟨"SnowRoadModel", "no", "(I)J"⟩
abbrev y_R_over : MethodName := ⟨"SnowRoadModel", "over", "(II)I"⟩
abbrev y_R_overBy : MethodName := ⟨"SnowRoadModel", "overBy", "(II)I"⟩
abbrev y_R_part : MethodName := ⟨"SnowRoadModel", "part", "(JJI)J"⟩
abbrev y_R_passes : MethodName := ⟨"SnowRoadModel", "passes", "(I)V"⟩
abbrev y_R_plains : MethodName := ⟨"SnowRoadModel", "plains", "()V"⟩
abbrev y_R_plough : MethodName := ⟨"SnowRoadModel", "plough", "(II)I"⟩
abbrev y_R_ploughOf : MethodName := ⟨"SnowRoadModel", "ploughOf", "(II)I"⟩
abbrev y_R_read : MethodName := ⟨"SnowRoadModel", "read", "(I)I"⟩
abbrev y_R_readsBuses : MethodName := ⟨"SnowRoadModel", "readsBuses", "()I"⟩
abbrev y_R_readsFall : MethodName := ⟨"SnowRoadModel", "readsFall", "()I"⟩
abbrev y_R_readsLand : MethodName := ⟨"SnowRoadModel", "readsLand", "()I"⟩
abbrev y_R_readsPloughs : MethodName := ⟨"SnowRoadModel", "readsPloughs", "()I"⟩
abbrev y_R_readsText : MethodName := ⟨"SnowRoadModel", "readsText", "(I)I"⟩
abbrev y_R_rides : MethodName := ⟨"SnowRoadModel", "rides", "(II)I"⟩
abbrev y_R_same : MethodName := ⟨"SnowRoadModel", "same", "(III)Z"⟩
abbrev y_R_scoops : MethodName := ⟨"SnowRoadModel", "scoops", "(I)I"⟩
abbrev y_R_seen : MethodName := ⟨"SnowRoadModel", "seen", "(III)I"⟩
abbrev y_R_sheet : MethodName := ⟨"SnowRoadModel", "sheet", "(III)I"⟩
abbrev y_R_shut : MethodName := ⟨"SnowRoadModel", "shut", "()I"⟩
abbrev y_R_shutNow : MethodName := ⟨"SnowRoadModel", "shutNow", "()I"⟩
abbrev y_R_snow : MethodName := ⟨"SnowRoadModel", "snow", "(II)I"⟩
abbrev y_R_snowBy : MethodName := ⟨"SnowRoadModel", "snowBy", "(II)I"⟩
abbrev y_R_spare : MethodName := ⟨"SnowRoadModel", "spare", "(I)I"⟩
abbrev y_R_spareBy : MethodName := ⟨"SnowRoadModel", "spareBy", "(I)I"⟩
abbrev y_R_start : MethodName := ⟨"SnowRoadModel", "start", "(II)I"⟩
abbrev y_R_startOf : MethodName := ⟨"SnowRoadModel", "startOf", "(II)I"⟩
abbrev y_R_strengths : MethodName := ⟨"SnowRoadModel", "strengths", "(I)I"⟩
abbrev y_R_strengthsOf : MethodName := ⟨"SnowRoadModel", "strengthsOf", "(I)I"⟩
abbrev y_R_tellsBus : MethodName := ⟨"SnowRoadModel", "tellsBus", "(JI)J"⟩
abbrev y_R_tellsHour : MethodName := ⟨"SnowRoadModel", "tellsHour", "(JII)J"⟩
abbrev y_R_tellsPlough : MethodName := ⟨"SnowRoadModel", "tellsPlough", "(JI)J"⟩
abbrev y_R_type : MethodName := ⟨"SnowRoadModel", "type", "(II)I"⟩
abbrev y_R_undo : MethodName := ⟨"SnowRoadModel", "undo", "(I)I"⟩
abbrev y_R_weathers : MethodName := ⟨"SnowRoadModel", "weathers", "(I)V"⟩
abbrev y_R_wind : MethodName := ⟨"SnowRoadModel", "wind", "(I)I"⟩
abbrev y_R_winters : MethodName := ⟨"SnowRoadModel", "winters", "(III)I"⟩
abbrev y_R_wintersOf : MethodName := ⟨"SnowRoadModel", "wintersOf", "(III)I"⟩
abbrev y_R_wipe : MethodName := ⟨"SnowRoadModel", "wipe", "(I)I"⟩
abbrev y_R_write : MethodName := ⟨"SnowRoadModel", "write", "(II)I"⟩
abbrev y_J_bitCount : MethodName := ⟨"java/lang/Integer", "bitCount", "(I)I"⟩
abbrev y_J_numberOfTrailingZeros : MethodName := ⟨"java/lang/Integer", "numberOfTrailingZeros", "(I)I"⟩
abbrev y_J_max : MethodName := ⟨"java/lang/Math", "max", "(II)I"⟩
abbrev y_J_min : MethodName := ⟨"java/lang/Math", "min", "(II)I"⟩
abbrev y_J_arraycopy : MethodName := ⟨"java/lang/System", "arraycopy", "(Ljava/lang/Object;ILjava/lang/Object;II)V"⟩
abbrev y_J_fill : MethodName := ⟨"java/util/Arrays", "fill", "([II)V"⟩
theorem ts_0 : Cond.selects "SnowRoad" y_X_takeText y_X_takeText ∈ zt := zt_sel 0 (by decide +kernel) (by decide +kernel)
theorem ts_1 : Cond.selects "SnowRoad$Text" y_XT_mayStand y_XT_mayStand ∈ zt := zt_sel 1 (by decide +kernel) (by decide +kernel)
theorem ts_2 : Cond.selects "SnowRoad" y_X_changed y_X_changed ∈ zt := zt_sel 2 (by decide +kernel) (by decide +kernel)
theorem ts_3 : Cond.selects "SnowRoad" y_X_found y_X_found ∈ zt := zt_sel 3 (by decide +kernel) (by decide +kernel)
theorem ts_4 : Cond.selects "SnowRoad" y_X_asTold y_X_asTold ∈ zt := zt_sel 4 (by decide +kernel) (by decide +kernel)
theorem ts_5 : Cond.selects "SnowRoad" y_X_allEvents y_X_allEvents ∈ zt := zt_sel 5 (by decide +kernel) (by decide +kernel)
theorem ts_6 : Cond.selects "SnowRoad$Winter" y_XW_sortEvents y_XW_sortEvents ∈ zt := zt_sel 6 (by decide +kernel) (by decide +kernel)
theorem ts_7 : Cond.selects "SnowRoad$Winter" y_XW_sortEvent y_XW_sortEvent ∈ zt := zt_sel 7 (by decide +kernel) (by decide +kernel)
theorem ts_8 : Cond.selects "SnowRoad$Winter" y_XW_snowFalls y_XW_snowFalls ∈ zt := zt_sel 8 (by decide +kernel) (by decide +kernel)
theorem ts_9 : Cond.selects "SnowRoad$Winter" y_XW_windCarries y_XW_windCarries ∈ zt := zt_sel 9 (by decide +kernel) (by decide +kernel)
theorem ts_10 : Cond.selects "SnowRoad$Winter" y_XW_snowThaws y_XW_snowThaws ∈ zt := zt_sel 10 (by decide +kernel) (by decide +kernel)
theorem ts_11 : Cond.selects "SnowRoad$Winter" y_XW_ploughsGo y_XW_ploughsGo ∈ zt := zt_sel 11 (by decide +kernel) (by decide +kernel)
theorem ts_12 : Cond.selects "SnowRoad$Winter" y_XW_ploughGoes y_XW_ploughGoes ∈ zt := zt_sel 12 (by decide +kernel) (by decide +kernel)
theorem ts_13 : Cond.selects "SnowRoad$Winter" y_XW_rideOn y_XW_rideOn ∈ zt := zt_sel 13 (by decide +kernel) (by decide +kernel)
theorem ts_14 : Cond.selects "SnowRoad" y_X_tryLand y_X_tryLand ∈ zt := zt_sel 14 (by decide +kernel) (by decide +kernel)
theorem ts_15 : Cond.selects "SnowRoad" y_X_sparedEvents y_X_sparedEvents ∈ zt := zt_sel 15 (by decide +kernel) (by decide +kernel)
theorem ts_16 : Cond.selects "SnowRoad" y_X_allOverBut y_X_allOverBut ∈ zt := zt_sel 16 (by decide +kernel) (by decide +kernel)
theorem ts_17 : Cond.selects "SnowRoad" y_X_tryStrength y_X_tryStrength ∈ zt := zt_sel 17 (by decide +kernel) (by decide +kernel)
theorem ts_18 : Cond.selects "SnowRoad" y_X_mostAlike y_X_mostAlike ∈ zt := zt_sel 18 (by decide +kernel) (by decide +kernel)
theorem ts_19 : Cond.selects "SnowRoad" y_X_sameDrift y_X_sameDrift ∈ zt := zt_sel 19 (by decide +kernel) (by decide +kernel)
theorem ts_20 : Cond.selects "SnowRoad" y_X_countChoices y_X_countChoices ∈ zt := zt_sel 20 (by decide +kernel) (by decide +kernel)
theorem ts_21 : Cond.selects "SnowRoad" y_X_drawFall y_X_drawFall ∈ zt := zt_sel 21 (by decide +kernel) (by decide +kernel)
theorem ts_22 : Cond.selects "SnowRoad" y_X_allBytes y_X_allBytes ∈ zt := zt_sel 22 (by decide +kernel) (by decide +kernel)
theorem ts_23 : Cond.selects "SnowRoad" y_X_mixPlough y_X_mixPlough ∈ zt := zt_sel 23 (by decide +kernel) (by decide +kernel)
theorem ts_24 : Cond.selects "SnowRoad" y_X_mixBus y_X_mixBus ∈ zt := zt_sel 24 (by decide +kernel) (by decide +kernel)
theorem ts_25 : Cond.selects "SnowRoadModel" y_R_finds y_R_finds ∈ zt := zt_sel 25 (by decide +kernel) (by decide +kernel)
theorem ts_26 : Cond.selects "SnowRoadModel" y_R_lacks y_R_lacks ∈ zt := zt_sel 26 (by decide +kernel) (by decide +kernel)
theorem ts_27 : Cond.selects "SnowRoadModel" y_R_readsText y_R_readsText ∈ zt := zt_sel 27 (by decide +kernel) (by decide +kernel)
theorem ts_28 : Cond.selects "SnowRoadModel" y_R_readsLand y_R_readsLand ∈ zt := zt_sel 28 (by decide +kernel) (by decide +kernel)
theorem ts_29 : Cond.selects "SnowRoadModel" y_R_plains y_R_plains ∈ zt := zt_sel 29 (by decide +kernel) (by decide +kernel)
theorem ts_30 : Cond.selects "SnowRoadModel" y_R_readsFall y_R_readsFall ∈ zt := zt_sel 30 (by decide +kernel) (by decide +kernel)
theorem ts_31 : Cond.selects "SnowRoadModel" y_R_clears y_R_clears ∈ zt := zt_sel 31 (by decide +kernel) (by decide +kernel)
theorem ts_32 : Cond.selects "SnowRoadModel" y_R_readsPloughs y_R_readsPloughs ∈ zt := zt_sel 32 (by decide +kernel) (by decide +kernel)
theorem ts_33 : Cond.selects "SnowRoadModel" y_R_readsBuses y_R_readsBuses ∈ zt := zt_sel 33 (by decide +kernel) (by decide +kernel)
theorem ts_34 : Cond.selects "SnowRoadModel" y_R_isPlough y_R_isPlough ∈ zt := zt_sel 34 (by decide +kernel) (by decide +kernel)
theorem ts_35 : Cond.selects "SnowRoadModel" y_R_isBus y_R_isBus ∈ zt := zt_sel 35 (by decide +kernel) (by decide +kernel)
theorem ts_36 : Cond.selects "SnowRoadModel" y_R_find y_R_find ∈ zt := zt_sel 36 (by decide +kernel) (by decide +kernel)
theorem ts_37 : Cond.selects "SnowRoadModel" y_R_lives y_R_lives ∈ zt := zt_sel 37 (by decide +kernel) (by decide +kernel)
theorem ts_38 : Cond.selects "SnowRoadModel" y_R_passes y_R_passes ∈ zt := zt_sel 38 (by decide +kernel) (by decide +kernel)
theorem ts_39 : Cond.selects "SnowRoadModel" y_R_weathers y_R_weathers ∈ zt := zt_sel 39 (by decide +kernel) (by decide +kernel)
theorem ts_40 : Cond.selects "SnowRoadModel" y_R_isTold y_R_isTold ∈ zt := zt_sel 40 (by decide +kernel) (by decide +kernel)
theorem ts_41 : Cond.selects "SnowRoadModel" y_R_isBroken y_R_isBroken ∈ zt := zt_sel 41 (by decide +kernel) (by decide +kernel)
theorem ts_42 : Cond.selects "SnowRoadModel" y_R_scoops y_R_scoops ∈ zt := zt_sel 42 (by decide +kernel) (by decide +kernel)
theorem ts_43 : Cond.selects "SnowRoadModel" y_R_drives y_R_drives ∈ zt := zt_sel 43 (by decide +kernel) (by decide +kernel)
theorem ts_44 : Cond.selects "SnowRoadModel" y_R_atBy y_R_atBy ∈ zt := zt_sel 44 (by decide +kernel) (by decide +kernel)
theorem ts_45 : Cond.selects "SnowRoadModel" y_R_snowBy y_R_snowBy ∈ zt := zt_sel 45 (by decide +kernel) (by decide +kernel)
theorem ts_46 : Cond.selects "SnowRoadModel" y_R_overBy y_R_overBy ∈ zt := zt_sel 46 (by decide +kernel) (by decide +kernel)
theorem ts_47 : Cond.selects "SnowRoadModel" y_R_clearedBy y_R_clearedBy ∈ zt := zt_sel 47 (by decide +kernel) (by decide +kernel)
theorem ts_48 : Cond.selects "SnowRoadModel" y_R_deepestBy y_R_deepestBy ∈ zt := zt_sel 48 (by decide +kernel) (by decide +kernel)
theorem ts_49 : Cond.selects "SnowRoadModel" y_R_shutNow y_R_shutNow ∈ zt := zt_sel 49 (by decide +kernel) (by decide +kernel)
theorem ts_50 : Cond.selects "SnowRoadModel" y_R_bestNow y_R_bestNow ∈ zt := zt_sel 50 (by decide +kernel) (by decide +kernel)
theorem ts_51 : Cond.selects "SnowRoadModel" y_R_beginOf y_R_beginOf ∈ zt := zt_sel 51 (by decide +kernel) (by decide +kernel)
theorem ts_52 : Cond.selects "SnowRoadModel" y_R_manyOver y_R_manyOver ∈ zt := zt_sel 52 (by decide +kernel) (by decide +kernel)
theorem ts_53 : Cond.selects "SnowRoadModel" y_R_hedgeBy y_R_hedgeBy ∈ zt := zt_sel 53 (by decide +kernel) (by decide +kernel)
theorem ts_54 : Cond.selects "SnowRoadModel" y_R_startOf y_R_startOf ∈ zt := zt_sel 54 (by decide +kernel) (by decide +kernel)
theorem ts_55 : Cond.selects "SnowRoadModel" y_R_spareBy y_R_spareBy ∈ zt := zt_sel 55 (by decide +kernel) (by decide +kernel)
theorem ts_56 : Cond.selects "SnowRoadModel" y_R_isSpared y_R_isSpared ∈ zt := zt_sel 56 (by decide +kernel) (by decide +kernel)
theorem ts_57 : Cond.selects "SnowRoadModel" y_R_neverNow y_R_neverNow ∈ zt := zt_sel 57 (by decide +kernel) (by decide +kernel)
theorem ts_58 : Cond.selects "SnowRoadModel" y_R_isSeen y_R_isSeen ∈ zt := zt_sel 58 (by decide +kernel) (by decide +kernel)
theorem ts_59 : Cond.selects "SnowRoadModel" y_R_strengthsOf y_R_strengthsOf ∈ zt := zt_sel 59 (by decide +kernel) (by decide +kernel)
theorem ts_60 : Cond.selects "SnowRoadModel" y_R_lieOf y_R_lieOf ∈ zt := zt_sel 60 (by decide +kernel) (by decide +kernel)
theorem ts_61 : Cond.selects "SnowRoadModel" y_R_askOf y_R_askOf ∈ zt := zt_sel 61 (by decide +kernel) (by decide +kernel)
theorem ts_62 : Cond.selects "SnowRoadModel" y_R_alike y_R_alike ∈ zt := zt_sel 62 (by decide +kernel) (by decide +kernel)
theorem ts_63 : Cond.selects "SnowRoadModel" y_R_same y_R_same ∈ zt := zt_sel 63 (by decide +kernel) (by decide +kernel)
theorem ts_64 : Cond.selects "SnowRoadModel" y_R_chanceOf y_R_chanceOf ∈ zt := zt_sel 64 (by decide +kernel) (by decide +kernel)
theorem ts_65 : Cond.selects "SnowRoadModel" y_R_wintersOf y_R_wintersOf ∈ zt := zt_sel 65 (by decide +kernel) (by decide +kernel)
theorem ts_66 : Cond.selects "SnowRoadModel" y_R_lot y_R_lot ∈ zt := zt_sel 66 (by decide +kernel) (by decide +kernel)
theorem ts_67 : Cond.selects "SnowRoadModel" y_R_tellsPlough y_R_tellsPlough ∈ zt := zt_sel 67 (by decide +kernel) (by decide +kernel)
theorem ts_68 : Cond.selects "SnowRoadModel" y_R_tellsHour y_R_tellsHour ∈ zt := zt_sel 68 (by decide +kernel) (by decide +kernel)
theorem ts_69 : Cond.selects "SnowRoadModel" y_R_tellsBus y_R_tellsBus ∈ zt := zt_sel 69 (by decide +kernel) (by decide +kernel)
theorem tw_1 : Cond.initialized "SnowRoad" ∈ zt := zt_mem 1 (by decide +kernel) (by decide +kernel)
theorem tw_2 : Cond.initialized "SnowRoad$Told" ∈ zt := zt_mem 2 (by decide +kernel) (by decide +kernel)
theorem tw_3 : Cond.initialized "SnowRoad$Sightings" ∈ zt := zt_mem 3 (by decide +kernel) (by decide +kernel)
theorem tw_4 : Cond.initialized "SnowRoad$Winter" ∈ zt := zt_mem 4 (by decide +kernel) (by decide +kernel)
theorem tw_5 : Cond.initialized "SnowRoad$Text" ∈ zt := zt_mem 5 (by decide +kernel) (by decide +kernel)
theorem tw_6 : Cond.initialized "SnowRoad$Sheet" ∈ zt := zt_mem 6 (by decide +kernel) (by decide +kernel)
theorem tw_7 : Cond.initialized "SnowRoadModel" ∈ zt := zt_mem 7 (by decide +kernel) (by decide +kernel)
theorem tw_8 : Cond.initialized "java/util/Arrays" ∈ zt := zt_mem 8 (by decide +kernel) (by decide +kernel)
theorem tw_10 : Cond.initialized "java/lang/Integer" ∈ zt := zt_mem 10 (by decide +kernel) (by decide +kernel)
theorem tw_11 : Cond.initialized "java/lang/Math" ∈ zt := zt_mem 11 (by decide +kernel) (by decide +kernel)
theorem tw_28 : Cond.fieldLink "SnowRoad$Told" 9 "SnowRoad$Told" "lands" "[I" ∈ zt := zt_mem 28 (by decide +kernel) (by decide +kernel)
theorem tw_29 : Cond.fieldLink "SnowRoad$Winter" 79 "SnowRoad$Told" "lands" "[I" ∈ zt := zt_mem 29 (by decide +kernel) (by decide +kernel)
theorem tw_30 : Cond.fieldLink "SnowRoad" 88 "SnowRoad$Told" "lands" "[I" ∈ zt := zt_mem 30 (by decide +kernel) (by decide +kernel)
theorem tw_31 : Cond.fieldLink "SnowRoad$Told" 15 "SnowRoad$Told" "falls" "[I" ∈ zt := zt_mem 31 (by decide +kernel) (by decide +kernel)
theorem tw_32 : Cond.fieldLink "SnowRoad$Winter" 82 "SnowRoad$Told" "falls" "[I" ∈ zt := zt_mem 32 (by decide +kernel) (by decide +kernel)
theorem tw_33 : Cond.fieldLink "SnowRoad" 91 "SnowRoad$Told" "falls" "[I" ∈ zt := zt_mem 33 (by decide +kernel) (by decide +kernel)
theorem tw_34 : Cond.fieldLink "SnowRoad$Told" 18 "SnowRoad$Told" "ploughs" "I" ∈ zt := zt_mem 34 (by decide +kernel) (by decide +kernel)
theorem tw_35 : Cond.fieldLink "SnowRoad$Winter" 64 "SnowRoad$Told" "ploughs" "I" ∈ zt := zt_mem 35 (by decide +kernel) (by decide +kernel)
theorem tw_36 : Cond.fieldLink "SnowRoad" 94 "SnowRoad$Told" "ploughs" "I" ∈ zt := zt_mem 36 (by decide +kernel) (by decide +kernel)
theorem tw_37 : Cond.fieldLink "SnowRoad$Told" 22 "SnowRoad$Told" "begins" "[I" ∈ zt := zt_mem 37 (by decide +kernel) (by decide +kernel)
theorem tw_38 : Cond.fieldLink "SnowRoad$Winter" 69 "SnowRoad$Told" "begins" "[I" ∈ zt := zt_mem 38 (by decide +kernel) (by decide +kernel)
theorem tw_39 : Cond.fieldLink "SnowRoad" 97 "SnowRoad$Told" "begins" "[I" ∈ zt := zt_mem 39 (by decide +kernel) (by decide +kernel)
theorem tw_40 : Cond.fieldLink "SnowRoad$Told" 25 "SnowRoad$Told" "strong" "[I" ∈ zt := zt_mem 40 (by decide +kernel) (by decide +kernel)
theorem tw_41 : Cond.fieldLink "SnowRoad$Winter" 123 "SnowRoad$Told" "strong" "[I" ∈ zt := zt_mem 41 (by decide +kernel) (by decide +kernel)
theorem tw_42 : Cond.fieldLink "SnowRoad" 100 "SnowRoad$Told" "strong" "[I" ∈ zt := zt_mem 42 (by decide +kernel) (by decide +kernel)
theorem tw_43 : Cond.fieldLink "SnowRoad$Told" 28 "SnowRoad$Told" "ways" "[I" ∈ zt := zt_mem 43 (by decide +kernel) (by decide +kernel)
theorem tw_44 : Cond.fieldLink "SnowRoad$Winter" 72 "SnowRoad$Told" "ways" "[I" ∈ zt := zt_mem 44 (by decide +kernel) (by decide +kernel)
theorem tw_45 : Cond.fieldLink "SnowRoad" 103 "SnowRoad$Told" "ways" "[I" ∈ zt := zt_mem 45 (by decide +kernel) (by decide +kernel)
theorem tw_46 : Cond.fieldLink "SnowRoad$Told" 31 "SnowRoad$Told" "buses" "I" ∈ zt := zt_mem 46 (by decide +kernel) (by decide +kernel)
theorem tw_47 : Cond.fieldLink "SnowRoad" 106 "SnowRoad$Told" "buses" "I" ∈ zt := zt_mem 47 (by decide +kernel) (by decide +kernel)
theorem tw_48 : Cond.fieldLink "SnowRoad$Winter" 133 "SnowRoad$Told" "buses" "I" ∈ zt := zt_mem 48 (by decide +kernel) (by decide +kernel)
theorem tw_49 : Cond.fieldLink "SnowRoad$Told" 34 "SnowRoad$Told" "starts" "[I" ∈ zt := zt_mem 49 (by decide +kernel) (by decide +kernel)
theorem tw_50 : Cond.fieldLink "SnowRoad" 109 "SnowRoad$Told" "starts" "[I" ∈ zt := zt_mem 50 (by decide +kernel) (by decide +kernel)
theorem tw_51 : Cond.fieldLink "SnowRoad$Winter" 136 "SnowRoad$Told" "starts" "[I" ∈ zt := zt_mem 51 (by decide +kernel) (by decide +kernel)
theorem tw_53 : Cond.fieldLink "SnowRoad$Winter" 104 "SnowRoad$Told" "windSpeed" "I" ∈ zt := zt_mem 53 (by decide +kernel) (by decide +kernel)
theorem tw_54 : Cond.fieldLink "SnowRoad" 112 "SnowRoad$Told" "windSpeed" "I" ∈ zt := zt_mem 54 (by decide +kernel) (by decide +kernel)
theorem tw_55 : Cond.fieldLink "SnowRoad$Told" 40 "SnowRoad$Told" "events" "I" ∈ zt := zt_mem 55 (by decide +kernel) (by decide +kernel)
theorem tw_56 : Cond.fieldLink "SnowRoad$Winter" 107 "SnowRoad$Told" "events" "I" ∈ zt := zt_mem 56 (by decide +kernel) (by decide +kernel)
theorem tw_57 : Cond.fieldLink "SnowRoad" 125 "SnowRoad$Told" "events" "I" ∈ zt := zt_mem 57 (by decide +kernel) (by decide +kernel)
theorem tw_58 : Cond.fieldLink "SnowRoad$Told" 43 "SnowRoad$Told" "kinds" "[I" ∈ zt := zt_mem 58 (by decide +kernel) (by decide +kernel)
theorem tw_59 : Cond.fieldLink "SnowRoad$Winter" 110 "SnowRoad$Told" "kinds" "[I" ∈ zt := zt_mem 59 (by decide +kernel) (by decide +kernel)
theorem tw_60 : Cond.fieldLink "SnowRoad$Told" 46 "SnowRoad$Told" "hours" "[I" ∈ zt := zt_mem 60 (by decide +kernel) (by decide +kernel)
theorem tw_61 : Cond.fieldLink "SnowRoad$Winter" 113 "SnowRoad$Told" "hours" "[I" ∈ zt := zt_mem 61 (by decide +kernel) (by decide +kernel)
theorem tw_62 : Cond.fieldLink "SnowRoad$Told" 49 "SnowRoad$Told" "numbers" "[I" ∈ zt := zt_mem 62 (by decide +kernel) (by decide +kernel)
theorem tw_63 : Cond.fieldLink "SnowRoad$Winter" 116 "SnowRoad$Told" "numbers" "[I" ∈ zt := zt_mem 63 (by decide +kernel) (by decide +kernel)
theorem tw_98 : Cond.fieldLink "SnowRoad$Sightings" 9 "SnowRoad$Sightings" "places" "[I" ∈ zt := zt_mem 98 (by decide +kernel) (by decide +kernel)
theorem tw_99 : Cond.fieldLink "SnowRoad$Sightings" 15 "SnowRoad$Sightings" "depths" "[I" ∈ zt := zt_mem 99 (by decide +kernel) (by decide +kernel)
theorem tw_100 : Cond.fieldLink "SnowRoad$Sightings" 18 "SnowRoad$Sightings" "size" "I" ∈ zt := zt_mem 100 (by decide +kernel) (by decide +kernel)
theorem tw_101 : Cond.fieldLink "SnowRoad" 218 "SnowRoad$Sightings" "size" "I" ∈ zt := zt_mem 101 (by decide +kernel) (by decide +kernel)
theorem tw_117 : Cond.fieldLink "SnowRoad$Winter" 9 "SnowRoad$Winter" "depths" "[I" ∈ zt := zt_mem 117 (by decide +kernel) (by decide +kernel)
theorem tw_118 : Cond.fieldLink "SnowRoad$Sightings" 22 "SnowRoad$Winter" "depths" "[I" ∈ zt := zt_mem 118 (by decide +kernel) (by decide +kernel)
theorem tw_119 : Cond.fieldLink "SnowRoad" 149 "SnowRoad$Winter" "depths" "[I" ∈ zt := zt_mem 119 (by decide +kernel) (by decide +kernel)
theorem tw_120 : Cond.fieldLink "SnowRoad$Winter" 15 "SnowRoad$Winter" "ploughMiles" "[I" ∈ zt := zt_mem 120 (by decide +kernel) (by decide +kernel)
theorem tw_121 : Cond.fieldLink "SnowRoad" 152 "SnowRoad$Winter" "ploughMiles" "[I" ∈ zt := zt_mem 121 (by decide +kernel) (by decide +kernel)
theorem tw_122 : Cond.fieldLink "SnowRoad$Winter" 18 "SnowRoad$Winter" "ploughWays" "[I" ∈ zt := zt_mem 122 (by decide +kernel) (by decide +kernel)
theorem tw_123 : Cond.fieldLink "SnowRoad" 155 "SnowRoad$Winter" "ploughWays" "[I" ∈ zt := zt_mem 123 (by decide +kernel) (by decide +kernel)
theorem tw_124 : Cond.fieldLink "SnowRoad$Winter" 21 "SnowRoad$Winter" "clearings" "[I" ∈ zt := zt_mem 124 (by decide +kernel) (by decide +kernel)
theorem tw_125 : Cond.fieldLink "SnowRoad" 158 "SnowRoad$Winter" "clearings" "[I" ∈ zt := zt_mem 125 (by decide +kernel) (by decide +kernel)
theorem tw_126 : Cond.fieldLink "SnowRoad$Winter" 24 "SnowRoad$Winter" "clearedInAll" "[I" ∈ zt := zt_mem 126 (by decide +kernel) (by decide +kernel)
theorem tw_127 : Cond.fieldLink "SnowRoad" 180 "SnowRoad$Winter" "clearedInAll" "[I" ∈ zt := zt_mem 127 (by decide +kernel) (by decide +kernel)
theorem tw_128 : Cond.fieldLink "SnowRoad$Winter" 27 "SnowRoad$Winter" "stuckHours" "[I" ∈ zt := zt_mem 128 (by decide +kernel) (by decide +kernel)
theorem tw_129 : Cond.fieldLink "SnowRoad" 183 "SnowRoad$Winter" "stuckHours" "[I" ∈ zt := zt_mem 129 (by decide +kernel) (by decide +kernel)
theorem tw_130 : Cond.fieldLink "SnowRoad$Winter" 30 "SnowRoad$Winter" "winds" "[I" ∈ zt := zt_mem 130 (by decide +kernel) (by decide +kernel)
theorem tw_131 : Cond.fieldLink "SnowRoad$Winter" 33 "SnowRoad$Winter" "broken" "[I" ∈ zt := zt_mem 131 (by decide +kernel) (by decide +kernel)
theorem tw_132 : Cond.fieldLink "SnowRoad$Winter" 36 "SnowRoad$Winter" "thawHours" "I" ∈ zt := zt_mem 132 (by decide +kernel) (by decide +kernel)
theorem tw_133 : Cond.fieldLink "SnowRoad$Winter" 40 "SnowRoad$Winter" "now" "[I" ∈ zt := zt_mem 133 (by decide +kernel) (by decide +kernel)
theorem tw_134 : Cond.fieldLink "SnowRoad$Winter" 43 "SnowRoad$Winter" "mileNow" "[I" ∈ zt := zt_mem 134 (by decide +kernel) (by decide +kernel)
theorem tw_135 : Cond.fieldLink "SnowRoad$Winter" 46 "SnowRoad$Winter" "wayNow" "[I" ∈ zt := zt_mem 135 (by decide +kernel) (by decide +kernel)
theorem tw_136 : Cond.fieldLink "SnowRoad$Winter" 49 "SnowRoad$Winter" "busMile" "I" ∈ zt := zt_mem 136 (by decide +kernel) (by decide +kernel)
theorem tw_137 : Cond.fieldLink "SnowRoad" 165 "SnowRoad$Winter" "busMile" "I" ∈ zt := zt_mem 137 (by decide +kernel) (by decide +kernel)
theorem tw_138 : Cond.fieldLink "SnowRoad$Winter" 52 "SnowRoad$Winter" "busOver" "I" ∈ zt := zt_mem 138 (by decide +kernel) (by decide +kernel)
theorem tw_139 : Cond.fieldLink "SnowRoad" 174 "SnowRoad$Winter" "busOver" "I" ∈ zt := zt_mem 139 (by decide +kernel) (by decide +kernel)
theorem tw_140 : Cond.fieldLink "SnowRoad$Winter" 55 "SnowRoad$Winter" "busWaited" "I" ∈ zt := zt_mem 140 (by decide +kernel) (by decide +kernel)
theorem tw_141 : Cond.fieldLink "SnowRoad" 177 "SnowRoad$Winter" "busWaited" "I" ∈ zt := zt_mem 141 (by decide +kernel) (by decide +kernel)
theorem tw_180 : Cond.fieldLink "SnowRoad$Text" 15 "SnowRoad$Text" "kind" "I" ∈ zt := zt_mem 180 (by decide +kernel) (by decide +kernel)
theorem tw_181 : Cond.fieldLink "SnowRoad$Text" 22 "SnowRoad$Text" "bytes" "[I" ∈ zt := zt_mem 181 (by decide +kernel) (by decide +kernel)
theorem tw_182 : Cond.fieldLink "SnowRoad$Told" 58 "SnowRoad$Text" "bytes" "[I" ∈ zt := zt_mem 182 (by decide +kernel) (by decide +kernel)
theorem tw_183 : Cond.fieldLink "SnowRoad$Text" 9 "SnowRoad$Text" "length" "I" ∈ zt := zt_mem 183 (by decide +kernel) (by decide +kernel)
theorem tw_184 : Cond.fieldLink "SnowRoad" 81 "SnowRoad$Text" "length" "I" ∈ zt := zt_mem 184 (by decide +kernel) (by decide +kernel)
theorem tw_197 : Cond.fieldLink "SnowRoad$Sheet" 9 "SnowRoad$Sheet" "items" "[I" ∈ zt := zt_mem 197 (by decide +kernel) (by decide +kernel)
theorem tw_198 : Cond.fieldLink "SnowRoad" 138 "SnowRoad$Sheet" "items" "[I" ∈ zt := zt_mem 198 (by decide +kernel) (by decide +kernel)
theorem tw_199 : Cond.fieldLink "SnowRoad$Sheet" 15 "SnowRoad$Sheet" "form" "I" ∈ zt := zt_mem 199 (by decide +kernel) (by decide +kernel)
theorem tw_200 : Cond.fieldLink "SnowRoad" 128 "SnowRoad$Sheet" "form" "I" ∈ zt := zt_mem 200 (by decide +kernel) (by decide +kernel)
theorem tw_201 : Cond.fieldLink "SnowRoad$Sheet" 19 "SnowRoad$Sheet" "size" "I" ∈ zt := zt_mem 201 (by decide +kernel) (by decide +kernel)
theorem tw_202 : Cond.fieldLink "SnowRoad" 135 "SnowRoad$Sheet" "size" "I" ∈ zt := zt_mem 202 (by decide +kernel) (by decide +kernel)
theorem tw_210 : Cond.fieldLink "SnowRoad" 11 "SnowRoad" "texts" "[LSnowRoad$Text;" ∈ zt := zt_mem 210 (by decide +kernel) (by decide +kernel)
theorem tw_211 : Cond.fieldLink "SnowRoad" 18 "SnowRoad" "told" "LSnowRoad$Told;" ∈ zt := zt_mem 211 (by decide +kernel) (by decide +kernel)
theorem tw_212 : Cond.fieldLink "SnowRoad" 25 "SnowRoad" "sightings" "LSnowRoad$Sightings;" ∈ zt := zt_mem 212 (by decide +kernel) (by decide +kernel)
theorem tw_213 : Cond.fieldLink "SnowRoad" 31 "SnowRoad" "sheets" "[LSnowRoad$Sheet;" ∈ zt := zt_mem 213 (by decide +kernel) (by decide +kernel)
theorem tw_214 : Cond.fieldLink "SnowRoad" 35 "SnowRoad" "finding" "I" ∈ zt := zt_mem 214 (by decide +kernel) (by decide +kernel)
theorem tw_215 : Cond.fieldLink "SnowRoad" 42 "SnowRoad" "kept" "LSnowRoad$Winter;" ∈ zt := zt_mem 215 (by decide +kernel) (by decide +kernel)
theorem tw_216 : Cond.fieldLink "SnowRoad" 46 "SnowRoad" "trial" "LSnowRoad$Winter;" ∈ zt := zt_mem 216 (by decide +kernel) (by decide +kernel)
theorem tw_217 : Cond.fieldLink "SnowRoad" 49 "SnowRoad" "keptIsOld" "Z" ∈ zt := zt_mem 217 (by decide +kernel) (by decide +kernel)
theorem tw_218 : Cond.fieldLink "SnowRoad" 53 "SnowRoad" "choices" "[I" ∈ zt := zt_mem 218 (by decide +kernel) (by decide +kernel)
theorem tw_219 : Cond.fieldLink "SnowRoad" 57 "SnowRoad" "choicesAreOld" "Z" ∈ zt := zt_mem 219 (by decide +kernel) (by decide +kernel)
theorem tw_220 : Cond.fieldLink "SnowRoad" 60 "SnowRoad" "drawnFall" "[I" ∈ zt := zt_mem 220 (by decide +kernel) (by decide +kernel)
theorem tw_221 : Cond.fieldLink "SnowRoad" 63 "SnowRoad" "drifts" "[I" ∈ zt := zt_mem 221 (by decide +kernel) (by decide +kernel)
theorem tw_248 : Cond.instanceMethod y_X_type ∈ zt := zt_mem 248 (by decide +kernel) (by decide +kernel)
theorem tw_249 : Cond.selects "SnowRoad" y_X_type y_X_type ∈ zt := zt_mem 249 (by decide +kernel) (by decide +kernel)
theorem tw_250 : Cond.code y_X_type prog_1_method_2_code 3 (some .int) ∈ zt := zt_mem 250 (by decide +kernel) (by decide +kernel)
theorem tw_251 : Cond.methodLink "SnowRoad" 70 y_X_outside ∈ zt := zt_mem 251 (by decide +kernel) (by decide +kernel)
theorem tw_252 : Cond.static y_X_outside ∈ zt := zt_mem 252 (by decide +kernel) (by decide +kernel)
theorem tw_253 : Cond.code y_X_outside prog_1_method_43_code 2 (some .boolean) ∈ zt := zt_mem 253 (by decide +kernel) (by decide +kernel)
theorem tw_254 : Cond.methodLink "SnowRoad" 74 y_XT_append ∈ zt := zt_mem 254 (by decide +kernel) (by decide +kernel)
theorem tw_255 : Cond.instanceMethod y_XT_append ∈ zt := zt_mem 255 (by decide +kernel) (by decide +kernel)
theorem tw_256 : Cond.selects "SnowRoad$Text" y_XT_append y_XT_append ∈ zt := zt_mem 256 (by decide +kernel) (by decide +kernel)
theorem tw_257 : Cond.code y_XT_append prog_4_method_2_code 2 (some .boolean) ∈ zt := zt_mem 257 (by decide +kernel) (by decide +kernel)
theorem tw_258 : Cond.methodLink "SnowRoad" 78 y_X_takeText ∈ zt := zt_mem 258 (by decide +kernel) (by decide +kernel)
theorem tw_260 : Cond.instanceMethod y_X_takeText ∈ zt := zt_mem 260 (by decide +kernel) (by decide +kernel)
theorem tw_261 : Cond.code y_X_takeText prog_1_method_50_code 2 none ∈ zt := zt_mem 261 (by decide +kernel) (by decide +kernel)
theorem tw_262 : Cond.methodLink "SnowRoad" 368 y_XO_takeLand ∈ zt := zt_mem 262 (by decide +kernel) (by decide +kernel)
theorem tw_263 : Cond.instanceMethod y_XO_takeLand ∈ zt := zt_mem 263 (by decide +kernel) (by decide +kernel)
theorem tw_264 : Cond.selects "SnowRoad$Told" y_XO_takeLand y_XO_takeLand ∈ zt := zt_mem 264 (by decide +kernel) (by decide +kernel)
theorem tw_265 : Cond.code y_XO_takeLand prog_5_method_2_code 5 none ∈ zt := zt_mem 265 (by decide +kernel) (by decide +kernel)
theorem tw_266 : Cond.methodLink "SnowRoad$Told" 52 y_XT_meant ∈ zt := zt_mem 266 (by decide +kernel) (by decide +kernel)
theorem tw_267 : Cond.instanceMethod y_XT_meant ∈ zt := zt_mem 267 (by decide +kernel) (by decide +kernel)
theorem tw_268 : Cond.selects "SnowRoad$Text" y_XT_meant y_XT_meant ∈ zt := zt_mem 268 (by decide +kernel) (by decide +kernel)
theorem tw_269 : Cond.code y_XT_meant prog_4_method_6_code 1 (some .int) ∈ zt := zt_mem 269 (by decide +kernel) (by decide +kernel)
theorem tw_270 : Cond.methodLink "SnowRoad$Text" 32 y_XT_firstFault ∈ zt := zt_mem 270 (by decide +kernel) (by decide +kernel)
theorem tw_271 : Cond.instanceMethod y_XT_firstFault ∈ zt := zt_mem 271 (by decide +kernel) (by decide +kernel)
theorem tw_272 : Cond.selects "SnowRoad$Text" y_XT_firstFault y_XT_firstFault ∈ zt := zt_mem 272 (by decide +kernel) (by decide +kernel)
theorem tw_273 : Cond.code y_XT_firstFault prog_4_method_3_code 2 (some .int) ∈ zt := zt_mem 273 (by decide +kernel) (by decide +kernel)
theorem tw_274 : Cond.methodLink "SnowRoad$Text" 25 y_XT_mayStand ∈ zt := zt_mem 274 (by decide +kernel) (by decide +kernel)
theorem tw_276 : Cond.instanceMethod y_XT_mayStand ∈ zt := zt_mem 276 (by decide +kernel) (by decide +kernel)
theorem tw_277 : Cond.code y_XT_mayStand prog_4_method_4_code 3 (some .boolean) ∈ zt := zt_mem 277 (by decide +kernel) (by decide +kernel)
theorem tw_278 : Cond.methodLink "SnowRoad$Text" 29 y_XT_mayStandInPloughs ∈ zt := zt_mem 278 (by decide +kernel) (by decide +kernel)
theorem tw_279 : Cond.static y_XT_mayStandInPloughs ∈ zt := zt_mem 279 (by decide +kernel) (by decide +kernel)
theorem tw_280 : Cond.code y_XT_mayStandInPloughs prog_4_method_5_code 2 (some .boolean) ∈ zt := zt_mem 280 (by decide +kernel) (by decide +kernel)
theorem tw_281 : Cond.methodLink "SnowRoad" 372 y_XO_takeFall ∈ zt := zt_mem 281 (by decide +kernel) (by decide +kernel)
theorem tw_282 : Cond.instanceMethod y_XO_takeFall ∈ zt := zt_mem 282 (by decide +kernel) (by decide +kernel)
theorem tw_283 : Cond.selects "SnowRoad$Told" y_XO_takeFall y_XO_takeFall ∈ zt := zt_mem 283 (by decide +kernel) (by decide +kernel)
theorem tw_284 : Cond.code y_XO_takeFall prog_5_method_3_code 4 none ∈ zt := zt_mem 284 (by decide +kernel) (by decide +kernel)
theorem tw_285 : Cond.methodLink "SnowRoad" 375 y_XO_takePloughs ∈ zt := zt_mem 285 (by decide +kernel) (by decide +kernel)
theorem tw_286 : Cond.instanceMethod y_XO_takePloughs ∈ zt := zt_mem 286 (by decide +kernel) (by decide +kernel)
theorem tw_287 : Cond.selects "SnowRoad$Told" y_XO_takePloughs y_XO_takePloughs ∈ zt := zt_mem 287 (by decide +kernel) (by decide +kernel)
theorem tw_288 : Cond.code y_XO_takePloughs prog_5_method_4_code 4 none ∈ zt := zt_mem 288 (by decide +kernel) (by decide +kernel)
theorem tw_289 : Cond.methodLink "SnowRoad" 378 y_XO_takeBuses ∈ zt := zt_mem 289 (by decide +kernel) (by decide +kernel)
theorem tw_290 : Cond.instanceMethod y_XO_takeBuses ∈ zt := zt_mem 290 (by decide +kernel) (by decide +kernel)
theorem tw_291 : Cond.selects "SnowRoad$Told" y_XO_takeBuses y_XO_takeBuses ∈ zt := zt_mem 291 (by decide +kernel) (by decide +kernel)
theorem tw_292 : Cond.code y_XO_takeBuses prog_5_method_5_code 3 none ∈ zt := zt_mem 292 (by decide +kernel) (by decide +kernel)
theorem tw_293 : Cond.methodLink "SnowRoad" 115 y_X_changed ∈ zt := zt_mem 293 (by decide +kernel) (by decide +kernel)
theorem tw_295 : Cond.instanceMethod y_X_changed ∈ zt := zt_mem 295 (by decide +kernel) (by decide +kernel)
theorem tw_296 : Cond.code y_X_changed prog_1_method_49_code 1 none ∈ zt := zt_mem 296 (by decide +kernel) (by decide +kernel)
theorem tw_298 : Cond.instanceMethod y_X_wipe ∈ zt := zt_mem 298 (by decide +kernel) (by decide +kernel)
theorem tw_299 : Cond.selects "SnowRoad" y_X_wipe y_X_wipe ∈ zt := zt_mem 299 (by decide +kernel) (by decide +kernel)
theorem tw_300 : Cond.code y_X_wipe prog_1_method_3_code 3 (some .int) ∈ zt := zt_mem 300 (by decide +kernel) (by decide +kernel)
theorem tw_302 : Cond.instanceMethod y_X_undo ∈ zt := zt_mem 302 (by decide +kernel) (by decide +kernel)
theorem tw_303 : Cond.selects "SnowRoad" y_X_undo y_X_undo ∈ zt := zt_mem 303 (by decide +kernel) (by decide +kernel)
theorem tw_304 : Cond.code y_X_undo prog_1_method_4_code 2 (some .int) ∈ zt := zt_mem 304 (by decide +kernel) (by decide +kernel)
theorem tw_306 : Cond.instanceMethod y_X_fault ∈ zt := zt_mem 306 (by decide +kernel) (by decide +kernel)
theorem tw_307 : Cond.selects "SnowRoad" y_X_fault y_X_fault ∈ zt := zt_mem 307 (by decide +kernel) (by decide +kernel)
theorem tw_308 : Cond.code y_X_fault prog_1_method_5_code 2 (some .int) ∈ zt := zt_mem 308 (by decide +kernel) (by decide +kernel)
theorem tw_309 : Cond.methodLink "SnowRoad" 84 y_XT_firstFault ∈ zt := zt_mem 309 (by decide +kernel) (by decide +kernel)
theorem tw_311 : Cond.instanceMethod y_X_land ∈ zt := zt_mem 311 (by decide +kernel) (by decide +kernel)
theorem tw_312 : Cond.selects "SnowRoad" y_X_land y_X_land ∈ zt := zt_mem 312 (by decide +kernel) (by decide +kernel)
theorem tw_313 : Cond.code y_X_land prog_1_method_6_code 2 (some .int) ∈ zt := zt_mem 313 (by decide +kernel) (by decide +kernel)
theorem tw_315 : Cond.instanceMethod y_X_fall ∈ zt := zt_mem 315 (by decide +kernel) (by decide +kernel)
theorem tw_316 : Cond.selects "SnowRoad" y_X_fall y_X_fall ∈ zt := zt_mem 316 (by decide +kernel) (by decide +kernel)
theorem tw_317 : Cond.code y_X_fall prog_1_method_7_code 2 (some .int) ∈ zt := zt_mem 317 (by decide +kernel) (by decide +kernel)
theorem tw_319 : Cond.instanceMethod y_X_plough ∈ zt := zt_mem 319 (by decide +kernel) (by decide +kernel)
theorem tw_320 : Cond.selects "SnowRoad" y_X_plough y_X_plough ∈ zt := zt_mem 320 (by decide +kernel) (by decide +kernel)
theorem tw_321 : Cond.code y_X_plough prog_1_method_8_code 3 (some .int) ∈ zt := zt_mem 321 (by decide +kernel) (by decide +kernel)
theorem tw_323 : Cond.instanceMethod y_X_bus ∈ zt := zt_mem 323 (by decide +kernel) (by decide +kernel)
theorem tw_324 : Cond.selects "SnowRoad" y_X_bus y_X_bus ∈ zt := zt_mem 324 (by decide +kernel) (by decide +kernel)
theorem tw_325 : Cond.code y_X_bus prog_1_method_9_code 2 (some .int) ∈ zt := zt_mem 325 (by decide +kernel) (by decide +kernel)
theorem tw_327 : Cond.instanceMethod y_X_wind ∈ zt := zt_mem 327 (by decide +kernel) (by decide +kernel)
theorem tw_328 : Cond.selects "SnowRoad" y_X_wind y_X_wind ∈ zt := zt_mem 328 (by decide +kernel) (by decide +kernel)
theorem tw_329 : Cond.code y_X_wind prog_1_method_10_code 3 (some .int) ∈ zt := zt_mem 329 (by decide +kernel) (by decide +kernel)
theorem tw_331 : Cond.instanceMethod y_X_event ∈ zt := zt_mem 331 (by decide +kernel) (by decide +kernel)
theorem tw_332 : Cond.selects "SnowRoad" y_X_event y_X_event ∈ zt := zt_mem 332 (by decide +kernel) (by decide +kernel)
theorem tw_333 : Cond.code y_X_event prog_1_method_11_code 4 (some .int) ∈ zt := zt_mem 333 (by decide +kernel) (by decide +kernel)
theorem tw_334 : Cond.methodLink "SnowRoad" 118 y_X_mayBeEvent ∈ zt := zt_mem 334 (by decide +kernel) (by decide +kernel)
theorem tw_335 : Cond.static y_X_mayBeEvent ∈ zt := zt_mem 335 (by decide +kernel) (by decide +kernel)
theorem tw_336 : Cond.code y_X_mayBeEvent prog_1_method_52_code 3 (some .boolean) ∈ zt := zt_mem 336 (by decide +kernel) (by decide +kernel)
theorem tw_337 : Cond.methodLink "SnowRoad" 122 y_XO_addEvent ∈ zt := zt_mem 337 (by decide +kernel) (by decide +kernel)
theorem tw_338 : Cond.instanceMethod y_XO_addEvent ∈ zt := zt_mem 338 (by decide +kernel) (by decide +kernel)
theorem tw_339 : Cond.selects "SnowRoad$Told" y_XO_addEvent y_XO_addEvent ∈ zt := zt_mem 339 (by decide +kernel) (by decide +kernel)
theorem tw_340 : Cond.code y_XO_addEvent prog_5_method_6_code 4 (some .boolean) ∈ zt := zt_mem 340 (by decide +kernel) (by decide +kernel)
theorem tw_342 : Cond.instanceMethod y_X_back ∈ zt := zt_mem 342 (by decide +kernel) (by decide +kernel)
theorem tw_343 : Cond.selects "SnowRoad" y_X_back y_X_back ∈ zt := zt_mem 343 (by decide +kernel) (by decide +kernel)
theorem tw_344 : Cond.code y_X_back prog_1_method_12_code 1 (some .int) ∈ zt := zt_mem 344 (by decide +kernel) (by decide +kernel)
theorem tw_346 : Cond.instanceMethod y_X_read ∈ zt := zt_mem 346 (by decide +kernel) (by decide +kernel)
theorem tw_347 : Cond.selects "SnowRoad" y_X_read y_X_read ∈ zt := zt_mem 347 (by decide +kernel) (by decide +kernel)
theorem tw_348 : Cond.code y_X_read prog_1_method_13_code 5 (some .int) ∈ zt := zt_mem 348 (by decide +kernel) (by decide +kernel)
theorem tw_349 : Cond.methodLink "SnowRoad" 131 y_X_found ∈ zt := zt_mem 349 (by decide +kernel) (by decide +kernel)
theorem tw_351 : Cond.instanceMethod y_X_found ∈ zt := zt_mem 351 (by decide +kernel) (by decide +kernel)
theorem tw_352 : Cond.code y_X_found prog_1_method_47_code 2 (some .int) ∈ zt := zt_mem 352 (by decide +kernel) (by decide +kernel)
theorem tw_353 : Cond.methodLink "SnowRoad" 141 y_X_event ∈ zt := zt_mem 353 (by decide +kernel) (by decide +kernel)
theorem tw_355 : Cond.instanceMethod y_X_deep ∈ zt := zt_mem 355 (by decide +kernel) (by decide +kernel)
theorem tw_356 : Cond.selects "SnowRoad" y_X_deep y_X_deep ∈ zt := zt_mem 356 (by decide +kernel) (by decide +kernel)
theorem tw_357 : Cond.code y_X_deep prog_1_method_14_code 3 (some .int) ∈ zt := zt_mem 357 (by decide +kernel) (by decide +kernel)
theorem tw_358 : Cond.methodLink "SnowRoad" 145 y_X_asTold ∈ zt := zt_mem 358 (by decide +kernel) (by decide +kernel)
theorem tw_360 : Cond.instanceMethod y_X_asTold ∈ zt := zt_mem 360 (by decide +kernel) (by decide +kernel)
theorem tw_361 : Cond.code y_X_asTold prog_1_method_54_code 1 (some (.object "SnowRoad$Winter")) ∈ zt := zt_mem 361 (by decide +kernel) (by decide +kernel)
theorem tw_362 : Cond.methodLink "SnowRoad" 189 y_X_allEvents ∈ zt := zt_mem 362 (by decide +kernel) (by decide +kernel)
theorem tw_364 : Cond.instanceMethod y_X_allEvents ∈ zt := zt_mem 364 (by decide +kernel) (by decide +kernel)
theorem tw_365 : Cond.code y_X_allEvents prog_1_method_53_code 1 (some .int) ∈ zt := zt_mem 365 (by decide +kernel) (by decide +kernel)
theorem tw_366 : Cond.methodLink "SnowRoad" 192 y_XW_run ∈ zt := zt_mem 366 (by decide +kernel) (by decide +kernel)
theorem tw_367 : Cond.instanceMethod y_XW_run ∈ zt := zt_mem 367 (by decide +kernel) (by decide +kernel)
theorem tw_368 : Cond.selects "SnowRoad$Winter" y_XW_run y_XW_run ∈ zt := zt_mem 368 (by decide +kernel) (by decide +kernel)
theorem tw_369 : Cond.code y_XW_run prog_6_method_2_code 4 none ∈ zt := zt_mem 369 (by decide +kernel) (by decide +kernel)
theorem tw_370 : Cond.methodLink "SnowRoad$Winter" 58 y_J_fill ∈ zt := zt_mem 370 (by decide +kernel) (by decide +kernel)
theorem tw_371 : Cond.static y_J_fill ∈ zt := zt_mem 371 (by decide +kernel) (by decide +kernel)
theorem tw_372 : Cond.code y_J_fill prog_12_method_103_code 4 none ∈ zt := zt_mem 372 (by decide +kernel) (by decide +kernel)
theorem tw_373 : Cond.methodLink "SnowRoad$Winter" 75 y_XW_sortEvents ∈ zt := zt_mem 373 (by decide +kernel) (by decide +kernel)
theorem tw_375 : Cond.instanceMethod y_XW_sortEvents ∈ zt := zt_mem 375 (by decide +kernel) (by decide +kernel)
theorem tw_376 : Cond.code y_XW_sortEvents prog_6_method_3_code 4 none ∈ zt := zt_mem 376 (by decide +kernel) (by decide +kernel)
theorem tw_377 : Cond.methodLink "SnowRoad$Winter" 119 y_XW_sortEvent ∈ zt := zt_mem 377 (by decide +kernel) (by decide +kernel)
theorem tw_379 : Cond.instanceMethod y_XW_sortEvent ∈ zt := zt_mem 379 (by decide +kernel) (by decide +kernel)
theorem tw_380 : Cond.code y_XW_sortEvent prog_6_method_4_code 4 none ∈ zt := zt_mem 380 (by decide +kernel) (by decide +kernel)
theorem tw_381 : Cond.methodLink "SnowRoad$Winter" 85 y_XW_snowFalls ∈ zt := zt_mem 381 (by decide +kernel) (by decide +kernel)
theorem tw_383 : Cond.instanceMethod y_XW_snowFalls ∈ zt := zt_mem 383 (by decide +kernel) (by decide +kernel)
theorem tw_384 : Cond.code y_XW_snowFalls prog_6_method_5_code 4 none ∈ zt := zt_mem 384 (by decide +kernel) (by decide +kernel)
theorem tw_385 : Cond.methodLink "SnowRoad$Winter" 88 y_XW_windCarries ∈ zt := zt_mem 385 (by decide +kernel) (by decide +kernel)
theorem tw_387 : Cond.instanceMethod y_XW_windCarries ∈ zt := zt_mem 387 (by decide +kernel) (by decide +kernel)
theorem tw_388 : Cond.code y_XW_windCarries prog_6_method_6_code 5 none ∈ zt := zt_mem 388 (by decide +kernel) (by decide +kernel)
theorem tw_389 : Cond.methodLink "SnowRoad$Winter" 91 y_XW_snowThaws ∈ zt := zt_mem 389 (by decide +kernel) (by decide +kernel)
theorem tw_391 : Cond.instanceMethod y_XW_snowThaws ∈ zt := zt_mem 391 (by decide +kernel) (by decide +kernel)
theorem tw_392 : Cond.code y_XW_snowThaws prog_6_method_7_code 5 none ∈ zt := zt_mem 392 (by decide +kernel) (by decide +kernel)
theorem tw_393 : Cond.methodLink "SnowRoad$Winter" 95 y_XW_ploughsGo ∈ zt := zt_mem 393 (by decide +kernel) (by decide +kernel)
theorem tw_395 : Cond.instanceMethod y_XW_ploughsGo ∈ zt := zt_mem 395 (by decide +kernel) (by decide +kernel)
theorem tw_396 : Cond.code y_XW_ploughsGo prog_6_method_8_code 6 none ∈ zt := zt_mem 396 (by decide +kernel) (by decide +kernel)
theorem tw_397 : Cond.methodLink "SnowRoad$Winter" 126 y_XW_ploughGoes ∈ zt := zt_mem 397 (by decide +kernel) (by decide +kernel)
theorem tw_399 : Cond.instanceMethod y_XW_ploughGoes ∈ zt := zt_mem 399 (by decide +kernel) (by decide +kernel)
theorem tw_400 : Cond.code y_XW_ploughGoes prog_6_method_9_code 5 (some .int) ∈ zt := zt_mem 400 (by decide +kernel) (by decide +kernel)
theorem tw_401 : Cond.methodLink "SnowRoad$Winter" 98 y_J_arraycopy ∈ zt := zt_mem 401 (by decide +kernel) (by decide +kernel)
theorem tw_405 : Cond.instanceMethod y_X_at ∈ zt := zt_mem 405 (by decide +kernel) (by decide +kernel)
theorem tw_406 : Cond.selects "SnowRoad" y_X_at y_X_at ∈ zt := zt_mem 406 (by decide +kernel) (by decide +kernel)
theorem tw_407 : Cond.code y_X_at prog_1_method_15_code 6 (some .int) ∈ zt := zt_mem 407 (by decide +kernel) (by decide +kernel)
theorem tw_409 : Cond.instanceMethod y_X_rides ∈ zt := zt_mem 409 (by decide +kernel) (by decide +kernel)
theorem tw_410 : Cond.selects "SnowRoad" y_X_rides y_X_rides ∈ zt := zt_mem 410 (by decide +kernel) (by decide +kernel)
theorem tw_411 : Cond.code y_X_rides prog_1_method_16_code 4 (some .int) ∈ zt := zt_mem 411 (by decide +kernel) (by decide +kernel)
theorem tw_412 : Cond.methodLink "SnowRoad" 161 y_XW_ride ∈ zt := zt_mem 412 (by decide +kernel) (by decide +kernel)
theorem tw_413 : Cond.instanceMethod y_XW_ride ∈ zt := zt_mem 413 (by decide +kernel) (by decide +kernel)
theorem tw_414 : Cond.selects "SnowRoad$Winter" y_XW_ride y_XW_ride ∈ zt := zt_mem 414 (by decide +kernel) (by decide +kernel)
theorem tw_415 : Cond.code y_XW_ride prog_6_method_10_code 5 none ∈ zt := zt_mem 415 (by decide +kernel) (by decide +kernel)
theorem tw_416 : Cond.methodLink "SnowRoad$Winter" 130 y_XW_rideOn ∈ zt := zt_mem 416 (by decide +kernel) (by decide +kernel)
theorem tw_418 : Cond.instanceMethod y_XW_rideOn ∈ zt := zt_mem 418 (by decide +kernel) (by decide +kernel)
theorem tw_419 : Cond.code y_XW_rideOn prog_6_method_11_code 5 (some .int) ∈ zt := zt_mem 419 (by decide +kernel) (by decide +kernel)
theorem tw_421 : Cond.instanceMethod y_X_snow ∈ zt := zt_mem 421 (by decide +kernel) (by decide +kernel)
theorem tw_422 : Cond.selects "SnowRoad" y_X_snow y_X_snow ∈ zt := zt_mem 422 (by decide +kernel) (by decide +kernel)
theorem tw_423 : Cond.code y_X_snow prog_1_method_17_code 3 (some .int) ∈ zt := zt_mem 423 (by decide +kernel) (by decide +kernel)
theorem tw_424 : Cond.methodLink "SnowRoad" 168 y_XW_snowBehind ∈ zt := zt_mem 424 (by decide +kernel) (by decide +kernel)
theorem tw_425 : Cond.instanceMethod y_XW_snowBehind ∈ zt := zt_mem 425 (by decide +kernel) (by decide +kernel)
theorem tw_426 : Cond.selects "SnowRoad$Winter" y_XW_snowBehind y_XW_snowBehind ∈ zt := zt_mem 426 (by decide +kernel) (by decide +kernel)
theorem tw_427 : Cond.code y_XW_snowBehind prog_6_method_13_code 4 (some .int) ∈ zt := zt_mem 427 (by decide +kernel) (by decide +kernel)
theorem tw_428 : Cond.methodLink "SnowRoad" 171 y_XW_deepMilesBehind ∈ zt := zt_mem 428 (by decide +kernel) (by decide +kernel)
theorem tw_429 : Cond.instanceMethod y_XW_deepMilesBehind ∈ zt := zt_mem 429 (by decide +kernel) (by decide +kernel)
theorem tw_430 : Cond.selects "SnowRoad$Winter" y_XW_deepMilesBehind y_XW_deepMilesBehind ∈ zt := zt_mem 430 (by decide +kernel) (by decide +kernel)
theorem tw_431 : Cond.code y_XW_deepMilesBehind prog_6_method_14_code 4 (some .int) ∈ zt := zt_mem 431 (by decide +kernel) (by decide +kernel)
theorem tw_433 : Cond.instanceMethod y_X_over ∈ zt := zt_mem 433 (by decide +kernel) (by decide +kernel)
theorem tw_434 : Cond.selects "SnowRoad" y_X_over y_X_over ∈ zt := zt_mem 434 (by decide +kernel) (by decide +kernel)
theorem tw_435 : Cond.code y_X_over prog_1_method_18_code 4 (some .int) ∈ zt := zt_mem 435 (by decide +kernel) (by decide +kernel)
theorem tw_437 : Cond.instanceMethod y_X_cleared ∈ zt := zt_mem 437 (by decide +kernel) (by decide +kernel)
theorem tw_438 : Cond.selects "SnowRoad" y_X_cleared y_X_cleared ∈ zt := zt_mem 438 (by decide +kernel) (by decide +kernel)
theorem tw_439 : Cond.code y_X_cleared prog_1_method_19_code 3 (some .int) ∈ zt := zt_mem 439 (by decide +kernel) (by decide +kernel)
theorem tw_441 : Cond.instanceMethod y_X_deepest ∈ zt := zt_mem 441 (by decide +kernel) (by decide +kernel)
theorem tw_442 : Cond.selects "SnowRoad" y_X_deepest y_X_deepest ∈ zt := zt_mem 442 (by decide +kernel) (by decide +kernel)
theorem tw_443 : Cond.code y_X_deepest prog_1_method_20_code 3 (some .int) ∈ zt := zt_mem 443 (by decide +kernel) (by decide +kernel)
theorem tw_444 : Cond.methodLink "SnowRoad" 186 y_XW_deepestPlace ∈ zt := zt_mem 444 (by decide +kernel) (by decide +kernel)
theorem tw_445 : Cond.instanceMethod y_XW_deepestPlace ∈ zt := zt_mem 445 (by decide +kernel) (by decide +kernel)
theorem tw_446 : Cond.selects "SnowRoad$Winter" y_XW_deepestPlace y_XW_deepestPlace ∈ zt := zt_mem 446 (by decide +kernel) (by decide +kernel)
theorem tw_447 : Cond.code y_XW_deepestPlace prog_6_method_15_code 3 (some .int) ∈ zt := zt_mem 447 (by decide +kernel) (by decide +kernel)
theorem tw_449 : Cond.instanceMethod y_X_shut ∈ zt := zt_mem 449 (by decide +kernel) (by decide +kernel)
theorem tw_450 : Cond.selects "SnowRoad" y_X_shut y_X_shut ∈ zt := zt_mem 450 (by decide +kernel) (by decide +kernel)
theorem tw_451 : Cond.code y_X_shut prog_1_method_21_code 3 (some .int) ∈ zt := zt_mem 451 (by decide +kernel) (by decide +kernel)
theorem tw_453 : Cond.instanceMethod y_X_best ∈ zt := zt_mem 453 (by decide +kernel) (by decide +kernel)
theorem tw_454 : Cond.selects "SnowRoad" y_X_best y_X_best ∈ zt := zt_mem 454 (by decide +kernel) (by decide +kernel)
theorem tw_455 : Cond.code y_X_best prog_1_method_22_code 5 (some .int) ∈ zt := zt_mem 455 (by decide +kernel) (by decide +kernel)
theorem tw_457 : Cond.instanceMethod y_X_begin ∈ zt := zt_mem 457 (by decide +kernel) (by decide +kernel)
theorem tw_458 : Cond.selects "SnowRoad" y_X_begin y_X_begin ∈ zt := zt_mem 458 (by decide +kernel) (by decide +kernel)
theorem tw_459 : Cond.code y_X_begin prog_1_method_23_code 8 (some .int) ∈ zt := zt_mem 459 (by decide +kernel) (by decide +kernel)
theorem tw_460 : Cond.methodLink "SnowRoad" 196 y_XW_busesOver ∈ zt := zt_mem 460 (by decide +kernel) (by decide +kernel)
theorem tw_461 : Cond.instanceMethod y_XW_busesOver ∈ zt := zt_mem 461 (by decide +kernel) (by decide +kernel)
theorem tw_462 : Cond.selects "SnowRoad$Winter" y_XW_busesOver y_XW_busesOver ∈ zt := zt_mem 462 (by decide +kernel) (by decide +kernel)
theorem tw_463 : Cond.code y_XW_busesOver prog_6_method_12_code 4 (some .int) ∈ zt := zt_mem 463 (by decide +kernel) (by decide +kernel)
theorem tw_464 : Cond.methodLink "SnowRoad$Winter" 139 y_XW_ride ∈ zt := zt_mem 464 (by decide +kernel) (by decide +kernel)
theorem tw_466 : Cond.instanceMethod y_X_hedge ∈ zt := zt_mem 466 (by decide +kernel) (by decide +kernel)
theorem tw_467 : Cond.selects "SnowRoad" y_X_hedge y_X_hedge ∈ zt := zt_mem 467 (by decide +kernel) (by decide +kernel)
theorem tw_468 : Cond.code y_X_hedge prog_1_method_24_code 6 (some .int) ∈ zt := zt_mem 468 (by decide +kernel) (by decide +kernel)
theorem tw_469 : Cond.constant "SnowRoad" 202 (2147483647) ∈ zt := zt_mem 469 (by decide +kernel) (by decide +kernel)
theorem tw_470 : Cond.methodLink "SnowRoad" 203 y_X_tryLand ∈ zt := zt_mem 470 (by decide +kernel) (by decide +kernel)
theorem tw_472 : Cond.instanceMethod y_X_tryLand ∈ zt := zt_mem 472 (by decide +kernel) (by decide +kernel)
theorem tw_473 : Cond.code y_X_tryLand prog_1_method_55_code 4 none ∈ zt := zt_mem 473 (by decide +kernel) (by decide +kernel)
theorem tw_475 : Cond.instanceMethod y_X_start ∈ zt := zt_mem 475 (by decide +kernel) (by decide +kernel)
theorem tw_476 : Cond.selects "SnowRoad" y_X_start y_X_start ∈ zt := zt_mem 476 (by decide +kernel) (by decide +kernel)
theorem tw_477 : Cond.code y_X_start prog_1_method_25_code 7 (some .int) ∈ zt := zt_mem 477 (by decide +kernel) (by decide +kernel)
theorem tw_479 : Cond.instanceMethod y_X_spare ∈ zt := zt_mem 479 (by decide +kernel) (by decide +kernel)
theorem tw_480 : Cond.selects "SnowRoad" y_X_spare y_X_spare ∈ zt := zt_mem 480 (by decide +kernel) (by decide +kernel)
theorem tw_481 : Cond.code y_X_spare prog_1_method_26_code 4 (some .int) ∈ zt := zt_mem 481 (by decide +kernel) (by decide +kernel)
theorem tw_482 : Cond.methodLink "SnowRoad" 206 y_X_sparedEvents ∈ zt := zt_mem 482 (by decide +kernel) (by decide +kernel)
theorem tw_484 : Cond.instanceMethod y_X_sparedEvents ∈ zt := zt_mem 484 (by decide +kernel) (by decide +kernel)
theorem tw_485 : Cond.code y_X_sparedEvents prog_1_method_58_code 3 (some .int) ∈ zt := zt_mem 485 (by decide +kernel) (by decide +kernel)
theorem tw_486 : Cond.methodLink "SnowRoad" 381 y_X_allOverBut ∈ zt := zt_mem 486 (by decide +kernel) (by decide +kernel)
theorem tw_488 : Cond.instanceMethod y_X_allOverBut ∈ zt := zt_mem 488 (by decide +kernel) (by decide +kernel)
theorem tw_489 : Cond.code y_X_allOverBut prog_1_method_57_code 2 (some .boolean) ∈ zt := zt_mem 489 (by decide +kernel) (by decide +kernel)
theorem tw_490 : Cond.methodLink "SnowRoad" 209 y_J_bitCount ∈ zt := zt_mem 490 (by decide +kernel) (by decide +kernel)
theorem tw_491 : Cond.static y_J_bitCount ∈ zt := zt_mem 491 (by decide +kernel) (by decide +kernel)
theorem tw_492 : Cond.code y_J_bitCount prog_9_method_49_code 1 (some .int) ∈ zt := zt_mem 492 (by decide +kernel) (by decide +kernel)
theorem tw_493 : Cond.constant "java/lang/Integer" 265 (1431655765) ∈ zt := zt_mem 493 (by decide +kernel) (by decide +kernel)
theorem tw_494 : Cond.constant "java/lang/Integer" 266 (858993459) ∈ zt := zt_mem 494 (by decide +kernel) (by decide +kernel)
theorem tw_495 : Cond.constant "java/lang/Integer" 267 (252645135) ∈ zt := zt_mem 495 (by decide +kernel) (by decide +kernel)
theorem tw_496 : Cond.methodLink "SnowRoad" 212 y_J_numberOfTrailingZeros ∈ zt := zt_mem 496 (by decide +kernel) (by decide +kernel)
theorem tw_497 : Cond.static y_J_numberOfTrailingZeros ∈ zt := zt_mem 497 (by decide +kernel) (by decide +kernel)
theorem tw_498 : Cond.code y_J_numberOfTrailingZeros prog_9_method_48_code 2 (some .int) ∈ zt := zt_mem 498 (by decide +kernel) (by decide +kernel)
theorem tw_499 : Cond.constant "java/lang/Integer" 264 (65536) ∈ zt := zt_mem 499 (by decide +kernel) (by decide +kernel)
theorem tw_501 : Cond.instanceMethod y_X_seen ∈ zt := zt_mem 501 (by decide +kernel) (by decide +kernel)
theorem tw_502 : Cond.selects "SnowRoad" y_X_seen y_X_seen ∈ zt := zt_mem 502 (by decide +kernel) (by decide +kernel)
theorem tw_503 : Cond.code y_X_seen prog_1_method_27_code 4 (some .int) ∈ zt := zt_mem 503 (by decide +kernel) (by decide +kernel)
theorem tw_504 : Cond.methodLink "SnowRoad" 215 y_XG_add ∈ zt := zt_mem 504 (by decide +kernel) (by decide +kernel)
theorem tw_505 : Cond.instanceMethod y_XG_add ∈ zt := zt_mem 505 (by decide +kernel) (by decide +kernel)
theorem tw_506 : Cond.selects "SnowRoad$Sightings" y_XG_add y_XG_add ∈ zt := zt_mem 506 (by decide +kernel) (by decide +kernel)
theorem tw_507 : Cond.code y_XG_add prog_3_method_2_code 4 (some .boolean) ∈ zt := zt_mem 507 (by decide +kernel) (by decide +kernel)
theorem tw_509 : Cond.instanceMethod y_X_forget ∈ zt := zt_mem 509 (by decide +kernel) (by decide +kernel)
theorem tw_510 : Cond.selects "SnowRoad" y_X_forget y_X_forget ∈ zt := zt_mem 510 (by decide +kernel) (by decide +kernel)
theorem tw_511 : Cond.code y_X_forget prog_1_method_28_code 2 (some .int) ∈ zt := zt_mem 511 (by decide +kernel) (by decide +kernel)
theorem tw_513 : Cond.instanceMethod y_X_never ∈ zt := zt_mem 513 (by decide +kernel) (by decide +kernel)
theorem tw_514 : Cond.selects "SnowRoad" y_X_never y_X_never ∈ zt := zt_mem 514 (by decide +kernel) (by decide +kernel)
theorem tw_515 : Cond.code y_X_never prog_1_method_29_code 3 (some .int) ∈ zt := zt_mem 515 (by decide +kernel) (by decide +kernel)
theorem tw_516 : Cond.methodLink "SnowRoad" 219 y_XG_fit ∈ zt := zt_mem 516 (by decide +kernel) (by decide +kernel)
theorem tw_517 : Cond.instanceMethod y_XG_fit ∈ zt := zt_mem 517 (by decide +kernel) (by decide +kernel)
theorem tw_518 : Cond.selects "SnowRoad$Sightings" y_XG_fit y_XG_fit ∈ zt := zt_mem 518 (by decide +kernel) (by decide +kernel)
theorem tw_519 : Cond.code y_XG_fit prog_3_method_3_code 3 (some .boolean) ∈ zt := zt_mem 519 (by decide +kernel) (by decide +kernel)
theorem tw_521 : Cond.instanceMethod y_X_strengths ∈ zt := zt_mem 521 (by decide +kernel) (by decide +kernel)
theorem tw_522 : Cond.selects "SnowRoad" y_X_strengths y_X_strengths ∈ zt := zt_mem 522 (by decide +kernel) (by decide +kernel)
theorem tw_523 : Cond.code y_X_strengths prog_1_method_30_code 4 (some .int) ∈ zt := zt_mem 523 (by decide +kernel) (by decide +kernel)
theorem tw_524 : Cond.methodLink "SnowRoad" 223 y_X_tryStrength ∈ zt := zt_mem 524 (by decide +kernel) (by decide +kernel)
theorem tw_526 : Cond.instanceMethod y_X_tryStrength ∈ zt := zt_mem 526 (by decide +kernel) (by decide +kernel)
theorem tw_527 : Cond.code y_X_tryStrength prog_1_method_56_code 4 none ∈ zt := zt_mem 527 (by decide +kernel) (by decide +kernel)
theorem tw_529 : Cond.instanceMethod y_X_lie ∈ zt := zt_mem 529 (by decide +kernel) (by decide +kernel)
theorem tw_530 : Cond.selects "SnowRoad" y_X_lie y_X_lie ∈ zt := zt_mem 530 (by decide +kernel) (by decide +kernel)
theorem tw_531 : Cond.code y_X_lie prog_1_method_31_code 4 (some .int) ∈ zt := zt_mem 531 (by decide +kernel) (by decide +kernel)
theorem tw_533 : Cond.instanceMethod y_X_ask ∈ zt := zt_mem 533 (by decide +kernel) (by decide +kernel)
theorem tw_534 : Cond.selects "SnowRoad" y_X_ask y_X_ask ∈ zt := zt_mem 534 (by decide +kernel) (by decide +kernel)
theorem tw_535 : Cond.code y_X_ask prog_1_method_32_code 7 (some .int) ∈ zt := zt_mem 535 (by decide +kernel) (by decide +kernel)
theorem tw_536 : Cond.methodLink "SnowRoad" 226 y_J_arraycopy ∈ zt := zt_mem 536 (by decide +kernel) (by decide +kernel)
theorem tw_537 : Cond.methodLink "SnowRoad" 232 y_X_mostAlike ∈ zt := zt_mem 537 (by decide +kernel) (by decide +kernel)
theorem tw_539 : Cond.instanceMethod y_X_mostAlike ∈ zt := zt_mem 539 (by decide +kernel) (by decide +kernel)
theorem tw_540 : Cond.code y_X_mostAlike prog_1_method_59_code 7 (some .int) ∈ zt := zt_mem 540 (by decide +kernel) (by decide +kernel)
theorem tw_541 : Cond.methodLink "SnowRoad" 384 y_X_sameDrift ∈ zt := zt_mem 541 (by decide +kernel) (by decide +kernel)
theorem tw_543 : Cond.instanceMethod y_X_sameDrift ∈ zt := zt_mem 543 (by decide +kernel) (by decide +kernel)
theorem tw_544 : Cond.code y_X_sameDrift prog_1_method_60_code 7 (some .boolean) ∈ zt := zt_mem 544 (by decide +kernel) (by decide +kernel)
theorem tw_545 : Cond.methodLink "SnowRoad" 387 y_J_max ∈ zt := zt_mem 545 (by decide +kernel) (by decide +kernel)
theorem tw_546 : Cond.static y_J_max ∈ zt := zt_mem 546 (by decide +kernel) (by decide +kernel)
theorem tw_547 : Cond.code y_J_max prog_10_method_65_code 2 (some .int) ∈ zt := zt_mem 547 (by decide +kernel) (by decide +kernel)
theorem tw_549 : Cond.instanceMethod y_X_chance ∈ zt := zt_mem 549 (by decide +kernel) (by decide +kernel)
theorem tw_550 : Cond.selects "SnowRoad" y_X_chance y_X_chance ∈ zt := zt_mem 550 (by decide +kernel) (by decide +kernel)
theorem tw_551 : Cond.code y_X_chance prog_1_method_33_code 9 (some .long) ∈ zt := zt_mem 551 (by decide +kernel) (by decide +kernel)
theorem tw_552 : Cond.constantLong "SnowRoad" 238 (-9223372036854775806) ∈ zt := zt_mem 552 (by decide +kernel) (by decide +kernel)
theorem tw_553 : Cond.methodLink "SnowRoad" 240 y_X_countChoices ∈ zt := zt_mem 553 (by decide +kernel) (by decide +kernel)
theorem tw_555 : Cond.instanceMethod y_X_countChoices ∈ zt := zt_mem 555 (by decide +kernel) (by decide +kernel)
theorem tw_556 : Cond.code y_X_countChoices prog_1_method_61_code 4 none ∈ zt := zt_mem 556 (by decide +kernel) (by decide +kernel)
theorem tw_557 : Cond.methodLink "SnowRoad" 390 y_J_fill ∈ zt := zt_mem 557 (by decide +kernel) (by decide +kernel)
theorem tw_558 : Cond.methodLink "SnowRoad" 243 y_X_power ∈ zt := zt_mem 558 (by decide +kernel) (by decide +kernel)
theorem tw_559 : Cond.static y_X_power ∈ zt := zt_mem 559 (by decide +kernel) (by decide +kernel)
theorem tw_560 : Cond.code y_X_power prog_1_method_62_code 5 (some .long) ∈ zt := zt_mem 560 (by decide +kernel) (by decide +kernel)
theorem tw_561 : Cond.constantLong "SnowRoad" 247 (2) ∈ zt := zt_mem 561 (by decide +kernel) (by decide +kernel)
theorem tw_563 : Cond.instanceMethod y_X_winters ∈ zt := zt_mem 563 (by decide +kernel) (by decide +kernel)
theorem tw_564 : Cond.selects "SnowRoad" y_X_winters y_X_winters ∈ zt := zt_mem 564 (by decide +kernel) (by decide +kernel)
theorem tw_565 : Cond.code y_X_winters prog_1_method_34_code 5 (some .int) ∈ zt := zt_mem 565 (by decide +kernel) (by decide +kernel)
theorem tw_566 : Cond.methodLink "SnowRoad" 249 y_X_drawFall ∈ zt := zt_mem 566 (by decide +kernel) (by decide +kernel)
theorem tw_568 : Cond.instanceMethod y_X_drawFall ∈ zt := zt_mem 568 (by decide +kernel) (by decide +kernel)
theorem tw_569 : Cond.code y_X_drawFall prog_1_method_63_code 4 none ∈ zt := zt_mem 569 (by decide +kernel) (by decide +kernel)
theorem tw_570 : Cond.constant "SnowRoad" 396 (1103515245) ∈ zt := zt_mem 570 (by decide +kernel) (by decide +kernel)
theorem tw_572 : Cond.instanceMethod y_X_sheet ∈ zt := zt_mem 572 (by decide +kernel) (by decide +kernel)
theorem tw_573 : Cond.selects "SnowRoad" y_X_sheet y_X_sheet ∈ zt := zt_mem 573 (by decide +kernel) (by decide +kernel)
theorem tw_574 : Cond.code y_X_sheet prog_1_method_35_code 4 (some .int) ∈ zt := zt_mem 574 (by decide +kernel) (by decide +kernel)
theorem tw_575 : Cond.methodLink "SnowRoad" 252 y_XH_renew ∈ zt := zt_mem 575 (by decide +kernel) (by decide +kernel)
theorem tw_576 : Cond.instanceMethod y_XH_renew ∈ zt := zt_mem 576 (by decide +kernel) (by decide +kernel)
theorem tw_577 : Cond.selects "SnowRoad$Sheet" y_XH_renew y_XH_renew ∈ zt := zt_mem 577 (by decide +kernel) (by decide +kernel)
theorem tw_578 : Cond.code y_XH_renew prog_2_method_2_code 3 none ∈ zt := zt_mem 578 (by decide +kernel) (by decide +kernel)
theorem tw_579 : Cond.methodLink "SnowRoad$Sheet" 22 y_J_fill ∈ zt := zt_mem 579 (by decide +kernel) (by decide +kernel)
theorem tw_581 : Cond.instanceMethod y_X_lose ∈ zt := zt_mem 581 (by decide +kernel) (by decide +kernel)
theorem tw_582 : Cond.selects "SnowRoad" y_X_lose y_X_lose ∈ zt := zt_mem 582 (by decide +kernel) (by decide +kernel)
theorem tw_583 : Cond.code y_X_lose prog_1_method_36_code 2 (some .int) ∈ zt := zt_mem 583 (by decide +kernel) (by decide +kernel)
theorem tw_585 : Cond.instanceMethod y_X_lay ∈ zt := zt_mem 585 (by decide +kernel) (by decide +kernel)
theorem tw_586 : Cond.selects "SnowRoad" y_X_lay y_X_lay ∈ zt := zt_mem 586 (by decide +kernel) (by decide +kernel)
theorem tw_587 : Cond.code y_X_lay prog_1_method_37_code 6 (some .int) ∈ zt := zt_mem 587 (by decide +kernel) (by decide +kernel)
theorem tw_588 : Cond.methodLink "SnowRoad" 255 y_X_wrongWith ∈ zt := zt_mem 588 (by decide +kernel) (by decide +kernel)
theorem tw_589 : Cond.static y_X_wrongWith ∈ zt := zt_mem 589 (by decide +kernel) (by decide +kernel)
theorem tw_590 : Cond.code y_X_wrongWith prog_1_method_48_code 3 (some .int) ∈ zt := zt_mem 590 (by decide +kernel) (by decide +kernel)
theorem tw_591 : Cond.methodLink "SnowRoad" 259 y_XH_put ∈ zt := zt_mem 591 (by decide +kernel) (by decide +kernel)
theorem tw_592 : Cond.instanceMethod y_XH_put ∈ zt := zt_mem 592 (by decide +kernel) (by decide +kernel)
theorem tw_593 : Cond.selects "SnowRoad$Sheet" y_XH_put y_XH_put ∈ zt := zt_mem 593 (by decide +kernel) (by decide +kernel)
theorem tw_594 : Cond.code y_XH_put prog_2_method_3_code 3 none ∈ zt := zt_mem 594 (by decide +kernel) (by decide +kernel)
theorem tw_596 : Cond.instanceMethod y_X_get ∈ zt := zt_mem 596 (by decide +kernel) (by decide +kernel)
theorem tw_597 : Cond.selects "SnowRoad" y_X_get y_X_get ∈ zt := zt_mem 597 (by decide +kernel) (by decide +kernel)
theorem tw_598 : Cond.code y_X_get prog_1_method_38_code 5 (some .int) ∈ zt := zt_mem 598 (by decide +kernel) (by decide +kernel)
theorem tw_599 : Cond.constant "SnowRoad" 262 (-2147483648) ∈ zt := zt_mem 599 (by decide +kernel) (by decide +kernel)
theorem tw_601 : Cond.instanceMethod y_X_copy ∈ zt := zt_mem 601 (by decide +kernel) (by decide +kernel)
theorem tw_602 : Cond.selects "SnowRoad" y_X_copy y_X_copy ∈ zt := zt_mem 602 (by decide +kernel) (by decide +kernel)
theorem tw_603 : Cond.code y_X_copy prog_1_method_39_code 8 (some .int) ∈ zt := zt_mem 603 (by decide +kernel) (by decide +kernel)
theorem tw_604 : Cond.methodLink "SnowRoad" 263 y_XH_hasItems ∈ zt := zt_mem 604 (by decide +kernel) (by decide +kernel)
theorem tw_605 : Cond.instanceMethod y_XH_hasItems ∈ zt := zt_mem 605 (by decide +kernel) (by decide +kernel)
theorem tw_606 : Cond.selects "SnowRoad$Sheet" y_XH_hasItems y_XH_hasItems ∈ zt := zt_mem 606 (by decide +kernel) (by decide +kernel)
theorem tw_607 : Cond.code y_XH_hasItems prog_2_method_4_code 3 (some .boolean) ∈ zt := zt_mem 607 (by decide +kernel) (by decide +kernel)
theorem tw_609 : Cond.instanceMethod y_X_write ∈ zt := zt_mem 609 (by decide +kernel) (by decide +kernel)
theorem tw_610 : Cond.selects "SnowRoad" y_X_write y_X_write ∈ zt := zt_mem 610 (by decide +kernel) (by decide +kernel)
theorem tw_611 : Cond.code y_X_write prog_1_method_40_code 6 (some .int) ∈ zt := zt_mem 611 (by decide +kernel) (by decide +kernel)
theorem tw_612 : Cond.methodLink "SnowRoad" 266 y_J_min ∈ zt := zt_mem 612 (by decide +kernel) (by decide +kernel)
theorem tw_613 : Cond.static y_J_min ∈ zt := zt_mem 613 (by decide +kernel) (by decide +kernel)
theorem tw_614 : Cond.code y_J_min prog_10_method_69_code 2 (some .int) ∈ zt := zt_mem 614 (by decide +kernel) (by decide +kernel)
theorem tw_616 : Cond.instanceMethod y_X_count ∈ zt := zt_mem 616 (by decide +kernel) (by decide +kernel)
theorem tw_617 : Cond.selects "SnowRoad" y_X_count y_X_count ∈ zt := zt_mem 617 (by decide +kernel) (by decide +kernel)
theorem tw_618 : Cond.code y_X_count prog_1_method_41_code 2 (some .int) ∈ zt := zt_mem 618 (by decide +kernel) (by decide +kernel)
theorem tw_619 : Cond.methodLink "SnowRoad" 271 y_X_allBytes ∈ zt := zt_mem 619 (by decide +kernel) (by decide +kernel)
theorem tw_621 : Cond.instanceMethod y_X_allBytes ∈ zt := zt_mem 621 (by decide +kernel) (by decide +kernel)
theorem tw_622 : Cond.code y_X_allBytes prog_1_method_51_code 3 (some .int) ∈ zt := zt_mem 622 (by decide +kernel) (by decide +kernel)
theorem tw_624 : Cond.instanceMethod y_X_digest ∈ zt := zt_mem 624 (by decide +kernel) (by decide +kernel)
theorem tw_625 : Cond.selects "SnowRoad" y_X_digest y_X_digest ∈ zt := zt_mem 625 (by decide +kernel) (by decide +kernel)
theorem tw_626 : Cond.code y_X_digest prog_1_method_42_code 4 (some .long) ∈ zt := zt_mem 626 (by decide +kernel) (by decide +kernel)
theorem tw_627 : Cond.constantLong "SnowRoad" 274 (17) ∈ zt := zt_mem 627 (by decide +kernel) (by decide +kernel)
theorem tw_628 : Cond.methodLink "SnowRoad" 276 y_X_count ∈ zt := zt_mem 628 (by decide +kernel) (by decide +kernel)
theorem tw_629 : Cond.methodLink "SnowRoad" 279 y_X_mix ∈ zt := zt_mem 629 (by decide +kernel) (by decide +kernel)
theorem tw_630 : Cond.static y_X_mix ∈ zt := zt_mem 630 (by decide +kernel) (by decide +kernel)
theorem tw_631 : Cond.code y_X_mix prog_1_method_44_code 4 (some .long) ∈ zt := zt_mem 631 (by decide +kernel) (by decide +kernel)
theorem tw_632 : Cond.constantLong "SnowRoad" 329 (31) ∈ zt := zt_mem 632 (by decide +kernel) (by decide +kernel)
theorem tw_633 : Cond.methodLink "SnowRoad" 283 y_X_fault ∈ zt := zt_mem 633 (by decide +kernel) (by decide +kernel)
theorem tw_634 : Cond.methodLink "SnowRoad" 286 y_X_fall ∈ zt := zt_mem 634 (by decide +kernel) (by decide +kernel)
theorem tw_635 : Cond.methodLink "SnowRoad" 289 y_X_snow ∈ zt := zt_mem 635 (by decide +kernel) (by decide +kernel)
theorem tw_636 : Cond.methodLink "SnowRoad" 292 y_X_land ∈ zt := zt_mem 636 (by decide +kernel) (by decide +kernel)
theorem tw_637 : Cond.methodLink "SnowRoad" 295 y_X_deep ∈ zt := zt_mem 637 (by decide +kernel) (by decide +kernel)
theorem tw_638 : Cond.methodLink "SnowRoad" 298 y_X_lie ∈ zt := zt_mem 638 (by decide +kernel) (by decide +kernel)
theorem tw_639 : Cond.methodLink "SnowRoad" 301 y_X_mixPlough ∈ zt := zt_mem 639 (by decide +kernel) (by decide +kernel)
theorem tw_641 : Cond.instanceMethod y_X_mixPlough ∈ zt := zt_mem 641 (by decide +kernel) (by decide +kernel)
theorem tw_642 : Cond.code y_X_mixPlough prog_1_method_45_code 8 (some .long) ∈ zt := zt_mem 642 (by decide +kernel) (by decide +kernel)
theorem tw_643 : Cond.methodLink "SnowRoad" 331 y_X_plough ∈ zt := zt_mem 643 (by decide +kernel) (by decide +kernel)
theorem tw_644 : Cond.fieldLink "SnowRoad" 334 "SnowRoad" "DIGEST_PLOUGH_HOURS" "[I" ∈ zt := zt_mem 644 (by decide +kernel) (by decide +kernel)
theorem tw_646 : Cond.methodLink "SnowRoad" 337 y_X_at ∈ zt := zt_mem 646 (by decide +kernel) (by decide +kernel)
theorem tw_647 : Cond.methodLink "SnowRoad" 340 y_X_cleared ∈ zt := zt_mem 647 (by decide +kernel) (by decide +kernel)
theorem tw_648 : Cond.methodLink "SnowRoad" 343 y_X_begin ∈ zt := zt_mem 648 (by decide +kernel) (by decide +kernel)
theorem tw_649 : Cond.methodLink "SnowRoad" 346 y_X_strengths ∈ zt := zt_mem 649 (by decide +kernel) (by decide +kernel)
theorem tw_650 : Cond.methodLink "SnowRoad" 349 y_X_ask ∈ zt := zt_mem 650 (by decide +kernel) (by decide +kernel)
theorem tw_651 : Cond.methodLink "SnowRoad" 305 y_X_mixBus ∈ zt := zt_mem 651 (by decide +kernel) (by decide +kernel)
theorem tw_653 : Cond.instanceMethod y_X_mixBus ∈ zt := zt_mem 653 (by decide +kernel) (by decide +kernel)
theorem tw_654 : Cond.code y_X_mixBus prog_1_method_46_code 4 (some .long) ∈ zt := zt_mem 654 (by decide +kernel) (by decide +kernel)
theorem tw_655 : Cond.methodLink "SnowRoad" 352 y_X_bus ∈ zt := zt_mem 655 (by decide +kernel) (by decide +kernel)
theorem tw_656 : Cond.methodLink "SnowRoad" 355 y_X_rides ∈ zt := zt_mem 656 (by decide +kernel) (by decide +kernel)
theorem tw_657 : Cond.methodLink "SnowRoad" 358 y_X_over ∈ zt := zt_mem 657 (by decide +kernel) (by decide +kernel)
theorem tw_658 : Cond.methodLink "SnowRoad" 361 y_X_start ∈ zt := zt_mem 658 (by decide +kernel) (by decide +kernel)
theorem tw_659 : Cond.methodLink "SnowRoad" 364 y_X_chance ∈ zt := zt_mem 659 (by decide +kernel) (by decide +kernel)
theorem tw_660 : Cond.methodLink "SnowRoad" 308 y_X_deepest ∈ zt := zt_mem 660 (by decide +kernel) (by decide +kernel)
theorem tw_661 : Cond.methodLink "SnowRoad" 311 y_X_shut ∈ zt := zt_mem 661 (by decide +kernel) (by decide +kernel)
theorem tw_662 : Cond.methodLink "SnowRoad" 314 y_X_best ∈ zt := zt_mem 662 (by decide +kernel) (by decide +kernel)
theorem tw_663 : Cond.methodLink "SnowRoad" 317 y_X_hedge ∈ zt := zt_mem 663 (by decide +kernel) (by decide +kernel)
theorem tw_664 : Cond.methodLink "SnowRoad" 320 y_X_spare ∈ zt := zt_mem 664 (by decide +kernel) (by decide +kernel)
theorem tw_665 : Cond.methodLink "SnowRoad" 323 y_X_never ∈ zt := zt_mem 665 (by decide +kernel) (by decide +kernel)
theorem tw_666 : Cond.methodLink "SnowRoad" 326 y_X_winters ∈ zt := zt_mem 666 (by decide +kernel) (by decide +kernel)
theorem tw_673 : Cond.fieldLink "SnowRoadModel" 7 "SnowRoadModel" "forms" "[I" ∈ zt := zt_mem 673 (by decide +kernel) (by decide +kernel)
theorem tw_674 : Cond.fieldLink "SnowRoadModel" 13 "SnowRoadModel" "sizes" "[I" ∈ zt := zt_mem 674 (by decide +kernel) (by decide +kernel)
theorem tw_675 : Cond.fieldLink "SnowRoadModel" 16 "SnowRoadModel" "items" "[I" ∈ zt := zt_mem 675 (by decide +kernel) (by decide +kernel)
theorem tw_676 : Cond.fieldLink "SnowRoadModel" 19 "SnowRoadModel" "moved" "[I" ∈ zt := zt_mem 676 (by decide +kernel) (by decide +kernel)
theorem tw_677 : Cond.fieldLink "SnowRoadModel" 101 "SnowRoadModel" "latest" "I" ∈ zt := zt_mem 677 (by decide +kernel) (by decide +kernel)
theorem tw_678 : Cond.fieldLink "SnowRoadModel" 22 "SnowRoadModel" "bytes" "[I" ∈ zt := zt_mem 678 (by decide +kernel) (by decide +kernel)
theorem tw_679 : Cond.fieldLink "SnowRoadModel" 25 "SnowRoadModel" "typed" "[I" ∈ zt := zt_mem 679 (by decide +kernel) (by decide +kernel)
theorem tw_680 : Cond.fieldLink "SnowRoadModel" 28 "SnowRoadModel" "land" "[I" ∈ zt := zt_mem 680 (by decide +kernel) (by decide +kernel)
theorem tw_681 : Cond.fieldLink "SnowRoadModel" 31 "SnowRoadModel" "fall" "[I" ∈ zt := zt_mem 681 (by decide +kernel) (by decide +kernel)
theorem tw_682 : Cond.fieldLink "SnowRoadModel" 146 "SnowRoadModel" "ploughs" "I" ∈ zt := zt_mem 682 (by decide +kernel) (by decide +kernel)
theorem tw_683 : Cond.fieldLink "SnowRoadModel" 34 "SnowRoadModel" "plough" "[I" ∈ zt := zt_mem 683 (by decide +kernel) (by decide +kernel)
theorem tw_684 : Cond.fieldLink "SnowRoadModel" 152 "SnowRoadModel" "buses" "I" ∈ zt := zt_mem 684 (by decide +kernel) (by decide +kernel)
theorem tw_685 : Cond.fieldLink "SnowRoadModel" 37 "SnowRoadModel" "bus" "[I" ∈ zt := zt_mem 685 (by decide +kernel) (by decide +kernel)
theorem tw_686 : Cond.fieldLink "SnowRoadModel" 91 "SnowRoadModel" "wind" "I" ∈ zt := zt_mem 686 (by decide +kernel) (by decide +kernel)
theorem tw_687 : Cond.fieldLink "SnowRoadModel" 189 "SnowRoadModel" "events" "I" ∈ zt := zt_mem 687 (by decide +kernel) (by decide +kernel)
theorem tw_688 : Cond.fieldLink "SnowRoadModel" 40 "SnowRoadModel" "event" "[I" ∈ zt := zt_mem 688 (by decide +kernel) (by decide +kernel)
theorem tw_689 : Cond.fieldLink "SnowRoadModel" 194 "SnowRoadModel" "gone" "I" ∈ zt := zt_mem 689 (by decide +kernel) (by decide +kernel)
theorem tw_690 : Cond.fieldLink "SnowRoadModel" 43 "SnowRoadModel" "depth" "[I" ∈ zt := zt_mem 690 (by decide +kernel) (by decide +kernel)
theorem tw_691 : Cond.fieldLink "SnowRoadModel" 46 "SnowRoadModel" "carried" "[I" ∈ zt := zt_mem 691 (by decide +kernel) (by decide +kernel)
theorem tw_692 : Cond.fieldLink "SnowRoadModel" 49 "SnowRoadModel" "mile" "[I" ∈ zt := zt_mem 692 (by decide +kernel) (by decide +kernel)
theorem tw_693 : Cond.fieldLink "SnowRoadModel" 52 "SnowRoadModel" "way" "[I" ∈ zt := zt_mem 693 (by decide +kernel) (by decide +kernel)
theorem tw_694 : Cond.fieldLink "SnowRoadModel" 55 "SnowRoadModel" "scooped" "[I" ∈ zt := zt_mem 694 (by decide +kernel) (by decide +kernel)
theorem tw_695 : Cond.fieldLink "SnowRoadModel" 58 "SnowRoadModel" "stuck" "[I" ∈ zt := zt_mem 695 (by decide +kernel) (by decide +kernel)
theorem tw_696 : Cond.fieldLink "SnowRoadModel" 61 "SnowRoadModel" "ride" "[I" ∈ zt := zt_mem 696 (by decide +kernel) (by decide +kernel)
theorem tw_697 : Cond.fieldLink "SnowRoadModel" 64 "SnowRoadModel" "overIn" "[I" ∈ zt := zt_mem 697 (by decide +kernel) (by decide +kernel)
theorem tw_698 : Cond.fieldLink "SnowRoadModel" 67 "SnowRoadModel" "waited" "[I" ∈ zt := zt_mem 698 (by decide +kernel) (by decide +kernel)
theorem tw_699 : Cond.fieldLink "SnowRoadModel" 70 "SnowRoadModel" "depthBy" "[I" ∈ zt := zt_mem 699 (by decide +kernel) (by decide +kernel)
theorem tw_700 : Cond.fieldLink "SnowRoadModel" 73 "SnowRoadModel" "mileBy" "[I" ∈ zt := zt_mem 700 (by decide +kernel) (by decide +kernel)
theorem tw_701 : Cond.fieldLink "SnowRoadModel" 76 "SnowRoadModel" "wayBy" "[I" ∈ zt := zt_mem 701 (by decide +kernel) (by decide +kernel)
theorem tw_702 : Cond.fieldLink "SnowRoadModel" 79 "SnowRoadModel" "scoopBy" "[I" ∈ zt := zt_mem 702 (by decide +kernel) (by decide +kernel)
theorem tw_703 : Cond.fieldLink "SnowRoadModel" 82 "SnowRoadModel" "rideBy" "[I" ∈ zt := zt_mem 703 (by decide +kernel) (by decide +kernel)
theorem tw_704 : Cond.fieldLink "SnowRoadModel" 281 "SnowRoadModel" "sights" "I" ∈ zt := zt_mem 704 (by decide +kernel) (by decide +kernel)
theorem tw_705 : Cond.fieldLink "SnowRoadModel" 85 "SnowRoadModel" "sight" "[I" ∈ zt := zt_mem 705 (by decide +kernel) (by decide +kernel)
theorem tw_706 : Cond.fieldLink "SnowRoadModel" 88 "SnowRoadModel" "ways" "[I" ∈ zt := zt_mem 706 (by decide +kernel) (by decide +kernel)
theorem tw_707 : Cond.fieldLink "SnowRoadModel" 321 "SnowRoadModel" "drawn" "I" ∈ zt := zt_mem 707 (by decide +kernel) (by decide +kernel)
theorem tw_780 : Cond.instanceMethod y_R_sheet ∈ zt := zt_mem 780 (by decide +kernel) (by decide +kernel)
theorem tw_781 : Cond.selects "SnowRoadModel" y_R_sheet y_R_sheet ∈ zt := zt_mem 781 (by decide +kernel) (by decide +kernel)
theorem tw_782 : Cond.code y_R_sheet prog_8_method_12_code 5 (some .int) ∈ zt := zt_mem 782 (by decide +kernel) (by decide +kernel)
theorem tw_783 : Cond.methodLink "SnowRoadModel" 106 y_R_isSheet ∈ zt := zt_mem 783 (by decide +kernel) (by decide +kernel)
theorem tw_784 : Cond.static y_R_isSheet ∈ zt := zt_mem 784 (by decide +kernel) (by decide +kernel)
theorem tw_785 : Cond.code y_R_isSheet prog_8_method_11_code 1 (some .boolean) ∈ zt := zt_mem 785 (by decide +kernel) (by decide +kernel)
theorem tw_786 : Cond.constantLong "SnowRoadModel" 104 (3) ∈ zt := zt_mem 786 (by decide +kernel) (by decide +kernel)
theorem tw_787 : Cond.methodLink "SnowRoadModel" 97 y_R_in ∈ zt := zt_mem 787 (by decide +kernel) (by decide +kernel)
theorem tw_788 : Cond.static y_R_in ∈ zt := zt_mem 788 (by decide +kernel) (by decide +kernel)
theorem tw_789 : Cond.code y_R_in prog_8_method_3_code 6 (some .boolean) ∈ zt := zt_mem 789 (by decide +kernel) (by decide +kernel)
theorem tw_790 : Cond.constantLong "SnowRoadModel" 110 (2) ∈ zt := zt_mem 790 (by decide +kernel) (by decide +kernel)
theorem tw_791 : Cond.methodLink "SnowRoadModel" 112 y_R_finds ∈ zt := zt_mem 791 (by decide +kernel) (by decide +kernel)
theorem tw_793 : Cond.instanceMethod y_R_finds ∈ zt := zt_mem 793 (by decide +kernel) (by decide +kernel)
theorem tw_794 : Cond.code y_R_finds prog_8_method_10_code 2 (some .int) ∈ zt := zt_mem 794 (by decide +kernel) (by decide +kernel)
theorem tw_796 : Cond.instanceMethod y_R_lose ∈ zt := zt_mem 796 (by decide +kernel) (by decide +kernel)
theorem tw_797 : Cond.selects "SnowRoadModel" y_R_lose y_R_lose ∈ zt := zt_mem 797 (by decide +kernel) (by decide +kernel)
theorem tw_798 : Cond.code y_R_lose prog_8_method_13_code 2 (some .int) ∈ zt := zt_mem 798 (by decide +kernel) (by decide +kernel)
theorem tw_800 : Cond.instanceMethod y_R_lay ∈ zt := zt_mem 800 (by decide +kernel) (by decide +kernel)
theorem tw_801 : Cond.selects "SnowRoadModel" y_R_lay y_R_lay ∈ zt := zt_mem 801 (by decide +kernel) (by decide +kernel)
theorem tw_802 : Cond.code y_R_lay prog_8_method_16_code 6 (some .int) ∈ zt := zt_mem 802 (by decide +kernel) (by decide +kernel)
theorem tw_803 : Cond.methodLink "SnowRoadModel" 116 y_R_lacks ∈ zt := zt_mem 803 (by decide +kernel) (by decide +kernel)
theorem tw_805 : Cond.instanceMethod y_R_lacks ∈ zt := zt_mem 805 (by decide +kernel) (by decide +kernel)
theorem tw_806 : Cond.code y_R_lacks prog_8_method_14_code 4 (some .int) ∈ zt := zt_mem 806 (by decide +kernel) (by decide +kernel)
theorem tw_807 : Cond.methodLink "SnowRoadModel" 120 y_R_cut ∈ zt := zt_mem 807 (by decide +kernel) (by decide +kernel)
theorem tw_808 : Cond.static y_R_cut ∈ zt := zt_mem 808 (by decide +kernel) (by decide +kernel)
theorem tw_809 : Cond.code y_R_cut prog_8_method_15_code 2 (some .int) ∈ zt := zt_mem 809 (by decide +kernel) (by decide +kernel)
theorem tw_811 : Cond.instanceMethod y_R_get ∈ zt := zt_mem 811 (by decide +kernel) (by decide +kernel)
theorem tw_812 : Cond.selects "SnowRoadModel" y_R_get y_R_get ∈ zt := zt_mem 812 (by decide +kernel) (by decide +kernel)
theorem tw_813 : Cond.code y_R_get prog_8_method_17_code 4 (some .int) ∈ zt := zt_mem 813 (by decide +kernel) (by decide +kernel)
theorem tw_814 : Cond.constant "SnowRoadModel" 124 (-2147483648) ∈ zt := zt_mem 814 (by decide +kernel) (by decide +kernel)
theorem tw_816 : Cond.instanceMethod y_R_copy ∈ zt := zt_mem 816 (by decide +kernel) (by decide +kernel)
theorem tw_817 : Cond.selects "SnowRoadModel" y_R_copy y_R_copy ∈ zt := zt_mem 817 (by decide +kernel) (by decide +kernel)
theorem tw_818 : Cond.code y_R_copy prog_8_method_18_code 7 (some .int) ∈ zt := zt_mem 818 (by decide +kernel) (by decide +kernel)
theorem tw_820 : Cond.instanceMethod y_R_type ∈ zt := zt_mem 820 (by decide +kernel) (by decide +kernel)
theorem tw_821 : Cond.selects "SnowRoadModel" y_R_type y_R_type ∈ zt := zt_mem 821 (by decide +kernel) (by decide +kernel)
theorem tw_822 : Cond.code y_R_type prog_8_method_20_code 3 (some .int) ∈ zt := zt_mem 822 (by decide +kernel) (by decide +kernel)
theorem tw_823 : Cond.methodLink "SnowRoadModel" 125 y_R_isText ∈ zt := zt_mem 823 (by decide +kernel) (by decide +kernel)
theorem tw_824 : Cond.static y_R_isText ∈ zt := zt_mem 824 (by decide +kernel) (by decide +kernel)
theorem tw_825 : Cond.code y_R_isText prog_8_method_19_code 1 (some .boolean) ∈ zt := zt_mem 825 (by decide +kernel) (by decide +kernel)
theorem tw_826 : Cond.constantLong "SnowRoadModel" 128 (255) ∈ zt := zt_mem 826 (by decide +kernel) (by decide +kernel)
theorem tw_828 : Cond.instanceMethod y_R_wipe ∈ zt := zt_mem 828 (by decide +kernel) (by decide +kernel)
theorem tw_829 : Cond.selects "SnowRoadModel" y_R_wipe y_R_wipe ∈ zt := zt_mem 829 (by decide +kernel) (by decide +kernel)
theorem tw_830 : Cond.code y_R_wipe prog_8_method_21_code 3 (some .int) ∈ zt := zt_mem 830 (by decide +kernel) (by decide +kernel)
theorem tw_832 : Cond.instanceMethod y_R_undo ∈ zt := zt_mem 832 (by decide +kernel) (by decide +kernel)
theorem tw_833 : Cond.selects "SnowRoadModel" y_R_undo y_R_undo ∈ zt := zt_mem 833 (by decide +kernel) (by decide +kernel)
theorem tw_834 : Cond.code y_R_undo prog_8_method_22_code 2 (some .int) ∈ zt := zt_mem 834 (by decide +kernel) (by decide +kernel)
theorem tw_836 : Cond.instanceMethod y_R_fault ∈ zt := zt_mem 836 (by decide +kernel) (by decide +kernel)
theorem tw_837 : Cond.selects "SnowRoadModel" y_R_fault y_R_fault ∈ zt := zt_mem 837 (by decide +kernel) (by decide +kernel)
theorem tw_838 : Cond.code y_R_fault prog_8_method_33_code 2 (some .int) ∈ zt := zt_mem 838 (by decide +kernel) (by decide +kernel)
theorem tw_839 : Cond.methodLink "SnowRoadModel" 168 y_R_readsText ∈ zt := zt_mem 839 (by decide +kernel) (by decide +kernel)
theorem tw_841 : Cond.instanceMethod y_R_readsText ∈ zt := zt_mem 841 (by decide +kernel) (by decide +kernel)
theorem tw_842 : Cond.code y_R_readsText prog_8_method_32_code 2 (some .int) ∈ zt := zt_mem 842 (by decide +kernel) (by decide +kernel)
theorem tw_843 : Cond.methodLink "SnowRoadModel" 155 y_R_readsLand ∈ zt := zt_mem 843 (by decide +kernel) (by decide +kernel)
theorem tw_845 : Cond.instanceMethod y_R_readsLand ∈ zt := zt_mem 845 (by decide +kernel) (by decide +kernel)
theorem tw_846 : Cond.code y_R_readsLand prog_8_method_26_code 4 (some .int) ∈ zt := zt_mem 846 (by decide +kernel) (by decide +kernel)
theorem tw_847 : Cond.methodLink "SnowRoadModel" 134 y_R_plains ∈ zt := zt_mem 847 (by decide +kernel) (by decide +kernel)
theorem tw_849 : Cond.instanceMethod y_R_plains ∈ zt := zt_mem 849 (by decide +kernel) (by decide +kernel)
theorem tw_850 : Cond.code y_R_plains prog_8_method_25_code 2 none ∈ zt := zt_mem 850 (by decide +kernel) (by decide +kernel)
theorem tw_851 : Cond.methodLink "SnowRoadModel" 159 y_R_readsFall ∈ zt := zt_mem 851 (by decide +kernel) (by decide +kernel)
theorem tw_853 : Cond.instanceMethod y_R_readsFall ∈ zt := zt_mem 853 (by decide +kernel) (by decide +kernel)
theorem tw_854 : Cond.code y_R_readsFall prog_8_method_28_code 3 (some .int) ∈ zt := zt_mem 854 (by decide +kernel) (by decide +kernel)
theorem tw_855 : Cond.methodLink "SnowRoadModel" 137 y_R_clears ∈ zt := zt_mem 855 (by decide +kernel) (by decide +kernel)
theorem tw_857 : Cond.instanceMethod y_R_clears ∈ zt := zt_mem 857 (by decide +kernel) (by decide +kernel)
theorem tw_858 : Cond.code y_R_clears prog_8_method_27_code 2 none ∈ zt := zt_mem 858 (by decide +kernel) (by decide +kernel)
theorem tw_859 : Cond.methodLink "SnowRoadModel" 140 y_R_figureOf ∈ zt := zt_mem 859 (by decide +kernel) (by decide +kernel)
theorem tw_860 : Cond.static y_R_figureOf ∈ zt := zt_mem 860 (by decide +kernel) (by decide +kernel)
theorem tw_861 : Cond.code y_R_figureOf prog_8_method_23_code 2 (some .int) ∈ zt := zt_mem 861 (by decide +kernel) (by decide +kernel)
theorem tw_862 : Cond.constantLong "SnowRoadModel" 130 (57) ∈ zt := zt_mem 862 (by decide +kernel) (by decide +kernel)
theorem tw_863 : Cond.methodLink "SnowRoadModel" 162 y_R_readsPloughs ∈ zt := zt_mem 863 (by decide +kernel) (by decide +kernel)
theorem tw_865 : Cond.instanceMethod y_R_readsPloughs ∈ zt := zt_mem 865 (by decide +kernel) (by decide +kernel)
theorem tw_866 : Cond.code y_R_readsPloughs prog_8_method_30_code 5 (some .int) ∈ zt := zt_mem 866 (by decide +kernel) (by decide +kernel)
theorem tw_867 : Cond.methodLink "SnowRoadModel" 149 y_R_ploughOf ∈ zt := zt_mem 867 (by decide +kernel) (by decide +kernel)
theorem tw_868 : Cond.static y_R_ploughOf ∈ zt := zt_mem 868 (by decide +kernel) (by decide +kernel)
theorem tw_869 : Cond.code y_R_ploughOf prog_8_method_29_code 2 (some .int) ∈ zt := zt_mem 869 (by decide +kernel) (by decide +kernel)
theorem tw_870 : Cond.methodLink "SnowRoadModel" 143 y_R_letterOf ∈ zt := zt_mem 870 (by decide +kernel) (by decide +kernel)
theorem tw_871 : Cond.static y_R_letterOf ∈ zt := zt_mem 871 (by decide +kernel) (by decide +kernel)
theorem tw_872 : Cond.code y_R_letterOf prog_8_method_24_code 2 (some .int) ∈ zt := zt_mem 872 (by decide +kernel) (by decide +kernel)
theorem tw_873 : Cond.constantLong "SnowRoadModel" 132 (97) ∈ zt := zt_mem 873 (by decide +kernel) (by decide +kernel)
theorem tw_874 : Cond.methodLink "SnowRoadModel" 165 y_R_readsBuses ∈ zt := zt_mem 874 (by decide +kernel) (by decide +kernel)
theorem tw_876 : Cond.instanceMethod y_R_readsBuses ∈ zt := zt_mem 876 (by decide +kernel) (by decide +kernel)
theorem tw_877 : Cond.code y_R_readsBuses prog_8_method_31_code 3 (some .int) ∈ zt := zt_mem 877 (by decide +kernel) (by decide +kernel)
theorem tw_879 : Cond.instanceMethod y_R_land ∈ zt := zt_mem 879 (by decide +kernel) (by decide +kernel)
theorem tw_880 : Cond.selects "SnowRoadModel" y_R_land y_R_land ∈ zt := zt_mem 880 (by decide +kernel) (by decide +kernel)
theorem tw_881 : Cond.code y_R_land prog_8_method_38_code 2 (some .int) ∈ zt := zt_mem 881 (by decide +kernel) (by decide +kernel)
theorem tw_882 : Cond.methodLink "SnowRoadModel" 175 y_R_isMile ∈ zt := zt_mem 882 (by decide +kernel) (by decide +kernel)
theorem tw_883 : Cond.static y_R_isMile ∈ zt := zt_mem 883 (by decide +kernel) (by decide +kernel)
theorem tw_884 : Cond.code y_R_isMile prog_8_method_34_code 1 (some .boolean) ∈ zt := zt_mem 884 (by decide +kernel) (by decide +kernel)
theorem tw_885 : Cond.constantLong "SnowRoadModel" 171 (11) ∈ zt := zt_mem 885 (by decide +kernel) (by decide +kernel)
theorem tw_887 : Cond.instanceMethod y_R_fall ∈ zt := zt_mem 887 (by decide +kernel) (by decide +kernel)
theorem tw_888 : Cond.selects "SnowRoadModel" y_R_fall y_R_fall ∈ zt := zt_mem 888 (by decide +kernel) (by decide +kernel)
theorem tw_889 : Cond.code y_R_fall prog_8_method_39_code 2 (some .int) ∈ zt := zt_mem 889 (by decide +kernel) (by decide +kernel)
theorem tw_890 : Cond.methodLink "SnowRoadModel" 178 y_R_isHour ∈ zt := zt_mem 890 (by decide +kernel) (by decide +kernel)
theorem tw_891 : Cond.static y_R_isHour ∈ zt := zt_mem 891 (by decide +kernel) (by decide +kernel)
theorem tw_892 : Cond.code y_R_isHour prog_8_method_35_code 1 (some .boolean) ∈ zt := zt_mem 892 (by decide +kernel) (by decide +kernel)
theorem tw_893 : Cond.constantLong "SnowRoadModel" 173 (23) ∈ zt := zt_mem 893 (by decide +kernel) (by decide +kernel)
theorem tw_895 : Cond.instanceMethod y_R_plough ∈ zt := zt_mem 895 (by decide +kernel) (by decide +kernel)
theorem tw_896 : Cond.selects "SnowRoadModel" y_R_plough y_R_plough ∈ zt := zt_mem 896 (by decide +kernel) (by decide +kernel)
theorem tw_897 : Cond.code y_R_plough prog_8_method_40_code 3 (some .int) ∈ zt := zt_mem 897 (by decide +kernel) (by decide +kernel)
theorem tw_898 : Cond.methodLink "SnowRoadModel" 181 y_R_isPlough ∈ zt := zt_mem 898 (by decide +kernel) (by decide +kernel)
theorem tw_900 : Cond.instanceMethod y_R_isPlough ∈ zt := zt_mem 900 (by decide +kernel) (by decide +kernel)
theorem tw_901 : Cond.code y_R_isPlough prog_8_method_36_code 2 (some .boolean) ∈ zt := zt_mem 901 (by decide +kernel) (by decide +kernel)
theorem tw_903 : Cond.instanceMethod y_R_bus ∈ zt := zt_mem 903 (by decide +kernel) (by decide +kernel)
theorem tw_904 : Cond.selects "SnowRoadModel" y_R_bus y_R_bus ∈ zt := zt_mem 904 (by decide +kernel) (by decide +kernel)
theorem tw_905 : Cond.code y_R_bus prog_8_method_41_code 2 (some .int) ∈ zt := zt_mem 905 (by decide +kernel) (by decide +kernel)
theorem tw_906 : Cond.methodLink "SnowRoadModel" 184 y_R_isBus ∈ zt := zt_mem 906 (by decide +kernel) (by decide +kernel)
theorem tw_908 : Cond.instanceMethod y_R_isBus ∈ zt := zt_mem 908 (by decide +kernel) (by decide +kernel)
theorem tw_909 : Cond.code y_R_isBus prog_8_method_37_code 2 (some .boolean) ∈ zt := zt_mem 909 (by decide +kernel) (by decide +kernel)
theorem tw_911 : Cond.instanceMethod y_R_wind ∈ zt := zt_mem 911 (by decide +kernel) (by decide +kernel)
theorem tw_912 : Cond.selects "SnowRoadModel" y_R_wind y_R_wind ∈ zt := zt_mem 912 (by decide +kernel) (by decide +kernel)
theorem tw_913 : Cond.code y_R_wind prog_8_method_42_code 3 (some .int) ∈ zt := zt_mem 913 (by decide +kernel) (by decide +kernel)
theorem tw_914 : Cond.constantLong "SnowRoadModel" 187 (9) ∈ zt := zt_mem 914 (by decide +kernel) (by decide +kernel)
theorem tw_916 : Cond.instanceMethod y_R_event ∈ zt := zt_mem 916 (by decide +kernel) (by decide +kernel)
theorem tw_917 : Cond.selects "SnowRoadModel" y_R_event y_R_event ∈ zt := zt_mem 917 (by decide +kernel) (by decide +kernel)
theorem tw_918 : Cond.code y_R_event prog_8_method_43_code 4 (some .int) ∈ zt := zt_mem 918 (by decide +kernel) (by decide +kernel)
theorem tw_920 : Cond.instanceMethod y_R_back ∈ zt := zt_mem 920 (by decide +kernel) (by decide +kernel)
theorem tw_921 : Cond.selects "SnowRoadModel" y_R_back y_R_back ∈ zt := zt_mem 921 (by decide +kernel) (by decide +kernel)
theorem tw_922 : Cond.code y_R_back prog_8_method_44_code 1 (some .int) ∈ zt := zt_mem 922 (by decide +kernel) (by decide +kernel)
theorem tw_924 : Cond.instanceMethod y_R_read ∈ zt := zt_mem 924 (by decide +kernel) (by decide +kernel)
theorem tw_925 : Cond.selects "SnowRoadModel" y_R_read y_R_read ∈ zt := zt_mem 925 (by decide +kernel) (by decide +kernel)
theorem tw_926 : Cond.code y_R_read prog_8_method_45_code 5 (some .int) ∈ zt := zt_mem 926 (by decide +kernel) (by decide +kernel)
theorem tw_927 : Cond.methodLink "SnowRoadModel" 192 y_R_event ∈ zt := zt_mem 927 (by decide +kernel) (by decide +kernel)
theorem tw_929 : Cond.instanceMethod y_R_deep ∈ zt := zt_mem 929 (by decide +kernel) (by decide +kernel)
theorem tw_930 : Cond.selects "SnowRoadModel" y_R_deep y_R_deep ∈ zt := zt_mem 930 (by decide +kernel) (by decide +kernel)
theorem tw_931 : Cond.code y_R_deep prog_8_method_54_code 3 (some .int) ∈ zt := zt_mem 931 (by decide +kernel) (by decide +kernel)
theorem tw_932 : Cond.methodLink "SnowRoadModel" 228 y_R_find ∈ zt := zt_mem 932 (by decide +kernel) (by decide +kernel)
theorem tw_934 : Cond.instanceMethod y_R_find ∈ zt := zt_mem 934 (by decide +kernel) (by decide +kernel)
theorem tw_935 : Cond.code y_R_find prog_8_method_53_code 2 none ∈ zt := zt_mem 935 (by decide +kernel) (by decide +kernel)
theorem tw_936 : Cond.methodLink "SnowRoadModel" 225 y_R_lives ∈ zt := zt_mem 936 (by decide +kernel) (by decide +kernel)
theorem tw_938 : Cond.instanceMethod y_R_lives ∈ zt := zt_mem 938 (by decide +kernel) (by decide +kernel)
theorem tw_939 : Cond.code y_R_lives prog_8_method_52_code 2 none ∈ zt := zt_mem 939 (by decide +kernel) (by decide +kernel)
theorem tw_940 : Cond.methodLink "SnowRoadModel" 222 y_R_passes ∈ zt := zt_mem 940 (by decide +kernel) (by decide +kernel)
theorem tw_942 : Cond.instanceMethod y_R_passes ∈ zt := zt_mem 942 (by decide +kernel) (by decide +kernel)
theorem tw_943 : Cond.code y_R_passes prog_8_method_51_code 4 none ∈ zt := zt_mem 943 (by decide +kernel) (by decide +kernel)
theorem tw_944 : Cond.methodLink "SnowRoadModel" 208 y_R_weathers ∈ zt := zt_mem 944 (by decide +kernel) (by decide +kernel)
theorem tw_946 : Cond.instanceMethod y_R_weathers ∈ zt := zt_mem 946 (by decide +kernel) (by decide +kernel)
theorem tw_947 : Cond.code y_R_weathers prog_8_method_47_code 4 none ∈ zt := zt_mem 947 (by decide +kernel) (by decide +kernel)
theorem tw_948 : Cond.methodLink "SnowRoadModel" 201 y_R_isTold ∈ zt := zt_mem 948 (by decide +kernel) (by decide +kernel)
theorem tw_950 : Cond.instanceMethod y_R_isTold ∈ zt := zt_mem 950 (by decide +kernel) (by decide +kernel)
theorem tw_951 : Cond.code y_R_isTold prog_8_method_46_code 4 (some .boolean) ∈ zt := zt_mem 951 (by decide +kernel) (by decide +kernel)
theorem tw_952 : Cond.methodLink "SnowRoadModel" 197 y_R_isIn ∈ zt := zt_mem 952 (by decide +kernel) (by decide +kernel)
theorem tw_953 : Cond.static y_R_isIn ∈ zt := zt_mem 953 (by decide +kernel) (by decide +kernel)
theorem tw_954 : Cond.code y_R_isIn prog_8_method_6_code 2 (some .boolean) ∈ zt := zt_mem 954 (by decide +kernel) (by decide +kernel)
theorem tw_955 : Cond.methodLink "SnowRoadModel" 205 y_R_lesser ∈ zt := zt_mem 955 (by decide +kernel) (by decide +kernel)
theorem tw_956 : Cond.static y_R_lesser ∈ zt := zt_mem 956 (by decide +kernel) (by decide +kernel)
theorem tw_957 : Cond.code y_R_lesser prog_8_method_7_code 2 (some .int) ∈ zt := zt_mem 957 (by decide +kernel) (by decide +kernel)
theorem tw_958 : Cond.methodLink "SnowRoadModel" 212 y_R_isBroken ∈ zt := zt_mem 958 (by decide +kernel) (by decide +kernel)
theorem tw_960 : Cond.instanceMethod y_R_isBroken ∈ zt := zt_mem 960 (by decide +kernel) (by decide +kernel)
theorem tw_961 : Cond.code y_R_isBroken prog_8_method_48_code 5 (some .boolean) ∈ zt := zt_mem 961 (by decide +kernel) (by decide +kernel)
theorem tw_962 : Cond.methodLink "SnowRoadModel" 215 y_R_scoops ∈ zt := zt_mem 962 (by decide +kernel) (by decide +kernel)
theorem tw_964 : Cond.instanceMethod y_R_scoops ∈ zt := zt_mem 964 (by decide +kernel) (by decide +kernel)
theorem tw_965 : Cond.code y_R_scoops prog_8_method_49_code 5 (some .int) ∈ zt := zt_mem 965 (by decide +kernel) (by decide +kernel)
theorem tw_966 : Cond.methodLink "SnowRoadModel" 218 y_R_drives ∈ zt := zt_mem 966 (by decide +kernel) (by decide +kernel)
theorem tw_968 : Cond.instanceMethod y_R_drives ∈ zt := zt_mem 968 (by decide +kernel) (by decide +kernel)
theorem tw_969 : Cond.code y_R_drives prog_8_method_50_code 5 none ∈ zt := zt_mem 969 (by decide +kernel) (by decide +kernel)
theorem tw_971 : Cond.instanceMethod y_R_at ∈ zt := zt_mem 971 (by decide +kernel) (by decide +kernel)
theorem tw_972 : Cond.selects "SnowRoadModel" y_R_at y_R_at ∈ zt := zt_mem 972 (by decide +kernel) (by decide +kernel)
theorem tw_973 : Cond.code y_R_at prog_8_method_56_code 4 (some .int) ∈ zt := zt_mem 973 (by decide +kernel) (by decide +kernel)
theorem tw_974 : Cond.methodLink "SnowRoadModel" 231 y_R_atBy ∈ zt := zt_mem 974 (by decide +kernel) (by decide +kernel)
theorem tw_976 : Cond.instanceMethod y_R_atBy ∈ zt := zt_mem 976 (by decide +kernel) (by decide +kernel)
theorem tw_977 : Cond.code y_R_atBy prog_8_method_55_code 5 (some .int) ∈ zt := zt_mem 977 (by decide +kernel) (by decide +kernel)
theorem tw_979 : Cond.instanceMethod y_R_rides ∈ zt := zt_mem 979 (by decide +kernel) (by decide +kernel)
theorem tw_980 : Cond.selects "SnowRoadModel" y_R_rides y_R_rides ∈ zt := zt_mem 980 (by decide +kernel) (by decide +kernel)
theorem tw_981 : Cond.code y_R_rides prog_8_method_57_code 3 (some .int) ∈ zt := zt_mem 981 (by decide +kernel) (by decide +kernel)
theorem tw_983 : Cond.instanceMethod y_R_snow ∈ zt := zt_mem 983 (by decide +kernel) (by decide +kernel)
theorem tw_984 : Cond.selects "SnowRoadModel" y_R_snow y_R_snow ∈ zt := zt_mem 984 (by decide +kernel) (by decide +kernel)
theorem tw_985 : Cond.code y_R_snow prog_8_method_59_code 3 (some .int) ∈ zt := zt_mem 985 (by decide +kernel) (by decide +kernel)
theorem tw_986 : Cond.methodLink "SnowRoadModel" 234 y_R_isTwo ∈ zt := zt_mem 986 (by decide +kernel) (by decide +kernel)
theorem tw_987 : Cond.static y_R_isTwo ∈ zt := zt_mem 987 (by decide +kernel) (by decide +kernel)
theorem tw_988 : Cond.code y_R_isTwo prog_8_method_5_code 1 (some .boolean) ∈ zt := zt_mem 988 (by decide +kernel) (by decide +kernel)
theorem tw_989 : Cond.methodLink "SnowRoadModel" 237 y_R_snowBy ∈ zt := zt_mem 989 (by decide +kernel) (by decide +kernel)
theorem tw_991 : Cond.instanceMethod y_R_snowBy ∈ zt := zt_mem 991 (by decide +kernel) (by decide +kernel)
theorem tw_992 : Cond.code y_R_snowBy prog_8_method_58_code 6 (some .int) ∈ zt := zt_mem 992 (by decide +kernel) (by decide +kernel)
theorem tw_994 : Cond.instanceMethod y_R_over ∈ zt := zt_mem 994 (by decide +kernel) (by decide +kernel)
theorem tw_995 : Cond.selects "SnowRoadModel" y_R_over y_R_over ∈ zt := zt_mem 995 (by decide +kernel) (by decide +kernel)
theorem tw_996 : Cond.code y_R_over prog_8_method_61_code 3 (some .int) ∈ zt := zt_mem 996 (by decide +kernel) (by decide +kernel)
theorem tw_997 : Cond.methodLink "SnowRoadModel" 240 y_R_overBy ∈ zt := zt_mem 997 (by decide +kernel) (by decide +kernel)
theorem tw_999 : Cond.instanceMethod y_R_overBy ∈ zt := zt_mem 999 (by decide +kernel) (by decide +kernel)
theorem tw_1000 : Cond.code y_R_overBy prog_8_method_60_code 3 (some .int) ∈ zt := zt_mem 1000 (by decide +kernel) (by decide +kernel)
theorem tw_1002 : Cond.instanceMethod y_R_cleared ∈ zt := zt_mem 1002 (by decide +kernel) (by decide +kernel)
theorem tw_1003 : Cond.selects "SnowRoadModel" y_R_cleared y_R_cleared ∈ zt := zt_mem 1003 (by decide +kernel) (by decide +kernel)
theorem tw_1004 : Cond.code y_R_cleared prog_8_method_63_code 3 (some .int) ∈ zt := zt_mem 1004 (by decide +kernel) (by decide +kernel)
theorem tw_1005 : Cond.methodLink "SnowRoadModel" 243 y_R_clearedBy ∈ zt := zt_mem 1005 (by decide +kernel) (by decide +kernel)
theorem tw_1007 : Cond.instanceMethod y_R_clearedBy ∈ zt := zt_mem 1007 (by decide +kernel) (by decide +kernel)
theorem tw_1008 : Cond.code y_R_clearedBy prog_8_method_62_code 3 (some .int) ∈ zt := zt_mem 1008 (by decide +kernel) (by decide +kernel)
theorem tw_1010 : Cond.instanceMethod y_R_deepest ∈ zt := zt_mem 1010 (by decide +kernel) (by decide +kernel)
theorem tw_1011 : Cond.selects "SnowRoadModel" y_R_deepest y_R_deepest ∈ zt := zt_mem 1011 (by decide +kernel) (by decide +kernel)
theorem tw_1012 : Cond.code y_R_deepest prog_8_method_65_code 2 (some .int) ∈ zt := zt_mem 1012 (by decide +kernel) (by decide +kernel)
theorem tw_1013 : Cond.methodLink "SnowRoadModel" 246 y_R_deepestBy ∈ zt := zt_mem 1013 (by decide +kernel) (by decide +kernel)
theorem tw_1015 : Cond.instanceMethod y_R_deepestBy ∈ zt := zt_mem 1015 (by decide +kernel) (by decide +kernel)
theorem tw_1016 : Cond.code y_R_deepestBy prog_8_method_64_code 4 (some .int) ∈ zt := zt_mem 1016 (by decide +kernel) (by decide +kernel)
theorem tw_1018 : Cond.instanceMethod y_R_shut ∈ zt := zt_mem 1018 (by decide +kernel) (by decide +kernel)
theorem tw_1019 : Cond.selects "SnowRoadModel" y_R_shut y_R_shut ∈ zt := zt_mem 1019 (by decide +kernel) (by decide +kernel)
theorem tw_1020 : Cond.code y_R_shut prog_8_method_67_code 1 (some .int) ∈ zt := zt_mem 1020 (by decide +kernel) (by decide +kernel)
theorem tw_1021 : Cond.methodLink "SnowRoadModel" 249 y_R_shutNow ∈ zt := zt_mem 1021 (by decide +kernel) (by decide +kernel)
theorem tw_1023 : Cond.instanceMethod y_R_shutNow ∈ zt := zt_mem 1023 (by decide +kernel) (by decide +kernel)
theorem tw_1024 : Cond.code y_R_shutNow prog_8_method_66_code 3 (some .int) ∈ zt := zt_mem 1024 (by decide +kernel) (by decide +kernel)
theorem tw_1026 : Cond.instanceMethod y_R_best ∈ zt := zt_mem 1026 (by decide +kernel) (by decide +kernel)
theorem tw_1027 : Cond.selects "SnowRoadModel" y_R_best y_R_best ∈ zt := zt_mem 1027 (by decide +kernel) (by decide +kernel)
theorem tw_1028 : Cond.code y_R_best prog_8_method_69_code 1 (some .int) ∈ zt := zt_mem 1028 (by decide +kernel) (by decide +kernel)
theorem tw_1029 : Cond.methodLink "SnowRoadModel" 255 y_R_bestNow ∈ zt := zt_mem 1029 (by decide +kernel) (by decide +kernel)
theorem tw_1031 : Cond.instanceMethod y_R_bestNow ∈ zt := zt_mem 1031 (by decide +kernel) (by decide +kernel)
theorem tw_1032 : Cond.code y_R_bestNow prog_8_method_68_code 4 (some .int) ∈ zt := zt_mem 1032 (by decide +kernel) (by decide +kernel)
theorem tw_1033 : Cond.methodLink "SnowRoadModel" 252 y_R_greater ∈ zt := zt_mem 1033 (by decide +kernel) (by decide +kernel)
theorem tw_1034 : Cond.static y_R_greater ∈ zt := zt_mem 1034 (by decide +kernel) (by decide +kernel)
theorem tw_1035 : Cond.code y_R_greater prog_8_method_8_code 2 (some .int) ∈ zt := zt_mem 1035 (by decide +kernel) (by decide +kernel)
theorem tw_1037 : Cond.instanceMethod y_R_begin ∈ zt := zt_mem 1037 (by decide +kernel) (by decide +kernel)
theorem tw_1038 : Cond.selects "SnowRoadModel" y_R_begin y_R_begin ∈ zt := zt_mem 1038 (by decide +kernel) (by decide +kernel)
theorem tw_1039 : Cond.code y_R_begin prog_8_method_72_code 3 (some .int) ∈ zt := zt_mem 1039 (by decide +kernel) (by decide +kernel)
theorem tw_1040 : Cond.methodLink "SnowRoadModel" 261 y_R_beginOf ∈ zt := zt_mem 1040 (by decide +kernel) (by decide +kernel)
theorem tw_1042 : Cond.instanceMethod y_R_beginOf ∈ zt := zt_mem 1042 (by decide +kernel) (by decide +kernel)
theorem tw_1043 : Cond.code y_R_beginOf prog_8_method_71_code 8 (some .int) ∈ zt := zt_mem 1043 (by decide +kernel) (by decide +kernel)
theorem tw_1044 : Cond.methodLink "SnowRoadModel" 258 y_R_manyOver ∈ zt := zt_mem 1044 (by decide +kernel) (by decide +kernel)
theorem tw_1046 : Cond.instanceMethod y_R_manyOver ∈ zt := zt_mem 1046 (by decide +kernel) (by decide +kernel)
theorem tw_1047 : Cond.code y_R_manyOver prog_8_method_70_code 3 (some .int) ∈ zt := zt_mem 1047 (by decide +kernel) (by decide +kernel)
theorem tw_1049 : Cond.instanceMethod y_R_hedge ∈ zt := zt_mem 1049 (by decide +kernel) (by decide +kernel)
theorem tw_1050 : Cond.selects "SnowRoadModel" y_R_hedge y_R_hedge ∈ zt := zt_mem 1050 (by decide +kernel) (by decide +kernel)
theorem tw_1051 : Cond.code y_R_hedge prog_8_method_74_code 2 (some .int) ∈ zt := zt_mem 1051 (by decide +kernel) (by decide +kernel)
theorem tw_1052 : Cond.methodLink "SnowRoadModel" 265 y_R_hedgeBy ∈ zt := zt_mem 1052 (by decide +kernel) (by decide +kernel)
theorem tw_1054 : Cond.instanceMethod y_R_hedgeBy ∈ zt := zt_mem 1054 (by decide +kernel) (by decide +kernel)
theorem tw_1055 : Cond.code y_R_hedgeBy prog_8_method_73_code 7 (some .int) ∈ zt := zt_mem 1055 (by decide +kernel) (by decide +kernel)
theorem tw_1056 : Cond.constant "SnowRoadModel" 264 (999999) ∈ zt := zt_mem 1056 (by decide +kernel) (by decide +kernel)
theorem tw_1058 : Cond.instanceMethod y_R_start ∈ zt := zt_mem 1058 (by decide +kernel) (by decide +kernel)
theorem tw_1059 : Cond.selects "SnowRoadModel" y_R_start y_R_start ∈ zt := zt_mem 1059 (by decide +kernel) (by decide +kernel)
theorem tw_1060 : Cond.code y_R_start prog_8_method_76_code 3 (some .int) ∈ zt := zt_mem 1060 (by decide +kernel) (by decide +kernel)
theorem tw_1061 : Cond.methodLink "SnowRoadModel" 268 y_R_startOf ∈ zt := zt_mem 1061 (by decide +kernel) (by decide +kernel)
theorem tw_1063 : Cond.instanceMethod y_R_startOf ∈ zt := zt_mem 1063 (by decide +kernel) (by decide +kernel)
theorem tw_1064 : Cond.code y_R_startOf prog_8_method_75_code 8 (some .int) ∈ zt := zt_mem 1064 (by decide +kernel) (by decide +kernel)
theorem tw_1066 : Cond.instanceMethod y_R_spare ∈ zt := zt_mem 1066 (by decide +kernel) (by decide +kernel)
theorem tw_1067 : Cond.selects "SnowRoadModel" y_R_spare y_R_spare ∈ zt := zt_mem 1067 (by decide +kernel) (by decide +kernel)
theorem tw_1068 : Cond.code y_R_spare prog_8_method_79_code 2 (some .int) ∈ zt := zt_mem 1068 (by decide +kernel) (by decide +kernel)
theorem tw_1069 : Cond.constantLong "SnowRoadModel" 274 (-1) ∈ zt := zt_mem 1069 (by decide +kernel) (by decide +kernel)
theorem tw_1070 : Cond.methodLink "SnowRoadModel" 276 y_R_spareBy ∈ zt := zt_mem 1070 (by decide +kernel) (by decide +kernel)
theorem tw_1072 : Cond.instanceMethod y_R_spareBy ∈ zt := zt_mem 1072 (by decide +kernel) (by decide +kernel)
theorem tw_1073 : Cond.code y_R_spareBy prog_8_method_78_code 4 (some .int) ∈ zt := zt_mem 1073 (by decide +kernel) (by decide +kernel)
theorem tw_1074 : Cond.methodLink "SnowRoadModel" 271 y_R_isSpared ∈ zt := zt_mem 1074 (by decide +kernel) (by decide +kernel)
theorem tw_1076 : Cond.instanceMethod y_R_isSpared ∈ zt := zt_mem 1076 (by decide +kernel) (by decide +kernel)
theorem tw_1077 : Cond.code y_R_isSpared prog_8_method_77_code 2 (some .boolean) ∈ zt := zt_mem 1077 (by decide +kernel) (by decide +kernel)
theorem tw_1079 : Cond.instanceMethod y_R_seen ∈ zt := zt_mem 1079 (by decide +kernel) (by decide +kernel)
theorem tw_1080 : Cond.selects "SnowRoadModel" y_R_seen y_R_seen ∈ zt := zt_mem 1080 (by decide +kernel) (by decide +kernel)
theorem tw_1081 : Cond.code y_R_seen prog_8_method_80_code 4 (some .int) ∈ zt := zt_mem 1081 (by decide +kernel) (by decide +kernel)
theorem tw_1082 : Cond.constantLong "SnowRoadModel" 279 (99) ∈ zt := zt_mem 1082 (by decide +kernel) (by decide +kernel)
theorem tw_1084 : Cond.instanceMethod y_R_forget ∈ zt := zt_mem 1084 (by decide +kernel) (by decide +kernel)
theorem tw_1085 : Cond.selects "SnowRoadModel" y_R_forget y_R_forget ∈ zt := zt_mem 1085 (by decide +kernel) (by decide +kernel)
theorem tw_1086 : Cond.code y_R_forget prog_8_method_81_code 2 (some .int) ∈ zt := zt_mem 1086 (by decide +kernel) (by decide +kernel)
theorem tw_1088 : Cond.instanceMethod y_R_never ∈ zt := zt_mem 1088 (by decide +kernel) (by decide +kernel)
theorem tw_1089 : Cond.selects "SnowRoadModel" y_R_never y_R_never ∈ zt := zt_mem 1089 (by decide +kernel) (by decide +kernel)
theorem tw_1090 : Cond.code y_R_never prog_8_method_84_code 1 (some .int) ∈ zt := zt_mem 1090 (by decide +kernel) (by decide +kernel)
theorem tw_1091 : Cond.methodLink "SnowRoadModel" 288 y_R_neverNow ∈ zt := zt_mem 1091 (by decide +kernel) (by decide +kernel)
theorem tw_1093 : Cond.instanceMethod y_R_neverNow ∈ zt := zt_mem 1093 (by decide +kernel) (by decide +kernel)
theorem tw_1094 : Cond.code y_R_neverNow prog_8_method_83_code 3 (some .int) ∈ zt := zt_mem 1094 (by decide +kernel) (by decide +kernel)
theorem tw_1095 : Cond.methodLink "SnowRoadModel" 284 y_R_isSeen ∈ zt := zt_mem 1095 (by decide +kernel) (by decide +kernel)
theorem tw_1097 : Cond.instanceMethod y_R_isSeen ∈ zt := zt_mem 1097 (by decide +kernel) (by decide +kernel)
theorem tw_1098 : Cond.code y_R_isSeen prog_8_method_82_code 3 (some .boolean) ∈ zt := zt_mem 1098 (by decide +kernel) (by decide +kernel)
theorem tw_1100 : Cond.instanceMethod y_R_strengths ∈ zt := zt_mem 1100 (by decide +kernel) (by decide +kernel)
theorem tw_1101 : Cond.selects "SnowRoadModel" y_R_strengths y_R_strengths ∈ zt := zt_mem 1101 (by decide +kernel) (by decide +kernel)
theorem tw_1102 : Cond.code y_R_strengths prog_8_method_86_code 2 (some .int) ∈ zt := zt_mem 1102 (by decide +kernel) (by decide +kernel)
theorem tw_1103 : Cond.methodLink "SnowRoadModel" 291 y_R_strengthsOf ∈ zt := zt_mem 1103 (by decide +kernel) (by decide +kernel)
theorem tw_1105 : Cond.instanceMethod y_R_strengthsOf ∈ zt := zt_mem 1105 (by decide +kernel) (by decide +kernel)
theorem tw_1106 : Cond.code y_R_strengthsOf prog_8_method_85_code 6 (some .int) ∈ zt := zt_mem 1106 (by decide +kernel) (by decide +kernel)
theorem tw_1108 : Cond.instanceMethod y_R_lie ∈ zt := zt_mem 1108 (by decide +kernel) (by decide +kernel)
theorem tw_1109 : Cond.selects "SnowRoadModel" y_R_lie y_R_lie ∈ zt := zt_mem 1109 (by decide +kernel) (by decide +kernel)
theorem tw_1110 : Cond.code y_R_lie prog_8_method_88_code 2 (some .int) ∈ zt := zt_mem 1110 (by decide +kernel) (by decide +kernel)
theorem tw_1111 : Cond.methodLink "SnowRoadModel" 294 y_R_lieOf ∈ zt := zt_mem 1111 (by decide +kernel) (by decide +kernel)
theorem tw_1113 : Cond.instanceMethod y_R_lieOf ∈ zt := zt_mem 1113 (by decide +kernel) (by decide +kernel)
theorem tw_1114 : Cond.code y_R_lieOf prog_8_method_87_code 5 (some .int) ∈ zt := zt_mem 1114 (by decide +kernel) (by decide +kernel)
theorem tw_1116 : Cond.instanceMethod y_R_ask ∈ zt := zt_mem 1116 (by decide +kernel) (by decide +kernel)
theorem tw_1117 : Cond.selects "SnowRoadModel" y_R_ask y_R_ask ∈ zt := zt_mem 1117 (by decide +kernel) (by decide +kernel)
theorem tw_1118 : Cond.code y_R_ask prog_8_method_92_code 2 (some .int) ∈ zt := zt_mem 1118 (by decide +kernel) (by decide +kernel)
theorem tw_1119 : Cond.methodLink "SnowRoadModel" 303 y_R_askOf ∈ zt := zt_mem 1119 (by decide +kernel) (by decide +kernel)
theorem tw_1121 : Cond.instanceMethod y_R_askOf ∈ zt := zt_mem 1121 (by decide +kernel) (by decide +kernel)
theorem tw_1122 : Cond.code y_R_askOf prog_8_method_91_code 7 (some .int) ∈ zt := zt_mem 1122 (by decide +kernel) (by decide +kernel)
theorem tw_1123 : Cond.methodLink "SnowRoadModel" 300 y_R_alike ∈ zt := zt_mem 1123 (by decide +kernel) (by decide +kernel)
theorem tw_1125 : Cond.instanceMethod y_R_alike ∈ zt := zt_mem 1125 (by decide +kernel) (by decide +kernel)
theorem tw_1126 : Cond.code y_R_alike prog_8_method_90_code 7 (some .int) ∈ zt := zt_mem 1126 (by decide +kernel) (by decide +kernel)
theorem tw_1127 : Cond.methodLink "SnowRoadModel" 297 y_R_same ∈ zt := zt_mem 1127 (by decide +kernel) (by decide +kernel)
theorem tw_1129 : Cond.instanceMethod y_R_same ∈ zt := zt_mem 1129 (by decide +kernel) (by decide +kernel)
theorem tw_1130 : Cond.code y_R_same prog_8_method_89_code 6 (some .boolean) ∈ zt := zt_mem 1130 (by decide +kernel) (by decide +kernel)
theorem tw_1132 : Cond.instanceMethod y_R_chance ∈ zt := zt_mem 1132 (by decide +kernel) (by decide +kernel)
theorem tw_1133 : Cond.selects "SnowRoadModel" y_R_chance y_R_chance ∈ zt := zt_mem 1133 (by decide +kernel) (by decide +kernel)
theorem tw_1134 : Cond.code y_R_chance prog_8_method_94_code 4 (some .long) ∈ zt := zt_mem 1134 (by decide +kernel) (by decide +kernel)
theorem tw_1135 : Cond.constantLong "SnowRoadModel" 310 (16) ∈ zt := zt_mem 1135 (by decide +kernel) (by decide +kernel)
theorem tw_1136 : Cond.methodLink "SnowRoadModel" 312 y_R_chanceOf ∈ zt := zt_mem 1136 (by decide +kernel) (by decide +kernel)
theorem tw_1138 : Cond.instanceMethod y_R_chanceOf ∈ zt := zt_mem 1138 (by decide +kernel) (by decide +kernel)
theorem tw_1139 : Cond.code y_R_chanceOf prog_8_method_93_code 10 (some .long) ∈ zt := zt_mem 1139 (by decide +kernel) (by decide +kernel)
theorem tw_1140 : Cond.methodLink "SnowRoadModel" 306 y_R_part ∈ zt := zt_mem 1140 (by decide +kernel) (by decide +kernel)
theorem tw_1141 : Cond.static y_R_part ∈ zt := zt_mem 1141 (by decide +kernel) (by decide +kernel)
theorem tw_1142 : Cond.code y_R_part prog_8_method_9_code 11 (some .long) ∈ zt := zt_mem 1142 (by decide +kernel) (by decide +kernel)
theorem tw_1143 : Cond.methodLink "SnowRoadModel" 316 y_R_no ∈ zt := zt_mem 1143 (by decide +kernel) (by decide +kernel)
theorem tw_1144 : Cond.static y_R_no ∈ zt := zt_mem 1144 (by decide +kernel) (by decide +kernel)
theorem tw_1145 : Cond.code y_R_no prog_8_method_4_code 1 (some .long) ∈ zt := zt_mem 1145 (by decide +kernel) (by decide +kernel)
theorem tw_1146 : Cond.constantLong "SnowRoadModel" 95 (-9223372036854775808) ∈ zt := zt_mem 1146 (by decide +kernel) (by decide +kernel)
theorem tw_1148 : Cond.instanceMethod y_R_winters ∈ zt := zt_mem 1148 (by decide +kernel) (by decide +kernel)
theorem tw_1149 : Cond.selects "SnowRoadModel" y_R_winters y_R_winters ∈ zt := zt_mem 1149 (by decide +kernel) (by decide +kernel)
theorem tw_1150 : Cond.code y_R_winters prog_8_method_97_code 4 (some .int) ∈ zt := zt_mem 1150 (by decide +kernel) (by decide +kernel)
theorem tw_1151 : Cond.constantLong "SnowRoadModel" 327 (24) ∈ zt := zt_mem 1151 (by decide +kernel) (by decide +kernel)
theorem tw_1152 : Cond.methodLink "SnowRoadModel" 329 y_R_wintersOf ∈ zt := zt_mem 1152 (by decide +kernel) (by decide +kernel)
theorem tw_1154 : Cond.instanceMethod y_R_wintersOf ∈ zt := zt_mem 1154 (by decide +kernel) (by decide +kernel)
theorem tw_1155 : Cond.code y_R_wintersOf prog_8_method_96_code 5 (some .int) ∈ zt := zt_mem 1155 (by decide +kernel) (by decide +kernel)
theorem tw_1156 : Cond.methodLink "SnowRoadModel" 324 y_R_lot ∈ zt := zt_mem 1156 (by decide +kernel) (by decide +kernel)
theorem tw_1158 : Cond.instanceMethod y_R_lot ∈ zt := zt_mem 1158 (by decide +kernel) (by decide +kernel)
theorem tw_1159 : Cond.code y_R_lot prog_8_method_95_code 2 (some .int) ∈ zt := zt_mem 1159 (by decide +kernel) (by decide +kernel)
theorem tw_1160 : Cond.constant "SnowRoadModel" 320 (1103515245) ∈ zt := zt_mem 1160 (by decide +kernel) (by decide +kernel)
theorem tw_1162 : Cond.instanceMethod y_R_write ∈ zt := zt_mem 1162 (by decide +kernel) (by decide +kernel)
theorem tw_1163 : Cond.selects "SnowRoadModel" y_R_write y_R_write ∈ zt := zt_mem 1163 (by decide +kernel) (by decide +kernel)
theorem tw_1164 : Cond.code y_R_write prog_8_method_98_code 5 (some .int) ∈ zt := zt_mem 1164 (by decide +kernel) (by decide +kernel)
theorem tw_1166 : Cond.instanceMethod y_R_count ∈ zt := zt_mem 1166 (by decide +kernel) (by decide +kernel)
theorem tw_1167 : Cond.selects "SnowRoadModel" y_R_count y_R_count ∈ zt := zt_mem 1167 (by decide +kernel) (by decide +kernel)
theorem tw_1168 : Cond.code y_R_count prog_8_method_99_code 2 (some .int) ∈ zt := zt_mem 1168 (by decide +kernel) (by decide +kernel)
theorem tw_1170 : Cond.instanceMethod y_R_digest ∈ zt := zt_mem 1170 (by decide +kernel) (by decide +kernel)
theorem tw_1171 : Cond.selects "SnowRoadModel" y_R_digest y_R_digest ∈ zt := zt_mem 1171 (by decide +kernel) (by decide +kernel)
theorem tw_1172 : Cond.code y_R_digest prog_8_method_103_code 4 (some .long) ∈ zt := zt_mem 1172 (by decide +kernel) (by decide +kernel)
theorem tw_1173 : Cond.constantLong "SnowRoadModel" 338 (17) ∈ zt := zt_mem 1173 (by decide +kernel) (by decide +kernel)
theorem tw_1174 : Cond.constantLong "SnowRoadModel" 332 (31) ∈ zt := zt_mem 1174 (by decide +kernel) (by decide +kernel)
theorem tw_1175 : Cond.methodLink "SnowRoadModel" 340 y_R_count ∈ zt := zt_mem 1175 (by decide +kernel) (by decide +kernel)
theorem tw_1176 : Cond.methodLink "SnowRoadModel" 343 y_R_tellsPlough ∈ zt := zt_mem 1176 (by decide +kernel) (by decide +kernel)
theorem tw_1178 : Cond.instanceMethod y_R_tellsPlough ∈ zt := zt_mem 1178 (by decide +kernel) (by decide +kernel)
theorem tw_1179 : Cond.code y_R_tellsPlough prog_8_method_101_code 7 (some .long) ∈ zt := zt_mem 1179 (by decide +kernel) (by decide +kernel)
theorem tw_1180 : Cond.methodLink "SnowRoadModel" 334 y_R_tellsHour ∈ zt := zt_mem 1180 (by decide +kernel) (by decide +kernel)
theorem tw_1182 : Cond.instanceMethod y_R_tellsHour ∈ zt := zt_mem 1182 (by decide +kernel) (by decide +kernel)
theorem tw_1183 : Cond.code y_R_tellsHour prog_8_method_100_code 8 (some .long) ∈ zt := zt_mem 1183 (by decide +kernel) (by decide +kernel)
theorem tw_1184 : Cond.methodLink "SnowRoadModel" 347 y_R_tellsBus ∈ zt := zt_mem 1184 (by decide +kernel) (by decide +kernel)
theorem tw_1186 : Cond.instanceMethod y_R_tellsBus ∈ zt := zt_mem 1186 (by decide +kernel) (by decide +kernel)
theorem tw_1187 : Cond.code y_R_tellsBus prog_8_method_102_code 6 (some .long) ∈ zt := zt_mem 1187 (by decide +kernel) (by decide +kernel)
end
section
theorem m_X_forget : Zm true y_X_forget prog_1_method_28_code 2 (some .int) 0 (rl 0) := ⟨tw_511, tw_1, (fun _ => ⟨tw_509, tw_510⟩), (fun h => by cases h), by decide +kernel, rfl, rfl⟩
theorem m_X_outside : Zm false y_X_outside prog_1_method_43_code 2 (some .boolean) 2 (rl 0) := ⟨tw_253, tw_1, (fun h => by cases h), (fun _ => tw_252), by decide +kernel, rfl, rfl⟩
theorem m_X_mix : Zm false y_X_mix prog_1_method_44_code 4 (some .long) 2 (rl 0) := ⟨tw_631, tw_1, (fun h => by cases h), (fun _ => tw_630), by decide +kernel, rfl, rfl⟩
theorem m_X_found : Zm true y_X_found prog_1_method_47_code 2 (some .int) 1 (rl 0) := ⟨tw_352, tw_1, (fun _ => ⟨tw_351, ts_3⟩), (fun h => by cases h), by decide +kernel, rfl, rfl⟩
theorem m_X_changed : Zm true y_X_changed prog_1_method_49_code 1 none 0 (rl 0) := ⟨tw_296, tw_1, (fun _ => ⟨tw_295, ts_2⟩), (fun h => by cases h), by decide +kernel, rfl, rfl⟩
theorem m_X_allBytes : Zm true y_X_allBytes prog_1_method_51_code 3 (some .int) 0 (rl 0) := ⟨tw_622, tw_1, (fun _ => ⟨tw_621, ts_22⟩), (fun h => by cases h), by decide +kernel, rfl, rfl⟩
theorem m_X_allEvents : Zm true y_X_allEvents prog_1_method_53_code 1 (some .int) 0 (rl 0) := ⟨tw_365, tw_1, (fun _ => ⟨tw_364, ts_5⟩), (fun h => by cases h), by decide +kernel, rfl, rfl⟩
theorem m_X_sameDrift : Zm true y_X_sameDrift prog_1_method_60_code 7 (some .boolean) 3 (rl 0) := ⟨tw_544, tw_1, (fun _ => ⟨tw_543, ts_19⟩), (fun h => by cases h), by decide +kernel, rfl, rfl⟩
theorem m_X_power : Zm false y_X_power prog_1_method_62_code 5 (some .long) 2 (rl 0) := ⟨tw_560, tw_1, (fun h => by cases h), (fun _ => tw_559), by decide +kernel, rfl, rfl⟩
theorem m_R_in : Zm false y_R_in prog_8_method_3_code 6 (some .boolean) 3 (rl 0) := ⟨tw_789, tw_7, (fun h => by cases h), (fun _ => tw_788), by decide +kernel, rfl, rfl⟩
theorem m_R_no : Zm false y_R_no prog_8_method_4_code 1 (some .long) 1 (rl 0) := ⟨tw_1145, tw_7, (fun h => by cases h), (fun _ => tw_1144), by decide +kernel, rfl, rfl⟩
theorem m_R_isIn : Zm false y_R_isIn prog_8_method_6_code 2 (some .boolean) 2 (rl 0) := ⟨tw_954, tw_7, (fun h => by cases h), (fun _ => tw_953), by decide +kernel, rfl, rfl⟩
theorem m_R_lesser : Zm false y_R_lesser prog_8_method_7_code 2 (some .int) 2 (rl 0) := ⟨tw_957, tw_7, (fun h => by cases h), (fun _ => tw_956), by decide +kernel, rfl, rfl⟩
theorem m_R_greater : Zm false y_R_greater prog_8_method_8_code 2 (some .int) 2 (rl 0) := ⟨tw_1035, tw_7, (fun h => by cases h), (fun _ => tw_1034), by decide +kernel, rfl, rfl⟩
theorem m_R_part : Zm false y_R_part prog_8_method_9_code 11 (some .long) 3 (rl 0) := ⟨tw_1142, tw_7, (fun h => by cases h), (fun _ => tw_1141), by decide +kernel, rfl, rfl⟩
theorem m_R_finds : Zm true y_R_finds prog_8_method_10_code 2 (some .int) 1 (rl 0) := ⟨tw_794, tw_7, (fun _ => ⟨tw_793, ts_25⟩), (fun h => by cases h), by decide +kernel, rfl, rfl⟩
theorem m_R_cut : Zm false y_R_cut prog_8_method_15_code 2 (some .int) 2 (rl 0) := ⟨tw_809, tw_7, (fun h => by cases h), (fun _ => tw_808), by decide +kernel, rfl, rfl⟩
theorem m_R_plains : Zm true y_R_plains prog_8_method_25_code 2 none 0 (rl 0) := ⟨tw_850, tw_7, (fun _ => ⟨tw_849, ts_29⟩), (fun h => by cases h), by decide +kernel, rfl, rfl⟩
theorem m_R_clears : Zm true y_R_clears prog_8_method_27_code 2 none 0 (rl 0) := ⟨tw_858, tw_7, (fun _ => ⟨tw_857, ts_31⟩), (fun h => by cases h), by decide +kernel, rfl, rfl⟩
theorem m_R_back : Zm true y_R_back prog_8_method_44_code 1 (some .int) 0 (rl 0) := ⟨tw_922, tw_7, (fun _ => ⟨tw_920, tw_921⟩), (fun h => by cases h), by decide +kernel, rfl, rfl⟩
theorem m_R_scoops : Zm true y_R_scoops prog_8_method_49_code 5 (some .int) 1 (rl 0) := ⟨tw_965, tw_7, (fun _ => ⟨tw_964, ts_42⟩), (fun h => by cases h), by decide +kernel, rfl, rfl⟩
theorem m_R_drives : Zm true y_R_drives prog_8_method_50_code 5 none 3 (rl 0) := ⟨tw_969, tw_7, (fun _ => ⟨tw_968, ts_43⟩), (fun h => by cases h), by decide +kernel, rfl, rfl⟩
theorem m_R_atBy : Zm true y_R_atBy prog_8_method_55_code 5 (some .int) 3 (rl 0) := ⟨tw_977, tw_7, (fun _ => ⟨tw_976, ts_44⟩), (fun h => by cases h), by decide +kernel, rfl, rfl⟩
theorem m_R_snowBy : Zm true y_R_snowBy prog_8_method_58_code 6 (some .int) 2 (rl 0) := ⟨tw_992, tw_7, (fun _ => ⟨tw_991, ts_45⟩), (fun h => by cases h), by decide +kernel, rfl, rfl⟩
theorem m_R_overBy : Zm true y_R_overBy prog_8_method_60_code 3 (some .int) 2 (rl 0) := ⟨tw_1000, tw_7, (fun _ => ⟨tw_999, ts_46⟩), (fun h => by cases h), by decide +kernel, rfl, rfl⟩
theorem m_R_clearedBy : Zm true y_R_clearedBy prog_8_method_62_code 3 (some .int) 2 (rl 0) := ⟨tw_1008, tw_7, (fun _ => ⟨tw_1007, ts_47⟩), (fun h => by cases h), by decide +kernel, rfl, rfl⟩
theorem m_R_deepestBy : Zm true y_R_deepestBy prog_8_method_64_code 4 (some .int) 1 (rl 0) := ⟨tw_1016, tw_7, (fun _ => ⟨tw_1015, ts_48⟩), (fun h => by cases h), by decide +kernel, rfl, rfl⟩
theorem m_R_manyOver : Zm true y_R_manyOver prog_8_method_70_code 3 (some .int) 0 (rl 0) := ⟨tw_1047, tw_7, (fun _ => ⟨tw_1046, ts_52⟩), (fun h => by cases h), by decide +kernel, rfl, rfl⟩
theorem m_R_forget : Zm true y_R_forget prog_8_method_81_code 2 (some .int) 0 (rl 0) := ⟨tw_1086, tw_7, (fun _ => ⟨tw_1084, tw_1085⟩), (fun h => by cases h), by decide +kernel, rfl, rfl⟩
theorem m_R_same : Zm true y_R_same prog_8_method_89_code 6 (some .boolean) 3 (rl 0) := ⟨tw_1130, tw_7, (fun _ => ⟨tw_1129, ts_63⟩), (fun h => by cases h), by decide +kernel, rfl, rfl⟩
theorem m_R_lot : Zm true y_R_lot prog_8_method_95_code 2 (some .int) 1 (rl 0) := ⟨tw_1159, tw_7, (fun _ => ⟨tw_1158, ts_66⟩), (fun h => by cases h), by decide +kernel, rfl, rfl⟩
theorem m_XH_put : Zm true y_XH_put prog_2_method_3_code 3 none 2 (rl 0) := ⟨tw_594, tw_6, (fun _ => ⟨tw_592, tw_593⟩), (fun h => by cases h), by decide +kernel, rfl, rfl⟩
theorem m_XH_hasItems : Zm true y_XH_hasItems prog_2_method_4_code 3 (some .boolean) 2 (rl 0) := ⟨tw_607, tw_6, (fun _ => ⟨tw_605, tw_606⟩), (fun h => by cases h), by decide +kernel, rfl, rfl⟩
theorem m_XG_add : Zm true y_XG_add prog_3_method_2_code 4 (some .boolean) 3 (rl 0) := ⟨tw_507, tw_3, (fun _ => ⟨tw_505, tw_506⟩), (fun h => by cases h), by decide +kernel, rfl, rfl⟩
theorem m_XG_fit : Zm true y_XG_fit prog_3_method_3_code 3 (some .boolean) 1 (rl 0) := ⟨tw_519, tw_3, (fun _ => ⟨tw_517, tw_518⟩), (fun h => by cases h), by decide +kernel, rfl, rfl⟩
theorem m_XT_append : Zm true y_XT_append prog_4_method_2_code 2 (some .boolean) 1 (rl 0) := ⟨tw_257, tw_5, (fun _ => ⟨tw_255, tw_256⟩), (fun h => by cases h), by decide +kernel, rfl, rfl⟩
theorem m_XT_mayStandInPloughs : Zm false y_XT_mayStandInPloughs prog_4_method_5_code 2 (some .boolean) 2 (rl 0) := ⟨tw_280, tw_5, (fun h => by cases h), (fun _ => tw_279), by decide +kernel, rfl, rfl⟩
theorem m_XO_addEvent : Zm true y_XO_addEvent prog_5_method_6_code 4 (some .boolean) 3 (rl 0) := ⟨tw_340, tw_2, (fun _ => ⟨tw_338, tw_339⟩), (fun h => by cases h), by decide +kernel, rfl, rfl⟩
theorem m_XW_sortEvent : Zm true y_XW_sortEvent prog_6_method_4_code 4 none 3 (rl 0) := ⟨tw_380, tw_4, (fun _ => ⟨tw_379, ts_7⟩), (fun h => by cases h), by decide +kernel, rfl, rfl⟩
theorem m_XW_snowFalls : Zm true y_XW_snowFalls prog_6_method_5_code 4 none 2 (rl 0) := ⟨tw_384, tw_4, (fun _ => ⟨tw_383, ts_8⟩), (fun h => by cases h), by decide +kernel, rfl, rfl⟩
theorem m_XW_windCarries : Zm true y_XW_windCarries prog_6_method_6_code 5 none 2 (rl 0) := ⟨tw_388, tw_4, (fun _ => ⟨tw_387, ts_9⟩), (fun h => by cases h), by decide +kernel, rfl, rfl⟩
theorem m_XW_snowThaws : Zm true y_XW_snowThaws prog_6_method_7_code 5 none 3 (rl 0) := ⟨tw_392, tw_4, (fun _ => ⟨tw_391, ts_10⟩), (fun h => by cases h), by decide +kernel, rfl, rfl⟩
theorem m_XW_ploughGoes : Zm true y_XW_ploughGoes prog_6_method_9_code 5 (some .int) 2 (rl 0) := ⟨tw_400, tw_4, (fun _ => ⟨tw_399, ts_12⟩), (fun h => by cases h), by decide +kernel, rfl, rfl⟩
theorem m_XW_rideOn : Zm true y_XW_rideOn prog_6_method_11_code 5 (some .int) 2 (rl 0) := ⟨tw_419, tw_4, (fun _ => ⟨tw_418, ts_13⟩), (fun h => by cases h), by decide +kernel, rfl, rfl⟩
theorem m_XW_snowBehind : Zm true y_XW_snowBehind prog_6_method_13_code 4 (some .int) 1 (rl 0) := ⟨tw_427, tw_4, (fun _ => ⟨tw_425, tw_426⟩), (fun h => by cases h), by decide +kernel, rfl, rfl⟩
theorem m_XW_deepMilesBehind : Zm true y_XW_deepMilesBehind prog_6_method_14_code 4 (some .int) 1 (rl 0) := ⟨tw_431, tw_4, (fun _ => ⟨tw_429, tw_430⟩), (fun h => by cases h), by decide +kernel, rfl, rfl⟩
theorem m_XW_deepestPlace : Zm true y_XW_deepestPlace prog_6_method_15_code 3 (some .int) 0 (rl 0) := ⟨tw_447, tw_4, (fun _ => ⟨tw_445, tw_446⟩), (fun h => by cases h), by decide +kernel, rfl, rfl⟩
theorem m_J_bitCount : Zm false y_J_bitCount prog_9_method_49_code 1 (some .int) 1 (rl 0) := ⟨tw_492, tw_10, (fun h => by cases h), (fun _ => tw_491), by decide +kernel, rfl, rfl⟩
theorem m_J_numberOfTrailingZeros : Zm false y_J_numberOfTrailingZeros prog_9_method_48_code 2 (some .int) 1 (rl 0) := ⟨tw_498, tw_10, (fun h => by cases h), (fun _ => tw_497), by decide +kernel, rfl, rfl⟩
theorem m_J_max : Zm false y_J_max prog_10_method_65_code 2 (some .int) 2 (rl 0) := ⟨tw_547, tw_11, (fun h => by cases h), (fun _ => tw_546), by decide +kernel, rfl, rfl⟩
theorem m_J_min : Zm false y_J_min prog_10_method_69_code 2 (some .int) 2 (rl 0) := ⟨tw_614, tw_11, (fun h => by cases h), (fun _ => tw_613), by decide +kernel, rfl, rfl⟩
theorem m_X_land : Zm true y_X_land prog_1_method_6_code 2 (some .int) 1 (rl 1) := ⟨tw_313, tw_1, (fun _ => ⟨tw_311, tw_312⟩), (fun h => by cases h), by decide +kernel, rfl, rfl⟩
theorem m_X_fall : Zm true y_X_fall prog_1_method_7_code 2 (some .int) 1 (rl 1) := ⟨tw_317, tw_1, (fun _ => ⟨tw_315, tw_316⟩), (fun h => by cases h), by decide +kernel, rfl, rfl⟩
theorem m_X_plough : Zm true y_X_plough prog_1_method_8_code 3 (some .int) 2 (rl 1) := ⟨tw_321, tw_1, (fun _ => ⟨tw_319, tw_320⟩), (fun h => by cases h), by decide +kernel, rfl, rfl⟩
theorem m_X_bus : Zm true y_X_bus prog_1_method_9_code 2 (some .int) 1 (rl 1) := ⟨tw_325, tw_1, (fun _ => ⟨tw_323, tw_324⟩), (fun h => by cases h), by decide +kernel, rfl, rfl⟩
theorem m_X_wind : Zm true y_X_wind prog_1_method_10_code 3 (some .int) 1 (rl 1) := ⟨tw_329, tw_1, (fun _ => ⟨tw_327, tw_328⟩), (fun h => by cases h), by decide +kernel, rfl, rfl⟩
theorem m_X_back : Zm true y_X_back prog_1_method_12_code 1 (some .int) 0 (rl 1) := ⟨tw_344, tw_1, (fun _ => ⟨tw_342, tw_343⟩), (fun h => by cases h), by decide +kernel, rfl, rfl⟩
theorem m_X_seen : Zm true y_X_seen prog_1_method_27_code 4 (some .int) 3 (rl 1) := ⟨tw_503, tw_1, (fun _ => ⟨tw_501, tw_502⟩), (fun h => by cases h), by decide +kernel, rfl, rfl⟩
theorem m_X_lose : Zm true y_X_lose prog_1_method_36_code 2 (some .int) 1 (rl 1) := ⟨tw_583, tw_1, (fun _ => ⟨tw_581, tw_582⟩), (fun h => by cases h), by decide +kernel, rfl, rfl⟩
theorem m_X_copy : Zm true y_X_copy prog_1_method_39_code 8 (some .int) 5 (rl 1) := ⟨tw_603, tw_1, (fun _ => ⟨tw_601, tw_602⟩), (fun h => by cases h), by decide +kernel, rfl, rfl⟩
theorem m_X_wrongWith : Zm false y_X_wrongWith prog_1_method_48_code 3 (some .int) 3 (rl 1) := ⟨tw_590, tw_1, (fun h => by cases h), (fun _ => tw_589), by decide +kernel, rfl, rfl⟩
theorem m_X_mayBeEvent : Zm false y_X_mayBeEvent prog_1_method_52_code 3 (some .boolean) 3 (rl 1) := ⟨tw_336, tw_1, (fun h => by cases h), (fun _ => tw_335), by decide +kernel, rfl, rfl⟩
theorem m_X_mostAlike : Zm true y_X_mostAlike prog_1_method_59_code 7 (some .int) 2 (rl 1) := ⟨tw_540, tw_1, (fun _ => ⟨tw_539, ts_18⟩), (fun h => by cases h), by decide +kernel, rfl, rfl⟩
theorem m_X_drawFall : Zm true y_X_drawFall prog_1_method_63_code 4 none 2 (rl 1) := ⟨tw_569, tw_1, (fun _ => ⟨tw_568, ts_21⟩), (fun h => by cases h), by decide +kernel, rfl, rfl⟩
theorem m_R_isTwo : Zm false y_R_isTwo prog_8_method_5_code 1 (some .boolean) 1 (rl 1) := ⟨tw_988, tw_7, (fun h => by cases h), (fun _ => tw_987), by decide +kernel, rfl, rfl⟩
theorem m_R_isSheet : Zm false y_R_isSheet prog_8_method_11_code 1 (some .boolean) 1 (rl 1) := ⟨tw_785, tw_7, (fun h => by cases h), (fun _ => tw_784), by decide +kernel, rfl, rfl⟩
theorem m_R_lacks : Zm true y_R_lacks prog_8_method_14_code 4 (some .int) 3 (rl 1) := ⟨tw_806, tw_7, (fun _ => ⟨tw_805, ts_26⟩), (fun h => by cases h), by decide +kernel, rfl, rfl⟩
theorem m_R_isText : Zm false y_R_isText prog_8_method_19_code 1 (some .boolean) 1 (rl 1) := ⟨tw_825, tw_7, (fun h => by cases h), (fun _ => tw_824), by decide +kernel, rfl, rfl⟩
theorem m_R_figureOf : Zm false y_R_figureOf prog_8_method_23_code 2 (some .int) 2 (rl 1) := ⟨tw_861, tw_7, (fun h => by cases h), (fun _ => tw_860), by decide +kernel, rfl, rfl⟩
theorem m_R_letterOf : Zm false y_R_letterOf prog_8_method_24_code 2 (some .int) 2 (rl 1) := ⟨tw_872, tw_7, (fun h => by cases h), (fun _ => tw_871), by decide +kernel, rfl, rfl⟩
theorem m_R_readsLand : Zm true y_R_readsLand prog_8_method_26_code 4 (some .int) 0 (rl 1) := ⟨tw_846, tw_7, (fun _ => ⟨tw_845, ts_28⟩), (fun h => by cases h), by decide +kernel, rfl, rfl⟩
theorem m_R_isMile : Zm false y_R_isMile prog_8_method_34_code 1 (some .boolean) 1 (rl 1) := ⟨tw_884, tw_7, (fun h => by cases h), (fun _ => tw_883), by decide +kernel, rfl, rfl⟩
theorem m_R_isHour : Zm false y_R_isHour prog_8_method_35_code 1 (some .boolean) 1 (rl 1) := ⟨tw_892, tw_7, (fun h => by cases h), (fun _ => tw_891), by decide +kernel, rfl, rfl⟩
theorem m_R_isPlough : Zm true y_R_isPlough prog_8_method_36_code 2 (some .boolean) 1 (rl 1) := ⟨tw_901, tw_7, (fun _ => ⟨tw_900, ts_34⟩), (fun h => by cases h), by decide +kernel, rfl, rfl⟩
theorem m_R_isBus : Zm true y_R_isBus prog_8_method_37_code 2 (some .boolean) 1 (rl 1) := ⟨tw_909, tw_7, (fun _ => ⟨tw_908, ts_35⟩), (fun h => by cases h), by decide +kernel, rfl, rfl⟩
theorem m_R_wind : Zm true y_R_wind prog_8_method_42_code 3 (some .int) 1 (rl 1) := ⟨tw_913, tw_7, (fun _ => ⟨tw_911, tw_912⟩), (fun h => by cases h), by decide +kernel, rfl, rfl⟩
theorem m_R_isTold : Zm true y_R_isTold prog_8_method_46_code 4 (some .boolean) 3 (rl 1) := ⟨tw_951, tw_7, (fun _ => ⟨tw_950, ts_40⟩), (fun h => by cases h), by decide +kernel, rfl, rfl⟩
theorem m_R_shutNow : Zm true y_R_shutNow prog_8_method_66_code 3 (some .int) 0 (rl 1) := ⟨tw_1024, tw_7, (fun _ => ⟨tw_1023, ts_49⟩), (fun h => by cases h), by decide +kernel, rfl, rfl⟩
theorem m_R_bestNow : Zm true y_R_bestNow prog_8_method_68_code 4 (some .int) 0 (rl 1) := ⟨tw_1032, tw_7, (fun _ => ⟨tw_1031, ts_50⟩), (fun h => by cases h), by decide +kernel, rfl, rfl⟩
theorem m_R_alike : Zm true y_R_alike prog_8_method_90_code 7 (some .int) 2 (rl 1) := ⟨tw_1126, tw_7, (fun _ => ⟨tw_1125, ts_62⟩), (fun h => by cases h), by decide +kernel, rfl, rfl⟩
theorem m_R_tellsHour : Zm true y_R_tellsHour prog_8_method_100_code 8 (some .long) 3 (rl 1) := ⟨tw_1183, tw_7, (fun _ => ⟨tw_1182, ts_68⟩), (fun h => by cases h), by decide +kernel, rfl, rfl⟩
theorem m_XH_renew : Zm true y_XH_renew prog_2_method_2_code 3 none 2 (rl 1) := ⟨tw_578, tw_6, (fun _ => ⟨tw_576, tw_577⟩), (fun h => by cases h), by decide +kernel, rfl, rfl⟩
theorem m_XT_mayStand : Zm true y_XT_mayStand prog_4_method_4_code 3 (some .boolean) 2 (rl 1) := ⟨tw_277, tw_5, (fun _ => ⟨tw_276, ts_1⟩), (fun h => by cases h), by decide +kernel, rfl, rfl⟩
theorem m_XW_sortEvents : Zm true y_XW_sortEvents prog_6_method_3_code 4 none 2 (rl 1) := ⟨tw_376, tw_4, (fun _ => ⟨tw_375, ts_6⟩), (fun h => by cases h), by decide +kernel, rfl, rfl⟩
theorem m_XW_ploughsGo : Zm true y_XW_ploughsGo prog_6_method_8_code 6 none 2 (rl 1) := ⟨tw_396, tw_4, (fun _ => ⟨tw_395, ts_11⟩), (fun h => by cases h), by decide +kernel, rfl, rfl⟩
theorem m_XW_ride : Zm true y_XW_ride prog_6_method_10_code 5 none 2 (rl 1) := ⟨tw_415, tw_4, (fun _ => ⟨tw_413, tw_414⟩), (fun h => by cases h), by decide +kernel, rfl, rfl⟩
theorem m_X_event : Zm true y_X_event prog_1_method_11_code 4 (some .int) 3 (rl 2) := ⟨tw_333, tw_1, (fun _ => ⟨tw_331, tw_332⟩), (fun h => by cases h), by decide +kernel, rfl, rfl⟩
theorem m_X_sheet : Zm true y_X_sheet prog_1_method_35_code 4 (some .int) 3 (rl 2) := ⟨tw_574, tw_1, (fun _ => ⟨tw_572, tw_573⟩), (fun h => by cases h), by decide +kernel, rfl, rfl⟩
theorem m_X_lay : Zm true y_X_lay prog_1_method_37_code 6 (some .int) 4 (rl 2) := ⟨tw_587, tw_1, (fun _ => ⟨tw_585, tw_586⟩), (fun h => by cases h), by decide +kernel, rfl, rfl⟩
theorem m_X_get : Zm true y_X_get prog_1_method_38_code 5 (some .int) 3 (rl 2) := ⟨tw_598, tw_1, (fun _ => ⟨tw_596, tw_597⟩), (fun h => by cases h), by decide +kernel, rfl, rfl⟩
theorem m_R_sheet : Zm true y_R_sheet prog_8_method_12_code 5 (some .int) 3 (rl 2) := ⟨tw_782, tw_7, (fun _ => ⟨tw_780, tw_781⟩), (fun h => by cases h), by decide +kernel, rfl, rfl⟩
theorem m_R_lose : Zm true y_R_lose prog_8_method_13_code 2 (some .int) 1 (rl 2) := ⟨tw_798, tw_7, (fun _ => ⟨tw_796, tw_797⟩), (fun h => by cases h), by decide +kernel, rfl, rfl⟩
theorem m_R_lay : Zm true y_R_lay prog_8_method_16_code 6 (some .int) 4 (rl 2) := ⟨tw_802, tw_7, (fun _ => ⟨tw_800, tw_801⟩), (fun h => by cases h), by decide +kernel, rfl, rfl⟩
theorem m_R_get : Zm true y_R_get prog_8_method_17_code 4 (some .int) 3 (rl 2) := ⟨tw_813, tw_7, (fun _ => ⟨tw_811, tw_812⟩), (fun h => by cases h), by decide +kernel, rfl, rfl⟩
theorem m_R_copy : Zm true y_R_copy prog_8_method_18_code 7 (some .int) 5 (rl 2) := ⟨tw_818, tw_7, (fun _ => ⟨tw_816, tw_817⟩), (fun h => by cases h), by decide +kernel, rfl, rfl⟩
theorem m_R_type : Zm true y_R_type prog_8_method_20_code 3 (some .int) 2 (rl 2) := ⟨tw_822, tw_7, (fun _ => ⟨tw_820, tw_821⟩), (fun h => by cases h), by decide +kernel, rfl, rfl⟩
theorem m_R_wipe : Zm true y_R_wipe prog_8_method_21_code 3 (some .int) 1 (rl 2) := ⟨tw_830, tw_7, (fun _ => ⟨tw_828, tw_829⟩), (fun h => by cases h), by decide +kernel, rfl, rfl⟩
theorem m_R_undo : Zm true y_R_undo prog_8_method_22_code 2 (some .int) 1 (rl 2) := ⟨tw_834, tw_7, (fun _ => ⟨tw_832, tw_833⟩), (fun h => by cases h), by decide +kernel, rfl, rfl⟩
theorem m_R_readsFall : Zm true y_R_readsFall prog_8_method_28_code 3 (some .int) 0 (rl 2) := ⟨tw_854, tw_7, (fun _ => ⟨tw_853, ts_30⟩), (fun h => by cases h), by decide +kernel, rfl, rfl⟩
theorem m_R_ploughOf : Zm false y_R_ploughOf prog_8_method_29_code 2 (some .int) 2 (rl 2) := ⟨tw_869, tw_7, (fun h => by cases h), (fun _ => tw_868), by decide +kernel, rfl, rfl⟩
theorem m_R_readsBuses : Zm true y_R_readsBuses prog_8_method_31_code 3 (some .int) 0 (rl 2) := ⟨tw_877, tw_7, (fun _ => ⟨tw_876, ts_33⟩), (fun h => by cases h), by decide +kernel, rfl, rfl⟩
theorem m_R_land : Zm true y_R_land prog_8_method_38_code 2 (some .int) 1 (rl 2) := ⟨tw_881, tw_7, (fun _ => ⟨tw_879, tw_880⟩), (fun h => by cases h), by decide +kernel, rfl, rfl⟩
theorem m_R_event : Zm true y_R_event prog_8_method_43_code 4 (some .int) 3 (rl 2) := ⟨tw_918, tw_7, (fun _ => ⟨tw_916, tw_917⟩), (fun h => by cases h), by decide +kernel, rfl, rfl⟩
theorem m_R_weathers : Zm true y_R_weathers prog_8_method_47_code 4 none 1 (rl 2) := ⟨tw_947, tw_7, (fun _ => ⟨tw_946, ts_39⟩), (fun h => by cases h), by decide +kernel, rfl, rfl⟩
theorem m_R_isBroken : Zm true y_R_isBroken prog_8_method_48_code 5 (some .boolean) 2 (rl 2) := ⟨tw_961, tw_7, (fun _ => ⟨tw_960, ts_41⟩), (fun h => by cases h), by decide +kernel, rfl, rfl⟩
theorem m_R_seen : Zm true y_R_seen prog_8_method_80_code 4 (some .int) 3 (rl 2) := ⟨tw_1081, tw_7, (fun _ => ⟨tw_1079, tw_1080⟩), (fun h => by cases h), by decide +kernel, rfl, rfl⟩
theorem m_XT_firstFault : Zm true y_XT_firstFault prog_4_method_3_code 2 (some .int) 0 (rl 2) := ⟨tw_273, tw_5, (fun _ => ⟨tw_271, tw_272⟩), (fun h => by cases h), by decide +kernel, rfl, rfl⟩
theorem m_XW_run : Zm true y_XW_run prog_6_method_2_code 4 none 2 (rl 2) := ⟨tw_369, tw_4, (fun _ => ⟨tw_367, tw_368⟩), (fun h => by cases h), by decide +kernel, rfl, rfl⟩
theorem m_XW_busesOver : Zm true y_XW_busesOver prog_6_method_12_code 4 (some .int) 1 (rl 2) := ⟨tw_463, tw_4, (fun _ => ⟨tw_461, tw_462⟩), (fun h => by cases h), by decide +kernel, rfl, rfl⟩
theorem m_X_fault : Zm true y_X_fault prog_1_method_5_code 2 (some .int) 1 (rl 3) := ⟨tw_308, tw_1, (fun _ => ⟨tw_306, tw_307⟩), (fun h => by cases h), by decide +kernel, rfl, rfl⟩
theorem m_X_read : Zm true y_X_read prog_1_method_13_code 5 (some .int) 1 (rl 3) := ⟨tw_348, tw_1, (fun _ => ⟨tw_346, tw_347⟩), (fun h => by cases h), by decide +kernel, rfl, rfl⟩
theorem m_X_begin : Zm true y_X_begin prog_1_method_23_code 8 (some .int) 2 (rl 3) := ⟨tw_459, tw_1, (fun _ => ⟨tw_457, tw_458⟩), (fun h => by cases h), by decide +kernel, rfl, rfl⟩
theorem m_X_never : Zm true y_X_never prog_1_method_29_code 3 (some .int) 0 (rl 3) := ⟨tw_515, tw_1, (fun _ => ⟨tw_513, tw_514⟩), (fun h => by cases h), by decide +kernel, rfl, rfl⟩
theorem m_X_winters : Zm true y_X_winters prog_1_method_34_code 5 (some .int) 3 (rl 3) := ⟨tw_565, tw_1, (fun _ => ⟨tw_563, tw_564⟩), (fun h => by cases h), by decide +kernel, rfl, rfl⟩
theorem m_X_asTold : Zm true y_X_asTold prog_1_method_54_code 1 (some (.object "SnowRoad$Winter")) 0 (rl 3) := ⟨tw_361, tw_1, (fun _ => ⟨tw_360, ts_4⟩), (fun h => by cases h), by decide +kernel, rfl, rfl⟩
theorem m_X_tryLand : Zm true y_X_tryLand prog_1_method_55_code 4 none 2 (rl 3) := ⟨tw_473, tw_1, (fun _ => ⟨tw_472, ts_14⟩), (fun h => by cases h), by decide +kernel, rfl, rfl⟩
theorem m_X_tryStrength : Zm true y_X_tryStrength prog_1_method_56_code 4 none 2 (rl 3) := ⟨tw_527, tw_1, (fun _ => ⟨tw_526, ts_17⟩), (fun h => by cases h), by decide +kernel, rfl, rfl⟩
theorem m_X_allOverBut : Zm true y_X_allOverBut prog_1_method_57_code 2 (some .boolean) 1 (rl 3) := ⟨tw_489, tw_1, (fun _ => ⟨tw_488, ts_16⟩), (fun h => by cases h), by decide +kernel, rfl, rfl⟩
theorem m_X_countChoices : Zm true y_X_countChoices prog_1_method_61_code 4 none 0 (rl 3) := ⟨tw_556, tw_1, (fun _ => ⟨tw_555, ts_20⟩), (fun h => by cases h), by decide +kernel, rfl, rfl⟩
theorem m_R_readsPloughs : Zm true y_R_readsPloughs prog_8_method_30_code 5 (some .int) 0 (rl 3) := ⟨tw_866, tw_7, (fun _ => ⟨tw_865, ts_32⟩), (fun h => by cases h), by decide +kernel, rfl, rfl⟩
theorem m_R_fall : Zm true y_R_fall prog_8_method_39_code 2 (some .int) 1 (rl 3) := ⟨tw_889, tw_7, (fun _ => ⟨tw_887, tw_888⟩), (fun h => by cases h), by decide +kernel, rfl, rfl⟩
theorem m_R_bus : Zm true y_R_bus prog_8_method_41_code 2 (some .int) 1 (rl 3) := ⟨tw_905, tw_7, (fun _ => ⟨tw_903, tw_904⟩), (fun h => by cases h), by decide +kernel, rfl, rfl⟩
theorem m_R_read : Zm true y_R_read prog_8_method_45_code 5 (some .int) 1 (rl 3) := ⟨tw_926, tw_7, (fun _ => ⟨tw_924, tw_925⟩), (fun h => by cases h), by decide +kernel, rfl, rfl⟩
theorem m_R_passes : Zm true y_R_passes prog_8_method_51_code 4 none 1 (rl 3) := ⟨tw_943, tw_7, (fun _ => ⟨tw_942, ts_38⟩), (fun h => by cases h), by decide +kernel, rfl, rfl⟩
theorem m_XT_meant : Zm true y_XT_meant prog_4_method_6_code 1 (some .int) 0 (rl 3) := ⟨tw_269, tw_5, (fun _ => ⟨tw_267, tw_268⟩), (fun h => by cases h), by decide +kernel, rfl, rfl⟩
theorem m_X_deep : Zm true y_X_deep prog_1_method_14_code 3 (some .int) 2 (rl 4) := ⟨tw_357, tw_1, (fun _ => ⟨tw_355, tw_356⟩), (fun h => by cases h), by decide +kernel, rfl, rfl⟩
theorem m_X_at : Zm true y_X_at prog_1_method_15_code 6 (some .int) 3 (rl 4) := ⟨tw_407, tw_1, (fun _ => ⟨tw_405, tw_406⟩), (fun h => by cases h), by decide +kernel, rfl, rfl⟩
theorem m_X_rides : Zm true y_X_rides prog_1_method_16_code 4 (some .int) 2 (rl 4) := ⟨tw_411, tw_1, (fun _ => ⟨tw_409, tw_410⟩), (fun h => by cases h), by decide +kernel, rfl, rfl⟩
theorem m_X_snow : Zm true y_X_snow prog_1_method_17_code 3 (some .int) 2 (rl 4) := ⟨tw_423, tw_1, (fun _ => ⟨tw_421, tw_422⟩), (fun h => by cases h), by decide +kernel, rfl, rfl⟩
theorem m_X_over : Zm true y_X_over prog_1_method_18_code 4 (some .int) 2 (rl 4) := ⟨tw_435, tw_1, (fun _ => ⟨tw_433, tw_434⟩), (fun h => by cases h), by decide +kernel, rfl, rfl⟩
theorem m_X_cleared : Zm true y_X_cleared prog_1_method_19_code 3 (some .int) 2 (rl 4) := ⟨tw_439, tw_1, (fun _ => ⟨tw_437, tw_438⟩), (fun h => by cases h), by decide +kernel, rfl, rfl⟩
theorem m_X_deepest : Zm true y_X_deepest prog_1_method_20_code 3 (some .int) 1 (rl 4) := ⟨tw_443, tw_1, (fun _ => ⟨tw_441, tw_442⟩), (fun h => by cases h), by decide +kernel, rfl, rfl⟩
theorem m_X_shut : Zm true y_X_shut prog_1_method_21_code 3 (some .int) 0 (rl 4) := ⟨tw_451, tw_1, (fun _ => ⟨tw_449, tw_450⟩), (fun h => by cases h), by decide +kernel, rfl, rfl⟩
theorem m_X_best : Zm true y_X_best prog_1_method_22_code 5 (some .int) 0 (rl 4) := ⟨tw_455, tw_1, (fun _ => ⟨tw_453, tw_454⟩), (fun h => by cases h), by decide +kernel, rfl, rfl⟩
theorem m_X_hedge : Zm true y_X_hedge prog_1_method_24_code 6 (some .int) 1 (rl 4) := ⟨tw_468, tw_1, (fun _ => ⟨tw_466, tw_467⟩), (fun h => by cases h), by decide +kernel, rfl, rfl⟩
theorem m_X_start : Zm true y_X_start prog_1_method_25_code 7 (some .int) 2 (rl 4) := ⟨tw_477, tw_1, (fun _ => ⟨tw_475, tw_476⟩), (fun h => by cases h), by decide +kernel, rfl, rfl⟩
theorem m_X_strengths : Zm true y_X_strengths prog_1_method_30_code 4 (some .int) 1 (rl 4) := ⟨tw_523, tw_1, (fun _ => ⟨tw_521, tw_522⟩), (fun h => by cases h), by decide +kernel, rfl, rfl⟩
theorem m_X_lie : Zm true y_X_lie prog_1_method_31_code 4 (some .int) 1 (rl 4) := ⟨tw_531, tw_1, (fun _ => ⟨tw_529, tw_530⟩), (fun h => by cases h), by decide +kernel, rfl, rfl⟩
theorem m_X_ask : Zm true y_X_ask prog_1_method_32_code 7 (some .int) 1 (rl 4) := ⟨tw_535, tw_1, (fun _ => ⟨tw_533, tw_534⟩), (fun h => by cases h), by decide +kernel, rfl, rfl⟩
theorem m_X_chance : Zm true y_X_chance prog_1_method_33_code 9 (some .long) 3 (rl 4) := ⟨tw_551, tw_1, (fun _ => ⟨tw_549, tw_550⟩), (fun h => by cases h), by decide +kernel, rfl, rfl⟩
theorem m_X_write : Zm true y_X_write prog_1_method_40_code 6 (some .int) 2 (rl 4) := ⟨tw_611, tw_1, (fun _ => ⟨tw_609, tw_610⟩), (fun h => by cases h), by decide +kernel, rfl, rfl⟩
theorem m_X_count : Zm true y_X_count prog_1_method_41_code 2 (some .int) 1 (rl 4) := ⟨tw_618, tw_1, (fun _ => ⟨tw_616, tw_617⟩), (fun h => by cases h), by decide +kernel, rfl, rfl⟩
theorem m_X_sparedEvents : Zm true y_X_sparedEvents prog_1_method_58_code 3 (some .int) 0 (rl 4) := ⟨tw_485, tw_1, (fun _ => ⟨tw_484, ts_15⟩), (fun h => by cases h), by decide +kernel, rfl, rfl⟩
theorem m_R_readsText : Zm true y_R_readsText prog_8_method_32_code 2 (some .int) 1 (rl 4) := ⟨tw_842, tw_7, (fun _ => ⟨tw_841, ts_27⟩), (fun h => by cases h), by decide +kernel, rfl, rfl⟩
theorem m_R_plough : Zm true y_R_plough prog_8_method_40_code 3 (some .int) 2 (rl 4) := ⟨tw_897, tw_7, (fun _ => ⟨tw_895, tw_896⟩), (fun h => by cases h), by decide +kernel, rfl, rfl⟩
theorem m_R_lives : Zm true y_R_lives prog_8_method_52_code 2 none 0 (rl 4) := ⟨tw_939, tw_7, (fun _ => ⟨tw_938, ts_37⟩), (fun h => by cases h), by decide +kernel, rfl, rfl⟩
theorem m_XO_takeLand : Zm true y_XO_takeLand prog_5_method_2_code 5 none 1 (rl 4) := ⟨tw_265, tw_2, (fun _ => ⟨tw_263, tw_264⟩), (fun h => by cases h), by decide +kernel, rfl, rfl⟩
theorem m_XO_takeFall : Zm true y_XO_takeFall prog_5_method_3_code 4 none 1 (rl 4) := ⟨tw_284, tw_2, (fun _ => ⟨tw_282, tw_283⟩), (fun h => by cases h), by decide +kernel, rfl, rfl⟩
theorem m_XO_takePloughs : Zm true y_XO_takePloughs prog_5_method_4_code 4 none 1 (rl 4) := ⟨tw_288, tw_2, (fun _ => ⟨tw_286, tw_287⟩), (fun h => by cases h), by decide +kernel, rfl, rfl⟩
theorem m_XO_takeBuses : Zm true y_XO_takeBuses prog_5_method_5_code 3 none 1 (rl 4) := ⟨tw_292, tw_2, (fun _ => ⟨tw_290, tw_291⟩), (fun h => by cases h), by decide +kernel, rfl, rfl⟩
theorem m_X_spare : Zm true y_X_spare prog_1_method_26_code 4 (some .int) 1 (rl 5) := ⟨tw_481, tw_1, (fun _ => ⟨tw_479, tw_480⟩), (fun h => by cases h), by decide +kernel, rfl, rfl⟩
theorem m_X_mixPlough : Zm true y_X_mixPlough prog_1_method_45_code 8 (some .long) 2 (rl 5) := ⟨tw_642, tw_1, (fun _ => ⟨tw_641, ts_23⟩), (fun h => by cases h), by decide +kernel, rfl, rfl⟩
theorem m_X_mixBus : Zm true y_X_mixBus prog_1_method_46_code 4 (some .long) 2 (rl 5) := ⟨tw_654, tw_1, (fun _ => ⟨tw_653, ts_24⟩), (fun h => by cases h), by decide +kernel, rfl, rfl⟩
theorem m_X_takeText : Zm true y_X_takeText prog_1_method_50_code 2 none 1 (rl 5) := ⟨tw_261, tw_1, (fun _ => ⟨tw_260, ts_0⟩), (fun h => by cases h), by decide +kernel, rfl, rfl⟩
theorem m_R_fault : Zm true y_R_fault prog_8_method_33_code 2 (some .int) 1 (rl 5) := ⟨tw_838, tw_7, (fun _ => ⟨tw_836, tw_837⟩), (fun h => by cases h), by decide +kernel, rfl, rfl⟩
theorem m_R_find : Zm true y_R_find prog_8_method_53_code 2 none 0 (rl 5) := ⟨tw_935, tw_7, (fun _ => ⟨tw_934, ts_36⟩), (fun h => by cases h), by decide +kernel, rfl, rfl⟩
theorem m_R_beginOf : Zm true y_R_beginOf prog_8_method_71_code 8 (some .int) 2 (rl 5) := ⟨tw_1043, tw_7, (fun _ => ⟨tw_1042, ts_51⟩), (fun h => by cases h), by decide +kernel, rfl, rfl⟩
theorem m_R_hedgeBy : Zm true y_R_hedgeBy prog_8_method_73_code 7 (some .int) 1 (rl 5) := ⟨tw_1055, tw_7, (fun _ => ⟨tw_1054, ts_53⟩), (fun h => by cases h), by decide +kernel, rfl, rfl⟩
theorem m_R_startOf : Zm true y_R_startOf prog_8_method_75_code 8 (some .int) 2 (rl 5) := ⟨tw_1064, tw_7, (fun _ => ⟨tw_1063, ts_54⟩), (fun h => by cases h), by decide +kernel, rfl, rfl⟩
theorem m_R_isSpared : Zm true y_R_isSpared prog_8_method_77_code 2 (some .boolean) 1 (rl 5) := ⟨tw_1077, tw_7, (fun _ => ⟨tw_1076, ts_56⟩), (fun h => by cases h), by decide +kernel, rfl, rfl⟩
theorem m_R_isSeen : Zm true y_R_isSeen prog_8_method_82_code 3 (some .boolean) 0 (rl 5) := ⟨tw_1098, tw_7, (fun _ => ⟨tw_1097, ts_58⟩), (fun h => by cases h), by decide +kernel, rfl, rfl⟩
theorem m_R_chanceOf : Zm true y_R_chanceOf prog_8_method_93_code 10 (some .long) 3 (rl 5) := ⟨tw_1139, tw_7, (fun _ => ⟨tw_1138, ts_64⟩), (fun h => by cases h), by decide +kernel, rfl, rfl⟩
theorem m_R_wintersOf : Zm true y_R_wintersOf prog_8_method_96_code 5 (some .int) 3 (rl 5) := ⟨tw_1155, tw_7, (fun _ => ⟨tw_1154, ts_65⟩), (fun h => by cases h), by decide +kernel, rfl, rfl⟩
theorem m_X_type : Zm true y_X_type prog_1_method_2_code 3 (some .int) 2 (rl 6) := ⟨tw_250, tw_1, (fun _ => ⟨tw_248, tw_249⟩), (fun h => by cases h), by decide +kernel, rfl, rfl⟩
theorem m_X_wipe : Zm true y_X_wipe prog_1_method_3_code 3 (some .int) 1 (rl 6) := ⟨tw_300, tw_1, (fun _ => ⟨tw_298, tw_299⟩), (fun h => by cases h), by decide +kernel, rfl, rfl⟩
theorem m_X_undo : Zm true y_X_undo prog_1_method_4_code 2 (some .int) 1 (rl 6) := ⟨tw_304, tw_1, (fun _ => ⟨tw_302, tw_303⟩), (fun h => by cases h), by decide +kernel, rfl, rfl⟩
theorem m_X_digest : Zm true y_X_digest prog_1_method_42_code 4 (some .long) 0 (rl 6) := ⟨tw_626, tw_1, (fun _ => ⟨tw_624, tw_625⟩), (fun h => by cases h), by decide +kernel, rfl, rfl⟩
theorem m_R_deep : Zm true y_R_deep prog_8_method_54_code 3 (some .int) 2 (rl 6) := ⟨tw_931, tw_7, (fun _ => ⟨tw_929, tw_930⟩), (fun h => by cases h), by decide +kernel, rfl, rfl⟩
theorem m_R_at : Zm true y_R_at prog_8_method_56_code 4 (some .int) 3 (rl 6) := ⟨tw_973, tw_7, (fun _ => ⟨tw_971, tw_972⟩), (fun h => by cases h), by decide +kernel, rfl, rfl⟩
theorem m_R_rides : Zm true y_R_rides prog_8_method_57_code 3 (some .int) 2 (rl 6) := ⟨tw_981, tw_7, (fun _ => ⟨tw_979, tw_980⟩), (fun h => by cases h), by decide +kernel, rfl, rfl⟩
theorem m_R_snow : Zm true y_R_snow prog_8_method_59_code 3 (some .int) 2 (rl 6) := ⟨tw_985, tw_7, (fun _ => ⟨tw_983, tw_984⟩), (fun h => by cases h), by decide +kernel, rfl, rfl⟩
theorem m_R_over : Zm true y_R_over prog_8_method_61_code 3 (some .int) 2 (rl 6) := ⟨tw_996, tw_7, (fun _ => ⟨tw_994, tw_995⟩), (fun h => by cases h), by decide +kernel, rfl, rfl⟩
theorem m_R_cleared : Zm true y_R_cleared prog_8_method_63_code 3 (some .int) 2 (rl 6) := ⟨tw_1004, tw_7, (fun _ => ⟨tw_1002, tw_1003⟩), (fun h => by cases h), by decide +kernel, rfl, rfl⟩
theorem m_R_deepest : Zm true y_R_deepest prog_8_method_65_code 2 (some .int) 1 (rl 6) := ⟨tw_1012, tw_7, (fun _ => ⟨tw_1010, tw_1011⟩), (fun h => by cases h), by decide +kernel, rfl, rfl⟩
theorem m_R_shut : Zm true y_R_shut prog_8_method_67_code 1 (some .int) 0 (rl 6) := ⟨tw_1020, tw_7, (fun _ => ⟨tw_1018, tw_1019⟩), (fun h => by cases h), by decide +kernel, rfl, rfl⟩
theorem m_R_best : Zm true y_R_best prog_8_method_69_code 1 (some .int) 0 (rl 6) := ⟨tw_1028, tw_7, (fun _ => ⟨tw_1026, tw_1027⟩), (fun h => by cases h), by decide +kernel, rfl, rfl⟩
theorem m_R_begin : Zm true y_R_begin prog_8_method_72_code 3 (some .int) 2 (rl 6) := ⟨tw_1039, tw_7, (fun _ => ⟨tw_1037, tw_1038⟩), (fun h => by cases h), by decide +kernel, rfl, rfl⟩
theorem m_R_hedge : Zm true y_R_hedge prog_8_method_74_code 2 (some .int) 1 (rl 6) := ⟨tw_1051, tw_7, (fun _ => ⟨tw_1049, tw_1050⟩), (fun h => by cases h), by decide +kernel, rfl, rfl⟩
theorem m_R_start : Zm true y_R_start prog_8_method_76_code 3 (some .int) 2 (rl 6) := ⟨tw_1060, tw_7, (fun _ => ⟨tw_1058, tw_1059⟩), (fun h => by cases h), by decide +kernel, rfl, rfl⟩
theorem m_R_spareBy : Zm true y_R_spareBy prog_8_method_78_code 4 (some .int) 1 (rl 6) := ⟨tw_1073, tw_7, (fun _ => ⟨tw_1072, ts_55⟩), (fun h => by cases h), by decide +kernel, rfl, rfl⟩
theorem m_R_neverNow : Zm true y_R_neverNow prog_8_method_83_code 3 (some .int) 0 (rl 6) := ⟨tw_1094, tw_7, (fun _ => ⟨tw_1093, ts_57⟩), (fun h => by cases h), by decide +kernel, rfl, rfl⟩
theorem m_R_strengthsOf : Zm true y_R_strengthsOf prog_8_method_85_code 6 (some .int) 1 (rl 6) := ⟨tw_1106, tw_7, (fun _ => ⟨tw_1105, ts_59⟩), (fun h => by cases h), by decide +kernel, rfl, rfl⟩
theorem m_R_lieOf : Zm true y_R_lieOf prog_8_method_87_code 5 (some .int) 1 (rl 6) := ⟨tw_1114, tw_7, (fun _ => ⟨tw_1113, ts_60⟩), (fun h => by cases h), by decide +kernel, rfl, rfl⟩
theorem m_R_chance : Zm true y_R_chance prog_8_method_94_code 4 (some .long) 3 (rl 6) := ⟨tw_1134, tw_7, (fun _ => ⟨tw_1132, tw_1133⟩), (fun h => by cases h), by decide +kernel, rfl, rfl⟩
theorem m_R_winters : Zm true y_R_winters prog_8_method_97_code 4 (some .int) 3 (rl 6) := ⟨tw_1150, tw_7, (fun _ => ⟨tw_1148, tw_1149⟩), (fun h => by cases h), by decide +kernel, rfl, rfl⟩
theorem m_R_write : Zm true y_R_write prog_8_method_98_code 5 (some .int) 2 (rl 6) := ⟨tw_1164, tw_7, (fun _ => ⟨tw_1162, tw_1163⟩), (fun h => by cases h), by decide +kernel, rfl, rfl⟩
theorem m_R_count : Zm true y_R_count prog_8_method_99_code 2 (some .int) 1 (rl 6) := ⟨tw_1168, tw_7, (fun _ => ⟨tw_1166, tw_1167⟩), (fun h => by cases h), by decide +kernel, rfl, rfl⟩
theorem m_R_tellsBus : Zm true y_R_tellsBus prog_8_method_102_code 6 (some .long) 2 (rl 6) := ⟨tw_1187, tw_7, (fun _ => ⟨tw_1186, ts_69⟩), (fun h => by cases h), by decide +kernel, rfl, rfl⟩
theorem m_R_spare : Zm true y_R_spare prog_8_method_79_code 2 (some .int) 1 (rl 7) := ⟨tw_1068, tw_7, (fun _ => ⟨tw_1066, tw_1067⟩), (fun h => by cases h), by decide +kernel, rfl, rfl⟩
theorem m_R_never : Zm true y_R_never prog_8_method_84_code 1 (some .int) 0 (rl 7) := ⟨tw_1090, tw_7, (fun _ => ⟨tw_1088, tw_1089⟩), (fun h => by cases h), by decide +kernel, rfl, rfl⟩
theorem m_R_strengths : Zm true y_R_strengths prog_8_method_86_code 2 (some .int) 1 (rl 7) := ⟨tw_1102, tw_7, (fun _ => ⟨tw_1100, tw_1101⟩), (fun h => by cases h), by decide +kernel, rfl, rfl⟩
theorem m_R_lie : Zm true y_R_lie prog_8_method_88_code 2 (some .int) 1 (rl 7) := ⟨tw_1110, tw_7, (fun _ => ⟨tw_1108, tw_1109⟩), (fun h => by cases h), by decide +kernel, rfl, rfl⟩
theorem m_R_askOf : Zm true y_R_askOf prog_8_method_91_code 7 (some .int) 1 (rl 7) := ⟨tw_1122, tw_7, (fun _ => ⟨tw_1121, ts_61⟩), (fun h => by cases h), by decide +kernel, rfl, rfl⟩
theorem m_R_ask : Zm true y_R_ask prog_8_method_92_code 2 (some .int) 1 (rl 8) := ⟨tw_1118, tw_7, (fun _ => ⟨tw_1116, tw_1117⟩), (fun h => by cases h), by decide +kernel, rfl, rfl⟩
theorem m_R_tellsPlough : Zm true y_R_tellsPlough prog_8_method_101_code 7 (some .long) 2 (rl 8) := ⟨tw_1179, tw_7, (fun _ => ⟨tw_1178, ts_67⟩), (fun h => by cases h), by decide +kernel, rfl, rfl⟩
theorem m_R_digest : Zm true y_R_digest prog_8_method_103_code 4 (some .long) 0 (rl 9) := ⟨tw_1172, tw_7, (fun _ => ⟨tw_1170, tw_1171⟩), (fun h => by cases h), by decide +kernel, rfl, rfl⟩
theorem m_J_fill : Zm false y_J_fill prog_12_method_103_code 4 none 2 (rl 0) := ⟨tw_372, tw_8, (fun h => by cases h), (fun _ => tw_371), by decide +kernel, rfl, rfl⟩
end
section
/-! the two worlds: the class, the reference -/
def TX0 : u_T := fun k => match k with
  | 0 => ("SnowRoad$Sheet", "items", "[I", true)
  | 1 => ("SnowRoad$Sheet", "form", "I", false)
  | _ => ("SnowRoad$Sheet", "size", "I", false)
def tyX0 : Nat → FieldType := fun k => match k with
  | 0 => .array .int
  | 1 => .int
  | _ => .int
theorem nmX0 : ∀ a, a < 3 → ∀ b, b < 3 → a ≠ b → (TX0 a).2.1 ≠ (TX0 b).2.1 := by decide +kernel
theorem tyX0_ok : ∀ k, k < 3 → parseFieldDescriptor (TX0 k).2.2.1 = some (tyX0 k) := by decide +kernel
theorem inz_0 : ∀ q ∈ u_ws "SnowRoad$Sheet" TX0 3, q ∈ zt := by
  intro q hq
  have h : u_ws "SnowRoad$Sheet" TX0 3 = [203, 205, 207].filterMap (fun i => tables_1[i]?) := by decide +kernel
  have hg : (u_ws "SnowRoad$Sheet" TX0 3).all goodWord = true := by decide +kernel
  have h1 := List.all_eq_true.mp hg q hq
  rw [h] at hq
  obtain ⟨i, -, hi⟩ := List.mem_filterMap.mp hq
  exact zt_mem i hi h1
def TX1 : u_T := fun k => match k with
  | 0 => ("SnowRoad$Sightings", "places", "[I", true)
  | 1 => ("SnowRoad$Sightings", "depths", "[I", true)
  | _ => ("SnowRoad$Sightings", "size", "I", false)
def tyX1 : Nat → FieldType := fun k => match k with
  | 0 => .array .int
  | 1 => .array .int
  | _ => .int
theorem nmX1 : ∀ a, a < 3 → ∀ b, b < 3 → a ≠ b → (TX1 a).2.1 ≠ (TX1 b).2.1 := by decide +kernel
theorem tyX1_ok : ∀ k, k < 3 → parseFieldDescriptor (TX1 k).2.2.1 = some (tyX1 k) := by decide +kernel
theorem inz_1 : ∀ q ∈ u_ws "SnowRoad$Sightings" TX1 3, q ∈ zt := by
  intro q hq
  have h : u_ws "SnowRoad$Sightings" TX1 3 = [102, 104, 106].filterMap (fun i => tables_1[i]?) := by decide +kernel
  have hg : (u_ws "SnowRoad$Sightings" TX1 3).all goodWord = true := by decide +kernel
  have h1 := List.all_eq_true.mp hg q hq
  rw [h] at hq
  obtain ⟨i, -, hi⟩ := List.mem_filterMap.mp hq
  exact zt_mem i hi h1
def TX2 : u_T := fun k => match k with
  | 0 => ("SnowRoad$Text", "kind", "I", true)
  | 1 => ("SnowRoad$Text", "bytes", "[I", true)
  | _ => ("SnowRoad$Text", "length", "I", false)
def tyX2 : Nat → FieldType := fun k => match k with
  | 0 => .int
  | 1 => .array .int
  | _ => .int
theorem nmX2 : ∀ a, a < 3 → ∀ b, b < 3 → a ≠ b → (TX2 a).2.1 ≠ (TX2 b).2.1 := by decide +kernel
theorem tyX2_ok : ∀ k, k < 3 → parseFieldDescriptor (TX2 k).2.2.1 = some (tyX2 k) := by decide +kernel
theorem inz_2 : ∀ q ∈ u_ws "SnowRoad$Text" TX2 3, q ∈ zt := by
  intro q hq
  have h : u_ws "SnowRoad$Text" TX2 3 = [185, 187, 189].filterMap (fun i => tables_1[i]?) := by decide +kernel
  have hg : (u_ws "SnowRoad$Text" TX2 3).all goodWord = true := by decide +kernel
  have h1 := List.all_eq_true.mp hg q hq
  rw [h] at hq
  obtain ⟨i, -, hi⟩ := List.mem_filterMap.mp hq
  exact zt_mem i hi h1
def TX3 : u_T := fun k => match k with
  | 0 => ("SnowRoad$Told", "lands", "[I", true)
  | 1 => ("SnowRoad$Told", "falls", "[I", false)
  | 2 => ("SnowRoad$Told", "ploughs", "I", false)
  | 3 => ("SnowRoad$Told", "begins", "[I", true)
  | 4 => ("SnowRoad$Told", "strong", "[I", true)
  | 5 => ("SnowRoad$Told", "ways", "[I", true)
  | 6 => ("SnowRoad$Told", "buses", "I", false)
  | 7 => ("SnowRoad$Told", "starts", "[I", true)
  | 8 => ("SnowRoad$Told", "windSpeed", "I", false)
  | 9 => ("SnowRoad$Told", "events", "I", false)
  | 10 => ("SnowRoad$Told", "kinds", "[I", true)
  | 11 => ("SnowRoad$Told", "hours", "[I", true)
  | _ => ("SnowRoad$Told", "numbers", "[I", true)
def tyX3 : Nat → FieldType := fun k => match k with
  | 0 => .array .int
  | 1 => .array .int
  | 2 => .int
  | 3 => .array .int
  | 4 => .array .int
  | 5 => .array .int
  | 6 => .int
  | 7 => .array .int
  | 8 => .int
  | 9 => .int
  | 10 => .array .int
  | 11 => .array .int
  | _ => .array .int
theorem nmX3 : ∀ a, a < 13 → ∀ b, b < 13 → a ≠ b → (TX3 a).2.1 ≠ (TX3 b).2.1 := by decide +kernel
theorem tyX3_ok : ∀ k, k < 13 → parseFieldDescriptor (TX3 k).2.2.1 = some (tyX3 k) := by decide +kernel
theorem inz_3 : ∀ q ∈ u_ws "SnowRoad$Told" TX3 13, q ∈ zt := by
  intro q hq
  have h : u_ws "SnowRoad$Told" TX3 13 = [64, 66, 68, 70, 72, 74, 76, 78, 80, 82, 84, 86, 88].filterMap (fun i => tables_1[i]?) := by decide +kernel
  have hg : (u_ws "SnowRoad$Told" TX3 13).all goodWord = true := by decide +kernel
  have h1 := List.all_eq_true.mp hg q hq
  rw [h] at hq
  obtain ⟨i, -, hi⟩ := List.mem_filterMap.mp hq
  exact zt_mem i hi h1
def TX4 : u_T := fun k => match k with
  | 0 => ("SnowRoad$Winter", "depths", "[I", true)
  | 1 => ("SnowRoad$Winter", "ploughMiles", "[I", true)
  | 2 => ("SnowRoad$Winter", "ploughWays", "[I", true)
  | 3 => ("SnowRoad$Winter", "clearings", "[I", true)
  | 4 => ("SnowRoad$Winter", "clearedInAll", "[I", true)
  | 5 => ("SnowRoad$Winter", "stuckHours", "[I", true)
  | 6 => ("SnowRoad$Winter", "winds", "[I", true)
  | 7 => ("SnowRoad$Winter", "broken", "[I", true)
  | 8 => ("SnowRoad$Winter", "thawHours", "I", false)
  | 9 => ("SnowRoad$Winter", "now", "[I", true)
  | 10 => ("SnowRoad$Winter", "mileNow", "[I", true)
  | 11 => ("SnowRoad$Winter", "wayNow", "[I", true)
  | 12 => ("SnowRoad$Winter", "busMile", "I", false)
  | 13 => ("SnowRoad$Winter", "busOver", "I", false)
  | _ => ("SnowRoad$Winter", "busWaited", "I", false)
def tyX4 : Nat → FieldType := fun k => match k with
  | 0 => .array .int
  | 1 => .array .int
  | 2 => .array .int
  | 3 => .array .int
  | 4 => .array .int
  | 5 => .array .int
  | 6 => .array .int
  | 7 => .array .int
  | 8 => .int
  | 9 => .array .int
  | 10 => .array .int
  | 11 => .array .int
  | 12 => .int
  | 13 => .int
  | _ => .int
theorem nmX4 : ∀ a, a < 15 → ∀ b, b < 15 → a ≠ b → (TX4 a).2.1 ≠ (TX4 b).2.1 := by decide +kernel
theorem tyX4_ok : ∀ k, k < 15 → parseFieldDescriptor (TX4 k).2.2.1 = some (tyX4 k) := by decide +kernel
theorem inz_4 : ∀ q ∈ u_ws "SnowRoad$Winter" TX4 15, q ∈ zt := by
  intro q hq
  have h : u_ws "SnowRoad$Winter" TX4 15 = [142, 144, 146, 148, 150, 152, 154, 156, 158, 160, 162, 164, 166, 168, 170].filterMap (fun i => tables_1[i]?) := by decide +kernel
  have hg : (u_ws "SnowRoad$Winter" TX4 15).all goodWord = true := by decide +kernel
  have h1 := List.all_eq_true.mp hg q hq
  rw [h] at hq
  obtain ⟨i, -, hi⟩ := List.mem_filterMap.mp hq
  exact zt_mem i hi h1
def TX5 : u_T := fun k => match k with
  | 0 => ("SnowRoad", "texts", "[LSnowRoad$Text;", true)
  | 1 => ("SnowRoad", "told", "LSnowRoad$Told;", true)
  | 2 => ("SnowRoad", "sightings", "LSnowRoad$Sightings;", true)
  | 3 => ("SnowRoad", "sheets", "[LSnowRoad$Sheet;", true)
  | 4 => ("SnowRoad", "finding", "I", false)
  | 5 => ("SnowRoad", "kept", "LSnowRoad$Winter;", true)
  | 6 => ("SnowRoad", "trial", "LSnowRoad$Winter;", true)
  | 7 => ("SnowRoad", "keptIsOld", "Z", false)
  | 8 => ("SnowRoad", "choices", "[I", true)
  | 9 => ("SnowRoad", "choicesAreOld", "Z", false)
  | 10 => ("SnowRoad", "drawnFall", "[I", true)
  | _ => ("SnowRoad", "drifts", "[I", true)
def tyX5 : Nat → FieldType := fun k => match k with
  | 0 => .array (.object "SnowRoad$Text")
  | 1 => .object "SnowRoad$Told"
  | 2 => .object "SnowRoad$Sightings"
  | 3 => .array (.object "SnowRoad$Sheet")
  | 4 => .int
  | 5 => .object "SnowRoad$Winter"
  | 6 => .object "SnowRoad$Winter"
  | 7 => .boolean
  | 8 => .array .int
  | 9 => .boolean
  | 10 => .array .int
  | _ => .array .int
theorem nmX5 : ∀ a, a < 12 → ∀ b, b < 12 → a ≠ b → (TX5 a).2.1 ≠ (TX5 b).2.1 := by decide +kernel
theorem tyX5_ok : ∀ k, k < 12 → parseFieldDescriptor (TX5 k).2.2.1 = some (tyX5 k) := by decide +kernel
theorem inz_5 : ∀ q ∈ u_ws "SnowRoad" TX5 12, q ∈ zt := by
  intro q hq
  have h : u_ws "SnowRoad" TX5 12 = [222, 224, 226, 228, 230, 232, 234, 236, 238, 240, 242, 244].filterMap (fun i => tables_1[i]?) := by decide +kernel
  have hg : (u_ws "SnowRoad" TX5 12).all goodWord = true := by decide +kernel
  have h1 := List.all_eq_true.mp hg q hq
  rw [h] at hq
  obtain ⟨i, -, hi⟩ := List.mem_filterMap.mp hq
  exact zt_mem i hi h1
def TX6 : u_T := fun k => match k with
  | 0 => ("SnowRoadModel", "forms", "[I", true)
  | 1 => ("SnowRoadModel", "sizes", "[I", true)
  | 2 => ("SnowRoadModel", "items", "[I", true)
  | 3 => ("SnowRoadModel", "moved", "[I", true)
  | 4 => ("SnowRoadModel", "latest", "I", false)
  | 5 => ("SnowRoadModel", "bytes", "[I", true)
  | 6 => ("SnowRoadModel", "typed", "[I", true)
  | 7 => ("SnowRoadModel", "land", "[I", true)
  | 8 => ("SnowRoadModel", "fall", "[I", true)
  | 9 => ("SnowRoadModel", "ploughs", "I", false)
  | 10 => ("SnowRoadModel", "plough", "[I", true)
  | 11 => ("SnowRoadModel", "buses", "I", false)
  | 12 => ("SnowRoadModel", "bus", "[I", true)
  | 13 => ("SnowRoadModel", "wind", "I", false)
  | 14 => ("SnowRoadModel", "events", "I", false)
  | 15 => ("SnowRoadModel", "event", "[I", true)
  | 16 => ("SnowRoadModel", "gone", "I", false)
  | 17 => ("SnowRoadModel", "depth", "[I", true)
  | 18 => ("SnowRoadModel", "carried", "[I", true)
  | 19 => ("SnowRoadModel", "mile", "[I", true)
  | 20 => ("SnowRoadModel", "way", "[I", true)
  | 21 => ("SnowRoadModel", "scooped", "[I", true)
  | 22 => ("SnowRoadModel", "stuck", "[I", true)
  | 23 => ("SnowRoadModel", "ride", "[I", true)
  | 24 => ("SnowRoadModel", "overIn", "[I", true)
  | 25 => ("SnowRoadModel", "waited", "[I", true)
  | 26 => ("SnowRoadModel", "depthBy", "[I", true)
  | 27 => ("SnowRoadModel", "mileBy", "[I", true)
  | 28 => ("SnowRoadModel", "wayBy", "[I", true)
  | 29 => ("SnowRoadModel", "scoopBy", "[I", true)
  | 30 => ("SnowRoadModel", "rideBy", "[I", true)
  | 31 => ("SnowRoadModel", "sights", "I", false)
  | 32 => ("SnowRoadModel", "sight", "[I", true)
  | 33 => ("SnowRoadModel", "ways", "[I", true)
  | _ => ("SnowRoadModel", "drawn", "I", false)
def tyX6 : Nat → FieldType := fun k => match k with
  | 0 => .array .int
  | 1 => .array .int
  | 2 => .array .int
  | 3 => .array .int
  | 4 => .int
  | 5 => .array .int
  | 6 => .array .int
  | 7 => .array .int
  | 8 => .array .int
  | 9 => .int
  | 10 => .array .int
  | 11 => .int
  | 12 => .array .int
  | 13 => .int
  | 14 => .int
  | 15 => .array .int
  | 16 => .int
  | 17 => .array .int
  | 18 => .array .int
  | 19 => .array .int
  | 20 => .array .int
  | 21 => .array .int
  | 22 => .array .int
  | 23 => .array .int
  | 24 => .array .int
  | 25 => .array .int
  | 26 => .array .int
  | 27 => .array .int
  | 28 => .array .int
  | 29 => .array .int
  | 30 => .array .int
  | 31 => .int
  | 32 => .array .int
  | 33 => .array .int
  | _ => .int
theorem nmX6 : ∀ a, a < 35 → ∀ b, b < 35 → a ≠ b → (TX6 a).2.1 ≠ (TX6 b).2.1 := by decide +kernel
theorem tyX6_ok : ∀ k, k < 35 → parseFieldDescriptor (TX6 k).2.2.1 = some (tyX6 k) := by decide +kernel
theorem inz_6 : ∀ q ∈ u_ws "SnowRoadModel" TX6 35, q ∈ zt := by
  intro q hq
  have h : u_ws "SnowRoadModel" TX6 35 = [708, 710, 712, 714, 716, 718, 720, 722, 724, 726, 728, 730, 732, 734, 736, 738, 740, 742, 744, 746, 748, 750, 752, 754, 756, 758, 760, 762, 764, 766, 768, 770, 772, 774, 776].filterMap (fun i => tables_1[i]?) := by decide +kernel
  have hg : (u_ws "SnowRoadModel" TX6 35).all goodWord = true := by decide +kernel
  have h1 := List.all_eq_true.mp hg q hq
  rw [h] at hq
  obtain ⟨i, -, hi⟩ := List.mem_filterMap.mp hq
  exact zt_mem i hi h1
abbrev cls7 : List vw_C := [("SnowRoad$Sheet", TX0, 3), ("SnowRoad$Sightings", TX1, 3), ("SnowRoad$Text", TX2, 3), ("SnowRoad$Told", TX3, 13), ("SnowRoad$Winter", TX4, 15), ("SnowRoad", TX5, 12), ("SnowRoadModel", TX6, 35)]
abbrev GX : Type := va_G × (Nat → Nat) × ClassId × ClassId × ClassId × Nat
def ax (g : GX) (k : Nat) : Nat := g.2.1 k
def fz (M : Mem) : Nat := if M 59 0 = 0 then 12 else 57
def tlen (t : Nat) : Nat := if t = 0 then 12 else if t = 1 then 24 else if t = 2 then 15 else 8
def wX (g : GX) (M : Mem) : va_W := [
  (ax g 0, .inr (5, [.ref (ax g 1), .ref (ax g 10), .ref (ax g 20), .ref (ax g 23), .int (M 0 4), .ref (ax g 32), .ref (ax g 44), .int (M 0 7), .ref (ax g 56), .int (M 0 9), .ref (ax g 57), .ref (ax g 58)])),
  (ax g 1, .inl (g.2.2.2.1, 4, .inr (.inr (.inr (.inr (fun i => some (ax g (2 + 2 * i)))))))),
  (ax g 2, .inr (2, [.int (M 2 0), .ref (ax g 3), .int (M 2 2)])),
  (ax g 3, .inl (g.2.2.1, 12, .inl (M 3))),
  (ax g 4, .inr (2, [.int (M 4 0), .ref (ax g 5), .int (M 4 2)])),
  (ax g 5, .inl (g.2.2.1, 24, .inl (M 5))),
  (ax g 6, .inr (2, [.int (M 6 0), .ref (ax g 7), .int (M 6 2)])),
  (ax g 7, .inl (g.2.2.1, 15, .inl (M 7))),
  (ax g 8, .inr (2, [.int (M 8 0), .ref (ax g 9), .int (M 8 2)])),
  (ax g 9, .inl (g.2.2.1, 8, .inl (M 9))),
  (ax g 10, .inr (3, [.ref (ax g 11), .ref (ax g (fz M)), .int (M 10 2), .ref (ax g 13), .ref (ax g 14), .ref (ax g 15), .int (M 10 6), .ref (ax g 16), .int (M 10 8), .int (M 10 9), .ref (ax g 17), .ref (ax g 18), .ref (ax g 19)])),
  (ax g 11, .inl (g.2.2.1, 12, .inl (M 11))),
  (ax g 12, .inl (g.2.2.1, 24, .inl (M 12))),
  (ax g 13, .inl (g.2.2.1, 4, .inl (M 13))),
  (ax g 14, .inl (g.2.2.1, 4, .inl (M 14))),
  (ax g 15, .inl (g.2.2.1, 4, .inl (M 15))),
  (ax g 16, .inl (g.2.2.1, 8, .inl (M 16))),
  (ax g 17, .inl (g.2.2.1, 8, .inl (M 17))),
  (ax g 18, .inl (g.2.2.1, 8, .inl (M 18))),
  (ax g 19, .inl (g.2.2.1, 8, .inl (M 19))),
  (ax g 20, .inr (1, [.ref (ax g 21), .ref (ax g 22), .int (M 20 2)])),
  (ax g 21, .inl (g.2.2.1, 8, .inl (M 21))),
  (ax g 22, .inl (g.2.2.1, 8, .inl (M 22))),
  (ax g 23, .inl (g.2.2.2.2.1, 4, .inr (.inr (.inr (.inr (fun i => some (ax g (24 + 2 * i)))))))),
  (ax g 24, .inr (0, [.ref (ax g 25), .int (M 24 1), .int (M 24 2)])),
  (ax g 25, .inl (g.2.2.1, 60, .inl (M 25))),
  (ax g 26, .inr (0, [.ref (ax g 27), .int (M 26 1), .int (M 26 2)])),
  (ax g 27, .inl (g.2.2.1, 60, .inl (M 27))),
  (ax g 28, .inr (0, [.ref (ax g 29), .int (M 28 1), .int (M 28 2)])),
  (ax g 29, .inl (g.2.2.1, 60, .inl (M 29))),
  (ax g 30, .inr (0, [.ref (ax g 31), .int (M 30 1), .int (M 30 2)])),
  (ax g 31, .inl (g.2.2.1, 60, .inl (M 31))),
  (ax g 32, .inr (4, [.ref (ax g 33), .ref (ax g 34), .ref (ax g 35), .ref (ax g 36), .ref (ax g 37), .ref (ax g 38), .ref (ax g 39), .ref (ax g 40), .int (M 32 8), .ref (ax g 41), .ref (ax g 42), .ref (ax g 43), .int (M 32 12), .int (M 32 13), .int (M 32 14)])),
  (ax g 33, .inl (g.2.2.1, 288, .inl (M 33))),
  (ax g 34, .inl (g.2.2.1, 96, .inl (M 34))),
  (ax g 35, .inl (g.2.2.1, 96, .inl (M 35))),
  (ax g 36, .inl (g.2.2.1, 96, .inl (M 36))),
  (ax g 37, .inl (g.2.2.1, 4, .inl (M 37))),
  (ax g 38, .inl (g.2.2.1, 4, .inl (M 38))),
  (ax g 39, .inl (g.2.2.1, 24, .inl (M 39))),
  (ax g 40, .inl (g.2.2.1, 24, .inl (M 40))),
  (ax g 41, .inl (g.2.2.1, 12, .inl (M 41))),
  (ax g 42, .inl (g.2.2.1, 4, .inl (M 42))),
  (ax g 43, .inl (g.2.2.1, 4, .inl (M 43))),
  (ax g 44, .inr (4, [.ref (ax g 45), .ref (ax g 46), .ref (ax g 47), .ref (ax g 48), .ref (ax g 49), .ref (ax g 50), .ref (ax g 51), .ref (ax g 52), .int (M 44 8), .ref (ax g 53), .ref (ax g 54), .ref (ax g 55), .int (M 44 12), .int (M 44 13), .int (M 44 14)])),
  (ax g 45, .inl (g.2.2.1, 288, .inl (M 45))),
  (ax g 46, .inl (g.2.2.1, 96, .inl (M 46))),
  (ax g 47, .inl (g.2.2.1, 96, .inl (M 47))),
  (ax g 48, .inl (g.2.2.1, 96, .inl (M 48))),
  (ax g 49, .inl (g.2.2.1, 4, .inl (M 49))),
  (ax g 50, .inl (g.2.2.1, 4, .inl (M 50))),
  (ax g 51, .inl (g.2.2.1, 24, .inl (M 51))),
  (ax g 52, .inl (g.2.2.1, 24, .inl (M 52))),
  (ax g 53, .inl (g.2.2.1, 12, .inl (M 53))),
  (ax g 54, .inl (g.2.2.1, 4, .inl (M 54))),
  (ax g 55, .inl (g.2.2.1, 4, .inl (M 55))),
  (ax g 56, .inl (g.2.2.1, 72, .inl (M 56))),
  (ax g 57, .inl (g.2.2.1, 24, .inl (M 57))),
  (ax g 58, .inl (g.2.2.1, 2592, .inl (M 58)))]
def wR (g : GX) (M : Mem) : va_W := [
  (ax g 0, .inr (6, [.ref (ax g 1), .ref (ax g 2), .ref (ax g 3), .ref (ax g 4), .int (M 0 4), .ref (ax g 5), .ref (ax g 6), .ref (ax g 7), .ref (ax g 8), .int (M 0 9), .ref (ax g 9), .int (M 0 11), .ref (ax g 10), .int (M 0 13), .int (M 0 14), .ref (ax g 11), .int (M 0 16), .ref (ax g 12), .ref (ax g 13), .ref (ax g 14), .ref (ax g 15), .ref (ax g 16), .ref (ax g 17), .ref (ax g 18), .ref (ax g 19), .ref (ax g 20), .ref (ax g 21), .ref (ax g 22), .ref (ax g 23), .ref (ax g 24), .ref (ax g 25), .int (M 0 31), .ref (ax g 26), .ref (ax g 27), .int (M 0 34)])),
  (ax g 1, .inl (g.2.2.1, 4, .inl (M 1))),
  (ax g 2, .inl (g.2.2.1, 4, .inl (M 2))),
  (ax g 3, .inl (g.2.2.1, 240, .inl (M 3))),
  (ax g 4, .inl (g.2.2.1, 60, .inl (M 4))),
  (ax g 5, .inl (g.2.2.1, 96, .inl (M 5))),
  (ax g 6, .inl (g.2.2.1, 4, .inl (M 6))),
  (ax g 7, .inl (g.2.2.1, 12, .inl (M 7))),
  (ax g 8, .inl (g.2.2.1, 24, .inl (M 8))),
  (ax g 9, .inl (g.2.2.1, 12, .inl (M 9))),
  (ax g 10, .inl (g.2.2.1, 8, .inl (M 10))),
  (ax g 11, .inl (g.2.2.1, 24, .inl (M 11))),
  (ax g 12, .inl (g.2.2.1, 12, .inl (M 12))),
  (ax g 13, .inl (g.2.2.1, 12, .inl (M 13))),
  (ax g 14, .inl (g.2.2.1, 4, .inl (M 14))),
  (ax g 15, .inl (g.2.2.1, 4, .inl (M 15))),
  (ax g 16, .inl (g.2.2.1, 4, .inl (M 16))),
  (ax g 17, .inl (g.2.2.1, 4, .inl (M 17))),
  (ax g 18, .inl (g.2.2.1, 8, .inl (M 18))),
  (ax g 19, .inl (g.2.2.1, 8, .inl (M 19))),
  (ax g 20, .inl (g.2.2.1, 8, .inl (M 20))),
  (ax g 21, .inl (g.2.2.1, 288, .inl (M 21))),
  (ax g 22, .inl (g.2.2.1, 96, .inl (M 22))),
  (ax g 23, .inl (g.2.2.1, 96, .inl (M 23))),
  (ax g 24, .inl (g.2.2.1, 96, .inl (M 24))),
  (ax g 25, .inl (g.2.2.1, 192, .inl (M 25))),
  (ax g 26, .inl (g.2.2.1, 24, .inl (M 26))),
  (ax g 27, .inl (g.2.2.1, 2880, .inl (M 27)))]
def oX (g : GX) : ZW := (g.1, cls7, [(g.2.2.1, .int), (g.2.2.2.1, .object "SnowRoad$Text"), (g.2.2.2.2.1, .object "SnowRoad$Sheet")], wX g, g.2.2.2.2.2)
theorem oX_ok (g : GX) : Zok (oX g) := by
  intro M M' k
  have h : ∀ M : Mem, ((oX g).2.2.2.1 M).map Prod.fst = (List.range 59).map (ax g) := fun M => rfl
  rw [← List.getElem?_map, ← List.getElem?_map, h M, h M']
def oR (g : GX) : ZW := (g.1, cls7, [(g.2.2.1, .int), (g.2.2.2.1, .object "SnowRoad$Text"), (g.2.2.2.2.1, .object "SnowRoad$Sheet")], wR g, g.2.2.2.2.2)
theorem oR_ok (g : GX) : Zok (oR g) := by
  intro M M' k
  have h : ∀ M : Mem, ((oR g).2.2.2.1 M).map Prod.fst = (List.range 28).map (ax g) := fun M => rfl
  rw [← List.getElem?_map, ← List.getElem?_map, h M, h M']
theorem le_XH {g : GX} {M : Mem} {s : Nat} (hs : s < 4) : ((oX g).2.2.2.1 M)[(24 + 2 * s)]? = some (ax g (24 + 2 * s), .inr (0, [.ref (ax g (25 + 2 * s)), .int (M (24 + 2 * s) 1), .int (M (24 + 2 * s) 2)])) := by
  rcases s with _ | _ | _ | _ | s
  · rfl
  · rfl
  · rfl
  · rfl
  · omega
theorem sf_XH_1 {g : GX} {M : Mem} {s : Nat} (hs : s < 4) (v : Int32) : ((oX g).2.2.2.1 M).set (24 + 2 * s) (ax g (24 + 2 * s), .inr (0, (([.ref (ax g (25 + 2 * s)), .int (M (24 + 2 * s) 1), .int (M (24 + 2 * s) 2)] : List Value).set 1 (.int v)))) = (oX g).2.2.2.1 (upm M (24 + 2 * s) 1 v) := by
  rcases s with _ | _ | _ | _ | s
  · rfl
  · rfl
  · rfl
  · rfl
  · omega
theorem sf_XH_2 {g : GX} {M : Mem} {s : Nat} (hs : s < 4) (v : Int32) : ((oX g).2.2.2.1 M).set (24 + 2 * s) (ax g (24 + 2 * s), .inr (0, (([.ref (ax g (25 + 2 * s)), .int (M (24 + 2 * s) 1), .int (M (24 + 2 * s) 2)] : List Value).set 2 (.int v)))) = (oX g).2.2.2.1 (upm M (24 + 2 * s) 2 v) := by
  rcases s with _ | _ | _ | _ | s
  · rfl
  · rfl
  · rfl
  · rfl
  · omega
theorem le_XG {g : GX} {M : Mem}  : ((oX g).2.2.2.1 M)[20]? = some (ax g 20, .inr (1, [.ref (ax g 21), .ref (ax g 22), .int (M 20 2)])) := by rfl
theorem sf_XG_2 {g : GX} {M : Mem}  (v : Int32) : ((oX g).2.2.2.1 M).set 20 (ax g 20, .inr (1, (([.ref (ax g 21), .ref (ax g 22), .int (M 20 2)] : List Value).set 2 (.int v)))) = (oX g).2.2.2.1 (upm M 20 2 v) := by rfl
theorem le_XT {g : GX} {M : Mem} {t : Nat} (ht : t < 4) : ((oX g).2.2.2.1 M)[(2 + 2 * t)]? = some (ax g (2 + 2 * t), .inr (2, [.int (M (2 + 2 * t) 0), .ref (ax g (3 + 2 * t)), .int (M (2 + 2 * t) 2)])) := by
  rcases t with _ | _ | _ | _ | t
  · rfl
  · rfl
  · rfl
  · rfl
  · omega
theorem sf_XT_2 {g : GX} {M : Mem} {t : Nat} (ht : t < 4) (v : Int32) : ((oX g).2.2.2.1 M).set (2 + 2 * t) (ax g (2 + 2 * t), .inr (2, (([.int (M (2 + 2 * t) 0), .ref (ax g (3 + 2 * t)), .int (M (2 + 2 * t) 2)] : List Value).set 2 (.int v)))) = (oX g).2.2.2.1 (upm M (2 + 2 * t) 2 v) := by
  rcases t with _ | _ | _ | _ | t
  · rfl
  · rfl
  · rfl
  · rfl
  · omega
theorem le_XO {g : GX} {M : Mem}  : ((oX g).2.2.2.1 M)[10]? = some (ax g 10, .inr (3, [.ref (ax g 11), .ref (ax g (fz M)), .int (M 10 2), .ref (ax g 13), .ref (ax g 14), .ref (ax g 15), .int (M 10 6), .ref (ax g 16), .int (M 10 8), .int (M 10 9), .ref (ax g 17), .ref (ax g 18), .ref (ax g 19)])) := by rfl
theorem sf_XO_2 {g : GX} {M : Mem}  (v : Int32) : ((oX g).2.2.2.1 M).set 10 (ax g 10, .inr (3, (([.ref (ax g 11), .ref (ax g (fz M)), .int (M 10 2), .ref (ax g 13), .ref (ax g 14), .ref (ax g 15), .int (M 10 6), .ref (ax g 16), .int (M 10 8), .int (M 10 9), .ref (ax g 17), .ref (ax g 18), .ref (ax g 19)] : List Value).set 2 (.int v)))) = (oX g).2.2.2.1 (upm M 10 2 v) := by rfl
theorem sf_XO_6 {g : GX} {M : Mem}  (v : Int32) : ((oX g).2.2.2.1 M).set 10 (ax g 10, .inr (3, (([.ref (ax g 11), .ref (ax g (fz M)), .int (M 10 2), .ref (ax g 13), .ref (ax g 14), .ref (ax g 15), .int (M 10 6), .ref (ax g 16), .int (M 10 8), .int (M 10 9), .ref (ax g 17), .ref (ax g 18), .ref (ax g 19)] : List Value).set 6 (.int v)))) = (oX g).2.2.2.1 (upm M 10 6 v) := by rfl
theorem sf_XO_8 {g : GX} {M : Mem}  (v : Int32) : ((oX g).2.2.2.1 M).set 10 (ax g 10, .inr (3, (([.ref (ax g 11), .ref (ax g (fz M)), .int (M 10 2), .ref (ax g 13), .ref (ax g 14), .ref (ax g 15), .int (M 10 6), .ref (ax g 16), .int (M 10 8), .int (M 10 9), .ref (ax g 17), .ref (ax g 18), .ref (ax g 19)] : List Value).set 8 (.int v)))) = (oX g).2.2.2.1 (upm M 10 8 v) := by rfl
theorem sf_XO_9 {g : GX} {M : Mem}  (v : Int32) : ((oX g).2.2.2.1 M).set 10 (ax g 10, .inr (3, (([.ref (ax g 11), .ref (ax g (fz M)), .int (M 10 2), .ref (ax g 13), .ref (ax g 14), .ref (ax g 15), .int (M 10 6), .ref (ax g 16), .int (M 10 8), .int (M 10 9), .ref (ax g 17), .ref (ax g 18), .ref (ax g 19)] : List Value).set 9 (.int v)))) = (oX g).2.2.2.1 (upm M 10 9 v) := by rfl
theorem le_XW {g : GX} {M : Mem} {w : Nat} (hw : w = 32 ∨ w = 44) : ((oX g).2.2.2.1 M)[w]? = some (ax g w, .inr (4, [.ref (ax g (w + 1)), .ref (ax g (w + 2)), .ref (ax g (w + 3)), .ref (ax g (w + 4)), .ref (ax g (w + 5)), .ref (ax g (w + 6)), .ref (ax g (w + 7)), .ref (ax g (w + 8)), .int (M w 8), .ref (ax g (w + 9)), .ref (ax g (w + 10)), .ref (ax g (w + 11)), .int (M w 12), .int (M w 13), .int (M w 14)])) := by
  rcases hw with rfl | rfl
  · rfl
  · rfl
theorem sf_XW_8 {g : GX} {M : Mem} {w : Nat} (hw : w = 32 ∨ w = 44) (v : Int32) : ((oX g).2.2.2.1 M).set w (ax g w, .inr (4, (([.ref (ax g (w + 1)), .ref (ax g (w + 2)), .ref (ax g (w + 3)), .ref (ax g (w + 4)), .ref (ax g (w + 5)), .ref (ax g (w + 6)), .ref (ax g (w + 7)), .ref (ax g (w + 8)), .int (M w 8), .ref (ax g (w + 9)), .ref (ax g (w + 10)), .ref (ax g (w + 11)), .int (M w 12), .int (M w 13), .int (M w 14)] : List Value).set 8 (.int v)))) = (oX g).2.2.2.1 (upm M w 8 v) := by
  rcases hw with rfl | rfl
  · rfl
  · rfl
theorem sf_XW_12 {g : GX} {M : Mem} {w : Nat} (hw : w = 32 ∨ w = 44) (v : Int32) : ((oX g).2.2.2.1 M).set w (ax g w, .inr (4, (([.ref (ax g (w + 1)), .ref (ax g (w + 2)), .ref (ax g (w + 3)), .ref (ax g (w + 4)), .ref (ax g (w + 5)), .ref (ax g (w + 6)), .ref (ax g (w + 7)), .ref (ax g (w + 8)), .int (M w 8), .ref (ax g (w + 9)), .ref (ax g (w + 10)), .ref (ax g (w + 11)), .int (M w 12), .int (M w 13), .int (M w 14)] : List Value).set 12 (.int v)))) = (oX g).2.2.2.1 (upm M w 12 v) := by
  rcases hw with rfl | rfl
  · rfl
  · rfl
theorem sf_XW_13 {g : GX} {M : Mem} {w : Nat} (hw : w = 32 ∨ w = 44) (v : Int32) : ((oX g).2.2.2.1 M).set w (ax g w, .inr (4, (([.ref (ax g (w + 1)), .ref (ax g (w + 2)), .ref (ax g (w + 3)), .ref (ax g (w + 4)), .ref (ax g (w + 5)), .ref (ax g (w + 6)), .ref (ax g (w + 7)), .ref (ax g (w + 8)), .int (M w 8), .ref (ax g (w + 9)), .ref (ax g (w + 10)), .ref (ax g (w + 11)), .int (M w 12), .int (M w 13), .int (M w 14)] : List Value).set 13 (.int v)))) = (oX g).2.2.2.1 (upm M w 13 v) := by
  rcases hw with rfl | rfl
  · rfl
  · rfl
theorem sf_XW_14 {g : GX} {M : Mem} {w : Nat} (hw : w = 32 ∨ w = 44) (v : Int32) : ((oX g).2.2.2.1 M).set w (ax g w, .inr (4, (([.ref (ax g (w + 1)), .ref (ax g (w + 2)), .ref (ax g (w + 3)), .ref (ax g (w + 4)), .ref (ax g (w + 5)), .ref (ax g (w + 6)), .ref (ax g (w + 7)), .ref (ax g (w + 8)), .int (M w 8), .ref (ax g (w + 9)), .ref (ax g (w + 10)), .ref (ax g (w + 11)), .int (M w 12), .int (M w 13), .int (M w 14)] : List Value).set 14 (.int v)))) = (oX g).2.2.2.1 (upm M w 14 v) := by
  rcases hw with rfl | rfl
  · rfl
  · rfl
theorem le_X {g : GX} {M : Mem}  : ((oX g).2.2.2.1 M)[0]? = some (ax g 0, .inr (5, [.ref (ax g 1), .ref (ax g 10), .ref (ax g 20), .ref (ax g 23), .int (M 0 4), .ref (ax g 32), .ref (ax g 44), .int (M 0 7), .ref (ax g 56), .int (M 0 9), .ref (ax g 57), .ref (ax g 58)])) := by rfl
theorem sf_X_4 {g : GX} {M : Mem}  (v : Int32) : ((oX g).2.2.2.1 M).set 0 (ax g 0, .inr (5, (([.ref (ax g 1), .ref (ax g 10), .ref (ax g 20), .ref (ax g 23), .int (M 0 4), .ref (ax g 32), .ref (ax g 44), .int (M 0 7), .ref (ax g 56), .int (M 0 9), .ref (ax g 57), .ref (ax g 58)] : List Value).set 4 (.int v)))) = (oX g).2.2.2.1 (upm M 0 4 v) := by rfl
theorem sf_X_7 {g : GX} {M : Mem}  (v : Int32) : ((oX g).2.2.2.1 M).set 0 (ax g 0, .inr (5, (([.ref (ax g 1), .ref (ax g 10), .ref (ax g 20), .ref (ax g 23), .int (M 0 4), .ref (ax g 32), .ref (ax g 44), .int (M 0 7), .ref (ax g 56), .int (M 0 9), .ref (ax g 57), .ref (ax g 58)] : List Value).set 7 (.int v)))) = (oX g).2.2.2.1 (upm M 0 7 v) := by rfl
theorem sf_X_9 {g : GX} {M : Mem}  (v : Int32) : ((oX g).2.2.2.1 M).set 0 (ax g 0, .inr (5, (([.ref (ax g 1), .ref (ax g 10), .ref (ax g 20), .ref (ax g 23), .int (M 0 4), .ref (ax g 32), .ref (ax g 44), .int (M 0 7), .ref (ax g 56), .int (M 0 9), .ref (ax g 57), .ref (ax g 58)] : List Value).set 9 (.int v)))) = (oX g).2.2.2.1 (upm M 0 9 v) := by rfl
theorem le_R {g : GX} {M : Mem}  : ((oR g).2.2.2.1 M)[0]? = some (ax g 0, .inr (6, [.ref (ax g 1), .ref (ax g 2), .ref (ax g 3), .ref (ax g 4), .int (M 0 4), .ref (ax g 5), .ref (ax g 6), .ref (ax g 7), .ref (ax g 8), .int (M 0 9), .ref (ax g 9), .int (M 0 11), .ref (ax g 10), .int (M 0 13), .int (M 0 14), .ref (ax g 11), .int (M 0 16), .ref (ax g 12), .ref (ax g 13), .ref (ax g 14), .ref (ax g 15), .ref (ax g 16), .ref (ax g 17), .ref (ax g 18), .ref (ax g 19), .ref (ax g 20), .ref (ax g 21), .ref (ax g 22), .ref (ax g 23), .ref (ax g 24), .ref (ax g 25), .int (M 0 31), .ref (ax g 26), .ref (ax g 27), .int (M 0 34)])) := by rfl
theorem sf_R_4 {g : GX} {M : Mem}  (v : Int32) : ((oR g).2.2.2.1 M).set 0 (ax g 0, .inr (6, (([.ref (ax g 1), .ref (ax g 2), .ref (ax g 3), .ref (ax g 4), .int (M 0 4), .ref (ax g 5), .ref (ax g 6), .ref (ax g 7), .ref (ax g 8), .int (M 0 9), .ref (ax g 9), .int (M 0 11), .ref (ax g 10), .int (M 0 13), .int (M 0 14), .ref (ax g 11), .int (M 0 16), .ref (ax g 12), .ref (ax g 13), .ref (ax g 14), .ref (ax g 15), .ref (ax g 16), .ref (ax g 17), .ref (ax g 18), .ref (ax g 19), .ref (ax g 20), .ref (ax g 21), .ref (ax g 22), .ref (ax g 23), .ref (ax g 24), .ref (ax g 25), .int (M 0 31), .ref (ax g 26), .ref (ax g 27), .int (M 0 34)] : List Value).set 4 (.int v)))) = (oR g).2.2.2.1 (upm M 0 4 v) := by rfl
theorem sf_R_9 {g : GX} {M : Mem}  (v : Int32) : ((oR g).2.2.2.1 M).set 0 (ax g 0, .inr (6, (([.ref (ax g 1), .ref (ax g 2), .ref (ax g 3), .ref (ax g 4), .int (M 0 4), .ref (ax g 5), .ref (ax g 6), .ref (ax g 7), .ref (ax g 8), .int (M 0 9), .ref (ax g 9), .int (M 0 11), .ref (ax g 10), .int (M 0 13), .int (M 0 14), .ref (ax g 11), .int (M 0 16), .ref (ax g 12), .ref (ax g 13), .ref (ax g 14), .ref (ax g 15), .ref (ax g 16), .ref (ax g 17), .ref (ax g 18), .ref (ax g 19), .ref (ax g 20), .ref (ax g 21), .ref (ax g 22), .ref (ax g 23), .ref (ax g 24), .ref (ax g 25), .int (M 0 31), .ref (ax g 26), .ref (ax g 27), .int (M 0 34)] : List Value).set 9 (.int v)))) = (oR g).2.2.2.1 (upm M 0 9 v) := by rfl
theorem sf_R_11 {g : GX} {M : Mem}  (v : Int32) : ((oR g).2.2.2.1 M).set 0 (ax g 0, .inr (6, (([.ref (ax g 1), .ref (ax g 2), .ref (ax g 3), .ref (ax g 4), .int (M 0 4), .ref (ax g 5), .ref (ax g 6), .ref (ax g 7), .ref (ax g 8), .int (M 0 9), .ref (ax g 9), .int (M 0 11), .ref (ax g 10), .int (M 0 13), .int (M 0 14), .ref (ax g 11), .int (M 0 16), .ref (ax g 12), .ref (ax g 13), .ref (ax g 14), .ref (ax g 15), .ref (ax g 16), .ref (ax g 17), .ref (ax g 18), .ref (ax g 19), .ref (ax g 20), .ref (ax g 21), .ref (ax g 22), .ref (ax g 23), .ref (ax g 24), .ref (ax g 25), .int (M 0 31), .ref (ax g 26), .ref (ax g 27), .int (M 0 34)] : List Value).set 11 (.int v)))) = (oR g).2.2.2.1 (upm M 0 11 v) := by rfl
theorem sf_R_13 {g : GX} {M : Mem}  (v : Int32) : ((oR g).2.2.2.1 M).set 0 (ax g 0, .inr (6, (([.ref (ax g 1), .ref (ax g 2), .ref (ax g 3), .ref (ax g 4), .int (M 0 4), .ref (ax g 5), .ref (ax g 6), .ref (ax g 7), .ref (ax g 8), .int (M 0 9), .ref (ax g 9), .int (M 0 11), .ref (ax g 10), .int (M 0 13), .int (M 0 14), .ref (ax g 11), .int (M 0 16), .ref (ax g 12), .ref (ax g 13), .ref (ax g 14), .ref (ax g 15), .ref (ax g 16), .ref (ax g 17), .ref (ax g 18), .ref (ax g 19), .ref (ax g 20), .ref (ax g 21), .ref (ax g 22), .ref (ax g 23), .ref (ax g 24), .ref (ax g 25), .int (M 0 31), .ref (ax g 26), .ref (ax g 27), .int (M 0 34)] : List Value).set 13 (.int v)))) = (oR g).2.2.2.1 (upm M 0 13 v) := by rfl
theorem sf_R_14 {g : GX} {M : Mem}  (v : Int32) : ((oR g).2.2.2.1 M).set 0 (ax g 0, .inr (6, (([.ref (ax g 1), .ref (ax g 2), .ref (ax g 3), .ref (ax g 4), .int (M 0 4), .ref (ax g 5), .ref (ax g 6), .ref (ax g 7), .ref (ax g 8), .int (M 0 9), .ref (ax g 9), .int (M 0 11), .ref (ax g 10), .int (M 0 13), .int (M 0 14), .ref (ax g 11), .int (M 0 16), .ref (ax g 12), .ref (ax g 13), .ref (ax g 14), .ref (ax g 15), .ref (ax g 16), .ref (ax g 17), .ref (ax g 18), .ref (ax g 19), .ref (ax g 20), .ref (ax g 21), .ref (ax g 22), .ref (ax g 23), .ref (ax g 24), .ref (ax g 25), .int (M 0 31), .ref (ax g 26), .ref (ax g 27), .int (M 0 34)] : List Value).set 14 (.int v)))) = (oR g).2.2.2.1 (upm M 0 14 v) := by rfl
theorem sf_R_16 {g : GX} {M : Mem}  (v : Int32) : ((oR g).2.2.2.1 M).set 0 (ax g 0, .inr (6, (([.ref (ax g 1), .ref (ax g 2), .ref (ax g 3), .ref (ax g 4), .int (M 0 4), .ref (ax g 5), .ref (ax g 6), .ref (ax g 7), .ref (ax g 8), .int (M 0 9), .ref (ax g 9), .int (M 0 11), .ref (ax g 10), .int (M 0 13), .int (M 0 14), .ref (ax g 11), .int (M 0 16), .ref (ax g 12), .ref (ax g 13), .ref (ax g 14), .ref (ax g 15), .ref (ax g 16), .ref (ax g 17), .ref (ax g 18), .ref (ax g 19), .ref (ax g 20), .ref (ax g 21), .ref (ax g 22), .ref (ax g 23), .ref (ax g 24), .ref (ax g 25), .int (M 0 31), .ref (ax g 26), .ref (ax g 27), .int (M 0 34)] : List Value).set 16 (.int v)))) = (oR g).2.2.2.1 (upm M 0 16 v) := by rfl
theorem sf_R_31 {g : GX} {M : Mem}  (v : Int32) : ((oR g).2.2.2.1 M).set 0 (ax g 0, .inr (6, (([.ref (ax g 1), .ref (ax g 2), .ref (ax g 3), .ref (ax g 4), .int (M 0 4), .ref (ax g 5), .ref (ax g 6), .ref (ax g 7), .ref (ax g 8), .int (M 0 9), .ref (ax g 9), .int (M 0 11), .ref (ax g 10), .int (M 0 13), .int (M 0 14), .ref (ax g 11), .int (M 0 16), .ref (ax g 12), .ref (ax g 13), .ref (ax g 14), .ref (ax g 15), .ref (ax g 16), .ref (ax g 17), .ref (ax g 18), .ref (ax g 19), .ref (ax g 20), .ref (ax g 21), .ref (ax g 22), .ref (ax g 23), .ref (ax g 24), .ref (ax g 25), .int (M 0 31), .ref (ax g 26), .ref (ax g 27), .int (M 0 34)] : List Value).set 31 (.int v)))) = (oR g).2.2.2.1 (upm M 0 31 v) := by rfl
theorem sf_R_34 {g : GX} {M : Mem}  (v : Int32) : ((oR g).2.2.2.1 M).set 0 (ax g 0, .inr (6, (([.ref (ax g 1), .ref (ax g 2), .ref (ax g 3), .ref (ax g 4), .int (M 0 4), .ref (ax g 5), .ref (ax g 6), .ref (ax g 7), .ref (ax g 8), .int (M 0 9), .ref (ax g 9), .int (M 0 11), .ref (ax g 10), .int (M 0 13), .int (M 0 14), .ref (ax g 11), .int (M 0 16), .ref (ax g 12), .ref (ax g 13), .ref (ax g 14), .ref (ax g 15), .ref (ax g 16), .ref (ax g 17), .ref (ax g 18), .ref (ax g 19), .ref (ax g 20), .ref (ax g 21), .ref (ax g 22), .ref (ax g 23), .ref (ax g 24), .ref (ax g 25), .int (M 0 31), .ref (ax g 26), .ref (ax g 27), .int (M 0 34)] : List Value).set 34 (.int v)))) = (oR g).2.2.2.1 (upm M 0 34 v) := by rfl
theorem zar_r1 {g : GX} : Zar (oR g) g.2.2.1 1 (ax g 1) 4 := ⟨rfl, fun _ => rfl, fun _ _ => rfl⟩
theorem zar_r10 {g : GX} : Zar (oR g) g.2.2.1 10 (ax g 10) 8 := ⟨rfl, fun _ => rfl, fun _ _ => rfl⟩
theorem zar_r11 {g : GX} : Zar (oR g) g.2.2.1 11 (ax g 11) 24 := ⟨rfl, fun _ => rfl, fun _ _ => rfl⟩
theorem zar_r12 {g : GX} : Zar (oR g) g.2.2.1 12 (ax g 12) 12 := ⟨rfl, fun _ => rfl, fun _ _ => rfl⟩
theorem zar_r13 {g : GX} : Zar (oR g) g.2.2.1 13 (ax g 13) 12 := ⟨rfl, fun _ => rfl, fun _ _ => rfl⟩
theorem zar_r14 {g : GX} : Zar (oR g) g.2.2.1 14 (ax g 14) 4 := ⟨rfl, fun _ => rfl, fun _ _ => rfl⟩
theorem zar_r15 {g : GX} : Zar (oR g) g.2.2.1 15 (ax g 15) 4 := ⟨rfl, fun _ => rfl, fun _ _ => rfl⟩
theorem zar_r16 {g : GX} : Zar (oR g) g.2.2.1 16 (ax g 16) 4 := ⟨rfl, fun _ => rfl, fun _ _ => rfl⟩
theorem zar_r17 {g : GX} : Zar (oR g) g.2.2.1 17 (ax g 17) 4 := ⟨rfl, fun _ => rfl, fun _ _ => rfl⟩
theorem zar_r18 {g : GX} : Zar (oR g) g.2.2.1 18 (ax g 18) 8 := ⟨rfl, fun _ => rfl, fun _ _ => rfl⟩
theorem zar_r19 {g : GX} : Zar (oR g) g.2.2.1 19 (ax g 19) 8 := ⟨rfl, fun _ => rfl, fun _ _ => rfl⟩
theorem zar_r2 {g : GX} : Zar (oR g) g.2.2.1 2 (ax g 2) 4 := ⟨rfl, fun _ => rfl, fun _ _ => rfl⟩
theorem zar_r20 {g : GX} : Zar (oR g) g.2.2.1 20 (ax g 20) 8 := ⟨rfl, fun _ => rfl, fun _ _ => rfl⟩
theorem zar_r21 {g : GX} : Zar (oR g) g.2.2.1 21 (ax g 21) 288 := ⟨rfl, fun _ => rfl, fun _ _ => rfl⟩
theorem zar_r22 {g : GX} : Zar (oR g) g.2.2.1 22 (ax g 22) 96 := ⟨rfl, fun _ => rfl, fun _ _ => rfl⟩
theorem zar_r23 {g : GX} : Zar (oR g) g.2.2.1 23 (ax g 23) 96 := ⟨rfl, fun _ => rfl, fun _ _ => rfl⟩
theorem zar_r24 {g : GX} : Zar (oR g) g.2.2.1 24 (ax g 24) 96 := ⟨rfl, fun _ => rfl, fun _ _ => rfl⟩
theorem zar_r25 {g : GX} : Zar (oR g) g.2.2.1 25 (ax g 25) 192 := ⟨rfl, fun _ => rfl, fun _ _ => rfl⟩
theorem zar_r26 {g : GX} : Zar (oR g) g.2.2.1 26 (ax g 26) 24 := ⟨rfl, fun _ => rfl, fun _ _ => rfl⟩
theorem zar_r27 {g : GX} : Zar (oR g) g.2.2.1 27 (ax g 27) 2880 := ⟨rfl, fun _ => rfl, fun _ _ => rfl⟩
theorem zar_r3 {g : GX} : Zar (oR g) g.2.2.1 3 (ax g 3) 240 := ⟨rfl, fun _ => rfl, fun _ _ => rfl⟩
theorem zar_r4 {g : GX} : Zar (oR g) g.2.2.1 4 (ax g 4) 60 := ⟨rfl, fun _ => rfl, fun _ _ => rfl⟩
theorem zar_r5 {g : GX} : Zar (oR g) g.2.2.1 5 (ax g 5) 96 := ⟨rfl, fun _ => rfl, fun _ _ => rfl⟩
theorem zar_r6 {g : GX} : Zar (oR g) g.2.2.1 6 (ax g 6) 4 := ⟨rfl, fun _ => rfl, fun _ _ => rfl⟩
theorem zar_r7 {g : GX} : Zar (oR g) g.2.2.1 7 (ax g 7) 12 := ⟨rfl, fun _ => rfl, fun _ _ => rfl⟩
theorem zar_r8 {g : GX} : Zar (oR g) g.2.2.1 8 (ax g 8) 24 := ⟨rfl, fun _ => rfl, fun _ _ => rfl⟩
theorem zar_r9 {g : GX} : Zar (oR g) g.2.2.1 9 (ax g 9) 12 := ⟨rfl, fun _ => rfl, fun _ _ => rfl⟩
theorem zar_x11 {g : GX} : Zar (oX g) g.2.2.1 11 (ax g 11) 12 := ⟨rfl, fun _ => rfl, fun _ _ => rfl⟩
theorem zar_x13 {g : GX} : Zar (oX g) g.2.2.1 13 (ax g 13) 4 := ⟨rfl, fun _ => rfl, fun _ _ => rfl⟩
theorem zar_x14 {g : GX} : Zar (oX g) g.2.2.1 14 (ax g 14) 4 := ⟨rfl, fun _ => rfl, fun _ _ => rfl⟩
theorem zar_x15 {g : GX} : Zar (oX g) g.2.2.1 15 (ax g 15) 4 := ⟨rfl, fun _ => rfl, fun _ _ => rfl⟩
theorem zar_x16 {g : GX} : Zar (oX g) g.2.2.1 16 (ax g 16) 8 := ⟨rfl, fun _ => rfl, fun _ _ => rfl⟩
theorem zar_x17 {g : GX} : Zar (oX g) g.2.2.1 17 (ax g 17) 8 := ⟨rfl, fun _ => rfl, fun _ _ => rfl⟩
theorem zar_x18 {g : GX} : Zar (oX g) g.2.2.1 18 (ax g 18) 8 := ⟨rfl, fun _ => rfl, fun _ _ => rfl⟩
theorem zar_x19 {g : GX} : Zar (oX g) g.2.2.1 19 (ax g 19) 8 := ⟨rfl, fun _ => rfl, fun _ _ => rfl⟩
theorem zar_x21 {g : GX} : Zar (oX g) g.2.2.1 21 (ax g 21) 8 := ⟨rfl, fun _ => rfl, fun _ _ => rfl⟩
theorem zar_x22 {g : GX} : Zar (oX g) g.2.2.1 22 (ax g 22) 8 := ⟨rfl, fun _ => rfl, fun _ _ => rfl⟩
theorem zar_x56 {g : GX} : Zar (oX g) g.2.2.1 56 (ax g 56) 72 := ⟨rfl, fun _ => rfl, fun _ _ => rfl⟩
theorem zar_x57 {g : GX} : Zar (oX g) g.2.2.1 57 (ax g 57) 24 := ⟨rfl, fun _ => rfl, fun _ _ => rfl⟩
theorem zar_x58 {g : GX} : Zar (oX g) g.2.2.1 58 (ax g 58) 2592 := ⟨rfl, fun _ => rfl, fun _ _ => rfl⟩
theorem zar_xF {g : GX} {M0 : Mem} : Zar (oX g) g.2.2.1 (fz M0) (ax g (fz M0)) 24 := by
  unfold fz
  split
  · exact ⟨rfl, fun _ => rfl, fun _ _ => rfl⟩
  · exact ⟨rfl, fun _ => rfl, fun _ _ => rfl⟩
theorem zar_xSI {g : GX} {s : Nat} (hs : s < 4) : Zar (oX g) g.2.2.1 (25 + 2 * s) (ax g (25 + 2 * s)) 60 := by
  rcases s with _ | _ | _ | _ | s
  · exact ⟨rfl, fun _ => rfl, fun _ _ => rfl⟩
  · exact ⟨rfl, fun _ => rfl, fun _ _ => rfl⟩
  · exact ⟨rfl, fun _ => rfl, fun _ _ => rfl⟩
  · exact ⟨rfl, fun _ => rfl, fun _ _ => rfl⟩
  · omega
theorem zar_xTB {g : GX} {t : Nat} (ht : t < 4) : Zar (oX g) g.2.2.1 (3 + 2 * t) (ax g (3 + 2 * t)) (tlen t) := by
  rcases t with _ | _ | _ | _ | t
  · exact ⟨rfl, fun _ => rfl, fun _ _ => rfl⟩
  · exact ⟨rfl, fun _ => rfl, fun _ _ => rfl⟩
  · exact ⟨rfl, fun _ => rfl, fun _ _ => rfl⟩
  · exact ⟨rfl, fun _ => rfl, fun _ _ => rfl⟩
  · omega
theorem zar_xW1 {g : GX} {w : Nat} (hw : w = 32 ∨ w = 44) : Zar (oX g) g.2.2.1 (w + 1) (ax g (w + 1)) 288 := by
  rcases hw with rfl | rfl
  · exact ⟨rfl, fun _ => rfl, fun _ _ => rfl⟩
  · exact ⟨rfl, fun _ => rfl, fun _ _ => rfl⟩
theorem zar_xW10 {g : GX} {w : Nat} (hw : w = 32 ∨ w = 44) : Zar (oX g) g.2.2.1 (w + 10) (ax g (w + 10)) 4 := by
  rcases hw with rfl | rfl
  · exact ⟨rfl, fun _ => rfl, fun _ _ => rfl⟩
  · exact ⟨rfl, fun _ => rfl, fun _ _ => rfl⟩
theorem zar_xW11 {g : GX} {w : Nat} (hw : w = 32 ∨ w = 44) : Zar (oX g) g.2.2.1 (w + 11) (ax g (w + 11)) 4 := by
  rcases hw with rfl | rfl
  · exact ⟨rfl, fun _ => rfl, fun _ _ => rfl⟩
  · exact ⟨rfl, fun _ => rfl, fun _ _ => rfl⟩
theorem zar_xW2 {g : GX} {w : Nat} (hw : w = 32 ∨ w = 44) : Zar (oX g) g.2.2.1 (w + 2) (ax g (w + 2)) 96 := by
  rcases hw with rfl | rfl
  · exact ⟨rfl, fun _ => rfl, fun _ _ => rfl⟩
  · exact ⟨rfl, fun _ => rfl, fun _ _ => rfl⟩
theorem zar_xW3 {g : GX} {w : Nat} (hw : w = 32 ∨ w = 44) : Zar (oX g) g.2.2.1 (w + 3) (ax g (w + 3)) 96 := by
  rcases hw with rfl | rfl
  · exact ⟨rfl, fun _ => rfl, fun _ _ => rfl⟩
  · exact ⟨rfl, fun _ => rfl, fun _ _ => rfl⟩
theorem zar_xW4 {g : GX} {w : Nat} (hw : w = 32 ∨ w = 44) : Zar (oX g) g.2.2.1 (w + 4) (ax g (w + 4)) 96 := by
  rcases hw with rfl | rfl
  · exact ⟨rfl, fun _ => rfl, fun _ _ => rfl⟩
  · exact ⟨rfl, fun _ => rfl, fun _ _ => rfl⟩
theorem zar_xW5 {g : GX} {w : Nat} (hw : w = 32 ∨ w = 44) : Zar (oX g) g.2.2.1 (w + 5) (ax g (w + 5)) 4 := by
  rcases hw with rfl | rfl
  · exact ⟨rfl, fun _ => rfl, fun _ _ => rfl⟩
  · exact ⟨rfl, fun _ => rfl, fun _ _ => rfl⟩
theorem zar_xW6 {g : GX} {w : Nat} (hw : w = 32 ∨ w = 44) : Zar (oX g) g.2.2.1 (w + 6) (ax g (w + 6)) 4 := by
  rcases hw with rfl | rfl
  · exact ⟨rfl, fun _ => rfl, fun _ _ => rfl⟩
  · exact ⟨rfl, fun _ => rfl, fun _ _ => rfl⟩
theorem zar_xW7 {g : GX} {w : Nat} (hw : w = 32 ∨ w = 44) : Zar (oX g) g.2.2.1 (w + 7) (ax g (w + 7)) 24 := by
  rcases hw with rfl | rfl
  · exact ⟨rfl, fun _ => rfl, fun _ _ => rfl⟩
  · exact ⟨rfl, fun _ => rfl, fun _ _ => rfl⟩
theorem zar_xW8 {g : GX} {w : Nat} (hw : w = 32 ∨ w = 44) : Zar (oX g) g.2.2.1 (w + 8) (ax g (w + 8)) 24 := by
  rcases hw with rfl | rfl
  · exact ⟨rfl, fun _ => rfl, fun _ _ => rfl⟩
  · exact ⟨rfl, fun _ => rfl, fun _ _ => rfl⟩
theorem zar_xW9 {g : GX} {w : Nat} (hw : w = 32 ∨ w = 44) : Zar (oX g) g.2.2.1 (w + 9) (ax g (w + 9)) 12 := by
  rcases hw with rfl | rfl
  · exact ⟨rfl, fun _ => rfl, fun _ _ => rfl⟩
  · exact ⟨rfl, fun _ => rfl, fun _ _ => rfl⟩
section ZF
variable {X : ZX} {cc : ByteArray} {nL : Nat} {rm : Room} {g : GX} {M : Mem} {pc : Nat} {lv : List (Nat × Value)} {st : List Value}
theorem gf_X_11  (C : Zc X cc "SnowRoad" nL rm (oX g)) (hd : decode cc pc = .ok (.getfield 11, 3)) (kk : Zj X nL (oX g) M (pc + 3) lv (.ref (ax g 1) :: st)) : Zj X nL (oX g) M pc lv (.ref (ax g 0) :: st) := z_get C inz_5 0 (le_X) rfl 0 rfl tw_210 rfl rfl hd kk
theorem gf_X_18  (C : Zc X cc "SnowRoad" nL rm (oX g)) (hd : decode cc pc = .ok (.getfield 18, 3)) (kk : Zj X nL (oX g) M (pc + 3) lv (.ref (ax g 10) :: st)) : Zj X nL (oX g) M pc lv (.ref (ax g 0) :: st) := z_get C inz_5 0 (le_X) rfl 1 rfl tw_211 rfl rfl hd kk
theorem gf_X_25  (C : Zc X cc "SnowRoad" nL rm (oX g)) (hd : decode cc pc = .ok (.getfield 25, 3)) (kk : Zj X nL (oX g) M (pc + 3) lv (.ref (ax g 20) :: st)) : Zj X nL (oX g) M pc lv (.ref (ax g 0) :: st) := z_get C inz_5 0 (le_X) rfl 2 rfl tw_212 rfl rfl hd kk
theorem gf_X_31  (C : Zc X cc "SnowRoad" nL rm (oX g)) (hd : decode cc pc = .ok (.getfield 31, 3)) (kk : Zj X nL (oX g) M (pc + 3) lv (.ref (ax g 23) :: st)) : Zj X nL (oX g) M pc lv (.ref (ax g 0) :: st) := z_get C inz_5 0 (le_X) rfl 3 rfl tw_213 rfl rfl hd kk
theorem gf_X_35  (C : Zc X cc "SnowRoad" nL rm (oX g)) (hd : decode cc pc = .ok (.getfield 35, 3)) (kk : Zj X nL (oX g) M (pc + 3) lv (.int (M 0 4) :: st)) : Zj X nL (oX g) M pc lv (.ref (ax g 0) :: st) := z_get C inz_5 0 (le_X) rfl 4 rfl tw_214 rfl rfl hd kk
theorem gf_X_42  (C : Zc X cc "SnowRoad" nL rm (oX g)) (hd : decode cc pc = .ok (.getfield 42, 3)) (kk : Zj X nL (oX g) M (pc + 3) lv (.ref (ax g 32) :: st)) : Zj X nL (oX g) M pc lv (.ref (ax g 0) :: st) := z_get C inz_5 0 (le_X) rfl 5 rfl tw_215 rfl rfl hd kk
theorem gf_X_46  (C : Zc X cc "SnowRoad" nL rm (oX g)) (hd : decode cc pc = .ok (.getfield 46, 3)) (kk : Zj X nL (oX g) M (pc + 3) lv (.ref (ax g 44) :: st)) : Zj X nL (oX g) M pc lv (.ref (ax g 0) :: st) := z_get C inz_5 0 (le_X) rfl 6 rfl tw_216 rfl rfl hd kk
theorem gf_X_49  (C : Zc X cc "SnowRoad" nL rm (oX g)) (hd : decode cc pc = .ok (.getfield 49, 3)) (kk : Zj X nL (oX g) M (pc + 3) lv (.int (M 0 7) :: st)) : Zj X nL (oX g) M pc lv (.ref (ax g 0) :: st) := z_get C inz_5 0 (le_X) rfl 7 rfl tw_217 rfl rfl hd kk
theorem gf_X_53  (C : Zc X cc "SnowRoad" nL rm (oX g)) (hd : decode cc pc = .ok (.getfield 53, 3)) (kk : Zj X nL (oX g) M (pc + 3) lv (.ref (ax g 56) :: st)) : Zj X nL (oX g) M pc lv (.ref (ax g 0) :: st) := z_get C inz_5 0 (le_X) rfl 8 rfl tw_218 rfl rfl hd kk
theorem gf_X_57  (C : Zc X cc "SnowRoad" nL rm (oX g)) (hd : decode cc pc = .ok (.getfield 57, 3)) (kk : Zj X nL (oX g) M (pc + 3) lv (.int (M 0 9) :: st)) : Zj X nL (oX g) M pc lv (.ref (ax g 0) :: st) := z_get C inz_5 0 (le_X) rfl 9 rfl tw_219 rfl rfl hd kk
theorem gf_X_60  (C : Zc X cc "SnowRoad" nL rm (oX g)) (hd : decode cc pc = .ok (.getfield 60, 3)) (kk : Zj X nL (oX g) M (pc + 3) lv (.ref (ax g 57) :: st)) : Zj X nL (oX g) M pc lv (.ref (ax g 0) :: st) := z_get C inz_5 0 (le_X) rfl 10 rfl tw_220 rfl rfl hd kk
theorem gf_X_63  (C : Zc X cc "SnowRoad" nL rm (oX g)) (hd : decode cc pc = .ok (.getfield 63, 3)) (kk : Zj X nL (oX g) M (pc + 3) lv (.ref (ax g 58) :: st)) : Zj X nL (oX g) M pc lv (.ref (ax g 0) :: st) := z_get C inz_5 0 (le_X) rfl 11 rfl tw_221 rfl rfl hd kk
theorem gf_X_81 {t : Nat} (ht : t < 4) (C : Zc X cc "SnowRoad" nL rm (oX g)) (hd : decode cc pc = .ok (.getfield 81, 3)) (kk : Zj X nL (oX g) M (pc + 3) lv (.int (M (2 + 2 * t) 2) :: st)) : Zj X nL (oX g) M pc lv (.ref (ax g (2 + 2 * t)) :: st) := z_get C inz_2 (2 + 2 * t) (le_XT ht) rfl 2 rfl tw_184 rfl rfl hd kk
theorem gf_X_88  (C : Zc X cc "SnowRoad" nL rm (oX g)) (hd : decode cc pc = .ok (.getfield 88, 3)) (kk : Zj X nL (oX g) M (pc + 3) lv (.ref (ax g 11) :: st)) : Zj X nL (oX g) M pc lv (.ref (ax g 10) :: st) := z_get C inz_3 10 (le_XO) rfl 0 rfl tw_30 rfl rfl hd kk
theorem gf_X_91  (C : Zc X cc "SnowRoad" nL rm (oX g)) (hd : decode cc pc = .ok (.getfield 91, 3)) (kk : Zj X nL (oX g) M (pc + 3) lv (.ref (ax g (fz M)) :: st)) : Zj X nL (oX g) M pc lv (.ref (ax g 10) :: st) := z_get C inz_3 10 (le_XO) rfl 1 rfl tw_33 rfl rfl hd kk
theorem gf_X_94  (C : Zc X cc "SnowRoad" nL rm (oX g)) (hd : decode cc pc = .ok (.getfield 94, 3)) (kk : Zj X nL (oX g) M (pc + 3) lv (.int (M 10 2) :: st)) : Zj X nL (oX g) M pc lv (.ref (ax g 10) :: st) := z_get C inz_3 10 (le_XO) rfl 2 rfl tw_36 rfl rfl hd kk
theorem gf_X_97  (C : Zc X cc "SnowRoad" nL rm (oX g)) (hd : decode cc pc = .ok (.getfield 97, 3)) (kk : Zj X nL (oX g) M (pc + 3) lv (.ref (ax g 13) :: st)) : Zj X nL (oX g) M pc lv (.ref (ax g 10) :: st) := z_get C inz_3 10 (le_XO) rfl 3 rfl tw_39 rfl rfl hd kk
theorem gf_X_100  (C : Zc X cc "SnowRoad" nL rm (oX g)) (hd : decode cc pc = .ok (.getfield 100, 3)) (kk : Zj X nL (oX g) M (pc + 3) lv (.ref (ax g 14) :: st)) : Zj X nL (oX g) M pc lv (.ref (ax g 10) :: st) := z_get C inz_3 10 (le_XO) rfl 4 rfl tw_42 rfl rfl hd kk
theorem gf_X_103  (C : Zc X cc "SnowRoad" nL rm (oX g)) (hd : decode cc pc = .ok (.getfield 103, 3)) (kk : Zj X nL (oX g) M (pc + 3) lv (.ref (ax g 15) :: st)) : Zj X nL (oX g) M pc lv (.ref (ax g 10) :: st) := z_get C inz_3 10 (le_XO) rfl 5 rfl tw_45 rfl rfl hd kk
theorem gf_X_106  (C : Zc X cc "SnowRoad" nL rm (oX g)) (hd : decode cc pc = .ok (.getfield 106, 3)) (kk : Zj X nL (oX g) M (pc + 3) lv (.int (M 10 6) :: st)) : Zj X nL (oX g) M pc lv (.ref (ax g 10) :: st) := z_get C inz_3 10 (le_XO) rfl 6 rfl tw_47 rfl rfl hd kk
theorem gf_X_109  (C : Zc X cc "SnowRoad" nL rm (oX g)) (hd : decode cc pc = .ok (.getfield 109, 3)) (kk : Zj X nL (oX g) M (pc + 3) lv (.ref (ax g 16) :: st)) : Zj X nL (oX g) M pc lv (.ref (ax g 10) :: st) := z_get C inz_3 10 (le_XO) rfl 7 rfl tw_50 rfl rfl hd kk
theorem gf_X_112  (C : Zc X cc "SnowRoad" nL rm (oX g)) (hd : decode cc pc = .ok (.getfield 112, 3)) (kk : Zj X nL (oX g) M (pc + 3) lv (.int (M 10 8) :: st)) : Zj X nL (oX g) M pc lv (.ref (ax g 10) :: st) := z_get C inz_3 10 (le_XO) rfl 8 rfl tw_54 rfl rfl hd kk
theorem gf_X_125  (C : Zc X cc "SnowRoad" nL rm (oX g)) (hd : decode cc pc = .ok (.getfield 125, 3)) (kk : Zj X nL (oX g) M (pc + 3) lv (.int (M 10 9) :: st)) : Zj X nL (oX g) M pc lv (.ref (ax g 10) :: st) := z_get C inz_3 10 (le_XO) rfl 9 rfl tw_57 rfl rfl hd kk
theorem gf_X_128 {s : Nat} (hs : s < 4) (C : Zc X cc "SnowRoad" nL rm (oX g)) (hd : decode cc pc = .ok (.getfield 128, 3)) (kk : Zj X nL (oX g) M (pc + 3) lv (.int (M (24 + 2 * s) 1) :: st)) : Zj X nL (oX g) M pc lv (.ref (ax g (24 + 2 * s)) :: st) := z_get C inz_0 (24 + 2 * s) (le_XH hs) rfl 1 rfl tw_200 rfl rfl hd kk
theorem gf_X_135 {s : Nat} (hs : s < 4) (C : Zc X cc "SnowRoad" nL rm (oX g)) (hd : decode cc pc = .ok (.getfield 135, 3)) (kk : Zj X nL (oX g) M (pc + 3) lv (.int (M (24 + 2 * s) 2) :: st)) : Zj X nL (oX g) M pc lv (.ref (ax g (24 + 2 * s)) :: st) := z_get C inz_0 (24 + 2 * s) (le_XH hs) rfl 2 rfl tw_202 rfl rfl hd kk
theorem gf_X_138 {s : Nat} (hs : s < 4) (C : Zc X cc "SnowRoad" nL rm (oX g)) (hd : decode cc pc = .ok (.getfield 138, 3)) (kk : Zj X nL (oX g) M (pc + 3) lv (.ref (ax g (25 + 2 * s)) :: st)) : Zj X nL (oX g) M pc lv (.ref (ax g (24 + 2 * s)) :: st) := z_get C inz_0 (24 + 2 * s) (le_XH hs) rfl 0 rfl tw_198 rfl rfl hd kk
theorem gf_X_149 {w : Nat} (hw : w = 32 ∨ w = 44) (C : Zc X cc "SnowRoad" nL rm (oX g)) (hd : decode cc pc = .ok (.getfield 149, 3)) (kk : Zj X nL (oX g) M (pc + 3) lv (.ref (ax g (w + 1)) :: st)) : Zj X nL (oX g) M pc lv (.ref (ax g w) :: st) := z_get C inz_4 w (le_XW hw) rfl 0 rfl tw_119 rfl rfl hd kk
theorem gf_X_152 {w : Nat} (hw : w = 32 ∨ w = 44) (C : Zc X cc "SnowRoad" nL rm (oX g)) (hd : decode cc pc = .ok (.getfield 152, 3)) (kk : Zj X nL (oX g) M (pc + 3) lv (.ref (ax g (w + 2)) :: st)) : Zj X nL (oX g) M pc lv (.ref (ax g w) :: st) := z_get C inz_4 w (le_XW hw) rfl 1 rfl tw_121 rfl rfl hd kk
theorem gf_X_155 {w : Nat} (hw : w = 32 ∨ w = 44) (C : Zc X cc "SnowRoad" nL rm (oX g)) (hd : decode cc pc = .ok (.getfield 155, 3)) (kk : Zj X nL (oX g) M (pc + 3) lv (.ref (ax g (w + 3)) :: st)) : Zj X nL (oX g) M pc lv (.ref (ax g w) :: st) := z_get C inz_4 w (le_XW hw) rfl 2 rfl tw_123 rfl rfl hd kk
theorem gf_X_158 {w : Nat} (hw : w = 32 ∨ w = 44) (C : Zc X cc "SnowRoad" nL rm (oX g)) (hd : decode cc pc = .ok (.getfield 158, 3)) (kk : Zj X nL (oX g) M (pc + 3) lv (.ref (ax g (w + 4)) :: st)) : Zj X nL (oX g) M pc lv (.ref (ax g w) :: st) := z_get C inz_4 w (le_XW hw) rfl 3 rfl tw_125 rfl rfl hd kk
theorem gf_X_165 {w : Nat} (hw : w = 32 ∨ w = 44) (C : Zc X cc "SnowRoad" nL rm (oX g)) (hd : decode cc pc = .ok (.getfield 165, 3)) (kk : Zj X nL (oX g) M (pc + 3) lv (.int (M w 12) :: st)) : Zj X nL (oX g) M pc lv (.ref (ax g w) :: st) := z_get C inz_4 w (le_XW hw) rfl 12 rfl tw_137 rfl rfl hd kk
theorem gf_X_174 {w : Nat} (hw : w = 32 ∨ w = 44) (C : Zc X cc "SnowRoad" nL rm (oX g)) (hd : decode cc pc = .ok (.getfield 174, 3)) (kk : Zj X nL (oX g) M (pc + 3) lv (.int (M w 13) :: st)) : Zj X nL (oX g) M pc lv (.ref (ax g w) :: st) := z_get C inz_4 w (le_XW hw) rfl 13 rfl tw_139 rfl rfl hd kk
theorem gf_X_177 {w : Nat} (hw : w = 32 ∨ w = 44) (C : Zc X cc "SnowRoad" nL rm (oX g)) (hd : decode cc pc = .ok (.getfield 177, 3)) (kk : Zj X nL (oX g) M (pc + 3) lv (.int (M w 14) :: st)) : Zj X nL (oX g) M pc lv (.ref (ax g w) :: st) := z_get C inz_4 w (le_XW hw) rfl 14 rfl tw_141 rfl rfl hd kk
theorem gf_X_180 {w : Nat} (hw : w = 32 ∨ w = 44) (C : Zc X cc "SnowRoad" nL rm (oX g)) (hd : decode cc pc = .ok (.getfield 180, 3)) (kk : Zj X nL (oX g) M (pc + 3) lv (.ref (ax g (w + 5)) :: st)) : Zj X nL (oX g) M pc lv (.ref (ax g w) :: st) := z_get C inz_4 w (le_XW hw) rfl 4 rfl tw_127 rfl rfl hd kk
theorem gf_X_183 {w : Nat} (hw : w = 32 ∨ w = 44) (C : Zc X cc "SnowRoad" nL rm (oX g)) (hd : decode cc pc = .ok (.getfield 183, 3)) (kk : Zj X nL (oX g) M (pc + 3) lv (.ref (ax g (w + 6)) :: st)) : Zj X nL (oX g) M pc lv (.ref (ax g w) :: st) := z_get C inz_4 w (le_XW hw) rfl 5 rfl tw_129 rfl rfl hd kk
theorem gf_X_218  (C : Zc X cc "SnowRoad" nL rm (oX g)) (hd : decode cc pc = .ok (.getfield 218, 3)) (kk : Zj X nL (oX g) M (pc + 3) lv (.int (M 20 2) :: st)) : Zj X nL (oX g) M pc lv (.ref (ax g 20) :: st) := z_get C inz_1 20 (le_XG) rfl 2 rfl tw_101 rfl rfl hd kk
theorem gf_XH_9 {s : Nat} (hs : s < 4) (C : Zc X cc "SnowRoad$Sheet" nL rm (oX g)) (hd : decode cc pc = .ok (.getfield 9, 3)) (kk : Zj X nL (oX g) M (pc + 3) lv (.ref (ax g (25 + 2 * s)) :: st)) : Zj X nL (oX g) M pc lv (.ref (ax g (24 + 2 * s)) :: st) := z_get C inz_0 (24 + 2 * s) (le_XH hs) rfl 0 rfl tw_197 rfl rfl hd kk
theorem gf_XH_15 {s : Nat} (hs : s < 4) (C : Zc X cc "SnowRoad$Sheet" nL rm (oX g)) (hd : decode cc pc = .ok (.getfield 15, 3)) (kk : Zj X nL (oX g) M (pc + 3) lv (.int (M (24 + 2 * s) 1) :: st)) : Zj X nL (oX g) M pc lv (.ref (ax g (24 + 2 * s)) :: st) := z_get C inz_0 (24 + 2 * s) (le_XH hs) rfl 1 rfl tw_199 rfl rfl hd kk
theorem gf_XH_19 {s : Nat} (hs : s < 4) (C : Zc X cc "SnowRoad$Sheet" nL rm (oX g)) (hd : decode cc pc = .ok (.getfield 19, 3)) (kk : Zj X nL (oX g) M (pc + 3) lv (.int (M (24 + 2 * s) 2) :: st)) : Zj X nL (oX g) M pc lv (.ref (ax g (24 + 2 * s)) :: st) := z_get C inz_0 (24 + 2 * s) (le_XH hs) rfl 2 rfl tw_201 rfl rfl hd kk
theorem gf_XG_9  (C : Zc X cc "SnowRoad$Sightings" nL rm (oX g)) (hd : decode cc pc = .ok (.getfield 9, 3)) (kk : Zj X nL (oX g) M (pc + 3) lv (.ref (ax g 21) :: st)) : Zj X nL (oX g) M pc lv (.ref (ax g 20) :: st) := z_get C inz_1 20 (le_XG) rfl 0 rfl tw_98 rfl rfl hd kk
theorem gf_XG_15  (C : Zc X cc "SnowRoad$Sightings" nL rm (oX g)) (hd : decode cc pc = .ok (.getfield 15, 3)) (kk : Zj X nL (oX g) M (pc + 3) lv (.ref (ax g 22) :: st)) : Zj X nL (oX g) M pc lv (.ref (ax g 20) :: st) := z_get C inz_1 20 (le_XG) rfl 1 rfl tw_99 rfl rfl hd kk
theorem gf_XG_18  (C : Zc X cc "SnowRoad$Sightings" nL rm (oX g)) (hd : decode cc pc = .ok (.getfield 18, 3)) (kk : Zj X nL (oX g) M (pc + 3) lv (.int (M 20 2) :: st)) : Zj X nL (oX g) M pc lv (.ref (ax g 20) :: st) := z_get C inz_1 20 (le_XG) rfl 2 rfl tw_100 rfl rfl hd kk
theorem gf_XG_22 {w : Nat} (hw : w = 32 ∨ w = 44) (C : Zc X cc "SnowRoad$Sightings" nL rm (oX g)) (hd : decode cc pc = .ok (.getfield 22, 3)) (kk : Zj X nL (oX g) M (pc + 3) lv (.ref (ax g (w + 1)) :: st)) : Zj X nL (oX g) M pc lv (.ref (ax g w) :: st) := z_get C inz_4 w (le_XW hw) rfl 0 rfl tw_118 rfl rfl hd kk
theorem gf_XT_9 {t : Nat} (ht : t < 4) (C : Zc X cc "SnowRoad$Text" nL rm (oX g)) (hd : decode cc pc = .ok (.getfield 9, 3)) (kk : Zj X nL (oX g) M (pc + 3) lv (.int (M (2 + 2 * t) 2) :: st)) : Zj X nL (oX g) M pc lv (.ref (ax g (2 + 2 * t)) :: st) := z_get C inz_2 (2 + 2 * t) (le_XT ht) rfl 2 rfl tw_183 rfl rfl hd kk
theorem gf_XT_15 {t : Nat} (ht : t < 4) (C : Zc X cc "SnowRoad$Text" nL rm (oX g)) (hd : decode cc pc = .ok (.getfield 15, 3)) (kk : Zj X nL (oX g) M (pc + 3) lv (.int (M (2 + 2 * t) 0) :: st)) : Zj X nL (oX g) M pc lv (.ref (ax g (2 + 2 * t)) :: st) := z_get C inz_2 (2 + 2 * t) (le_XT ht) rfl 0 rfl tw_180 rfl rfl hd kk
theorem gf_XT_22 {t : Nat} (ht : t < 4) (C : Zc X cc "SnowRoad$Text" nL rm (oX g)) (hd : decode cc pc = .ok (.getfield 22, 3)) (kk : Zj X nL (oX g) M (pc + 3) lv (.ref (ax g (3 + 2 * t)) :: st)) : Zj X nL (oX g) M pc lv (.ref (ax g (2 + 2 * t)) :: st) := z_get C inz_2 (2 + 2 * t) (le_XT ht) rfl 1 rfl tw_181 rfl rfl hd kk
theorem gf_XO_9  (C : Zc X cc "SnowRoad$Told" nL rm (oX g)) (hd : decode cc pc = .ok (.getfield 9, 3)) (kk : Zj X nL (oX g) M (pc + 3) lv (.ref (ax g 11) :: st)) : Zj X nL (oX g) M pc lv (.ref (ax g 10) :: st) := z_get C inz_3 10 (le_XO) rfl 0 rfl tw_28 rfl rfl hd kk
theorem gf_XO_15  (C : Zc X cc "SnowRoad$Told" nL rm (oX g)) (hd : decode cc pc = .ok (.getfield 15, 3)) (kk : Zj X nL (oX g) M (pc + 3) lv (.ref (ax g (fz M)) :: st)) : Zj X nL (oX g) M pc lv (.ref (ax g 10) :: st) := z_get C inz_3 10 (le_XO) rfl 1 rfl tw_31 rfl rfl hd kk
theorem gf_XO_18  (C : Zc X cc "SnowRoad$Told" nL rm (oX g)) (hd : decode cc pc = .ok (.getfield 18, 3)) (kk : Zj X nL (oX g) M (pc + 3) lv (.int (M 10 2) :: st)) : Zj X nL (oX g) M pc lv (.ref (ax g 10) :: st) := z_get C inz_3 10 (le_XO) rfl 2 rfl tw_34 rfl rfl hd kk
theorem gf_XO_22  (C : Zc X cc "SnowRoad$Told" nL rm (oX g)) (hd : decode cc pc = .ok (.getfield 22, 3)) (kk : Zj X nL (oX g) M (pc + 3) lv (.ref (ax g 13) :: st)) : Zj X nL (oX g) M pc lv (.ref (ax g 10) :: st) := z_get C inz_3 10 (le_XO) rfl 3 rfl tw_37 rfl rfl hd kk
theorem gf_XO_25  (C : Zc X cc "SnowRoad$Told" nL rm (oX g)) (hd : decode cc pc = .ok (.getfield 25, 3)) (kk : Zj X nL (oX g) M (pc + 3) lv (.ref (ax g 14) :: st)) : Zj X nL (oX g) M pc lv (.ref (ax g 10) :: st) := z_get C inz_3 10 (le_XO) rfl 4 rfl tw_40 rfl rfl hd kk
theorem gf_XO_28  (C : Zc X cc "SnowRoad$Told" nL rm (oX g)) (hd : decode cc pc = .ok (.getfield 28, 3)) (kk : Zj X nL (oX g) M (pc + 3) lv (.ref (ax g 15) :: st)) : Zj X nL (oX g) M pc lv (.ref (ax g 10) :: st) := z_get C inz_3 10 (le_XO) rfl 5 rfl tw_43 rfl rfl hd kk
theorem gf_XO_31  (C : Zc X cc "SnowRoad$Told" nL rm (oX g)) (hd : decode cc pc = .ok (.getfield 31, 3)) (kk : Zj X nL (oX g) M (pc + 3) lv (.int (M 10 6) :: st)) : Zj X nL (oX g) M pc lv (.ref (ax g 10) :: st) := z_get C inz_3 10 (le_XO) rfl 6 rfl tw_46 rfl rfl hd kk
theorem gf_XO_34  (C : Zc X cc "SnowRoad$Told" nL rm (oX g)) (hd : decode cc pc = .ok (.getfield 34, 3)) (kk : Zj X nL (oX g) M (pc + 3) lv (.ref (ax g 16) :: st)) : Zj X nL (oX g) M pc lv (.ref (ax g 10) :: st) := z_get C inz_3 10 (le_XO) rfl 7 rfl tw_49 rfl rfl hd kk
theorem gf_XO_40  (C : Zc X cc "SnowRoad$Told" nL rm (oX g)) (hd : decode cc pc = .ok (.getfield 40, 3)) (kk : Zj X nL (oX g) M (pc + 3) lv (.int (M 10 9) :: st)) : Zj X nL (oX g) M pc lv (.ref (ax g 10) :: st) := z_get C inz_3 10 (le_XO) rfl 9 rfl tw_55 rfl rfl hd kk
theorem gf_XO_43  (C : Zc X cc "SnowRoad$Told" nL rm (oX g)) (hd : decode cc pc = .ok (.getfield 43, 3)) (kk : Zj X nL (oX g) M (pc + 3) lv (.ref (ax g 17) :: st)) : Zj X nL (oX g) M pc lv (.ref (ax g 10) :: st) := z_get C inz_3 10 (le_XO) rfl 10 rfl tw_58 rfl rfl hd kk
theorem gf_XO_46  (C : Zc X cc "SnowRoad$Told" nL rm (oX g)) (hd : decode cc pc = .ok (.getfield 46, 3)) (kk : Zj X nL (oX g) M (pc + 3) lv (.ref (ax g 18) :: st)) : Zj X nL (oX g) M pc lv (.ref (ax g 10) :: st) := z_get C inz_3 10 (le_XO) rfl 11 rfl tw_60 rfl rfl hd kk
theorem gf_XO_49  (C : Zc X cc "SnowRoad$Told" nL rm (oX g)) (hd : decode cc pc = .ok (.getfield 49, 3)) (kk : Zj X nL (oX g) M (pc + 3) lv (.ref (ax g 19) :: st)) : Zj X nL (oX g) M pc lv (.ref (ax g 10) :: st) := z_get C inz_3 10 (le_XO) rfl 12 rfl tw_62 rfl rfl hd kk
theorem gf_XO_58 {t : Nat} (ht : t < 4) (C : Zc X cc "SnowRoad$Told" nL rm (oX g)) (hd : decode cc pc = .ok (.getfield 58, 3)) (kk : Zj X nL (oX g) M (pc + 3) lv (.ref (ax g (3 + 2 * t)) :: st)) : Zj X nL (oX g) M pc lv (.ref (ax g (2 + 2 * t)) :: st) := z_get C inz_2 (2 + 2 * t) (le_XT ht) rfl 1 rfl tw_182 rfl rfl hd kk
theorem gf_XW_9 {w : Nat} (hw : w = 32 ∨ w = 44) (C : Zc X cc "SnowRoad$Winter" nL rm (oX g)) (hd : decode cc pc = .ok (.getfield 9, 3)) (kk : Zj X nL (oX g) M (pc + 3) lv (.ref (ax g (w + 1)) :: st)) : Zj X nL (oX g) M pc lv (.ref (ax g w) :: st) := z_get C inz_4 w (le_XW hw) rfl 0 rfl tw_117 rfl rfl hd kk
theorem gf_XW_15 {w : Nat} (hw : w = 32 ∨ w = 44) (C : Zc X cc "SnowRoad$Winter" nL rm (oX g)) (hd : decode cc pc = .ok (.getfield 15, 3)) (kk : Zj X nL (oX g) M (pc + 3) lv (.ref (ax g (w + 2)) :: st)) : Zj X nL (oX g) M pc lv (.ref (ax g w) :: st) := z_get C inz_4 w (le_XW hw) rfl 1 rfl tw_120 rfl rfl hd kk
theorem gf_XW_18 {w : Nat} (hw : w = 32 ∨ w = 44) (C : Zc X cc "SnowRoad$Winter" nL rm (oX g)) (hd : decode cc pc = .ok (.getfield 18, 3)) (kk : Zj X nL (oX g) M (pc + 3) lv (.ref (ax g (w + 3)) :: st)) : Zj X nL (oX g) M pc lv (.ref (ax g w) :: st) := z_get C inz_4 w (le_XW hw) rfl 2 rfl tw_122 rfl rfl hd kk
theorem gf_XW_21 {w : Nat} (hw : w = 32 ∨ w = 44) (C : Zc X cc "SnowRoad$Winter" nL rm (oX g)) (hd : decode cc pc = .ok (.getfield 21, 3)) (kk : Zj X nL (oX g) M (pc + 3) lv (.ref (ax g (w + 4)) :: st)) : Zj X nL (oX g) M pc lv (.ref (ax g w) :: st) := z_get C inz_4 w (le_XW hw) rfl 3 rfl tw_124 rfl rfl hd kk
theorem gf_XW_24 {w : Nat} (hw : w = 32 ∨ w = 44) (C : Zc X cc "SnowRoad$Winter" nL rm (oX g)) (hd : decode cc pc = .ok (.getfield 24, 3)) (kk : Zj X nL (oX g) M (pc + 3) lv (.ref (ax g (w + 5)) :: st)) : Zj X nL (oX g) M pc lv (.ref (ax g w) :: st) := z_get C inz_4 w (le_XW hw) rfl 4 rfl tw_126 rfl rfl hd kk
theorem gf_XW_27 {w : Nat} (hw : w = 32 ∨ w = 44) (C : Zc X cc "SnowRoad$Winter" nL rm (oX g)) (hd : decode cc pc = .ok (.getfield 27, 3)) (kk : Zj X nL (oX g) M (pc + 3) lv (.ref (ax g (w + 6)) :: st)) : Zj X nL (oX g) M pc lv (.ref (ax g w) :: st) := z_get C inz_4 w (le_XW hw) rfl 5 rfl tw_128 rfl rfl hd kk
theorem gf_XW_30 {w : Nat} (hw : w = 32 ∨ w = 44) (C : Zc X cc "SnowRoad$Winter" nL rm (oX g)) (hd : decode cc pc = .ok (.getfield 30, 3)) (kk : Zj X nL (oX g) M (pc + 3) lv (.ref (ax g (w + 7)) :: st)) : Zj X nL (oX g) M pc lv (.ref (ax g w) :: st) := z_get C inz_4 w (le_XW hw) rfl 6 rfl tw_130 rfl rfl hd kk
theorem gf_XW_33 {w : Nat} (hw : w = 32 ∨ w = 44) (C : Zc X cc "SnowRoad$Winter" nL rm (oX g)) (hd : decode cc pc = .ok (.getfield 33, 3)) (kk : Zj X nL (oX g) M (pc + 3) lv (.ref (ax g (w + 8)) :: st)) : Zj X nL (oX g) M pc lv (.ref (ax g w) :: st) := z_get C inz_4 w (le_XW hw) rfl 7 rfl tw_131 rfl rfl hd kk
theorem gf_XW_36 {w : Nat} (hw : w = 32 ∨ w = 44) (C : Zc X cc "SnowRoad$Winter" nL rm (oX g)) (hd : decode cc pc = .ok (.getfield 36, 3)) (kk : Zj X nL (oX g) M (pc + 3) lv (.int (M w 8) :: st)) : Zj X nL (oX g) M pc lv (.ref (ax g w) :: st) := z_get C inz_4 w (le_XW hw) rfl 8 rfl tw_132 rfl rfl hd kk
theorem gf_XW_40 {w : Nat} (hw : w = 32 ∨ w = 44) (C : Zc X cc "SnowRoad$Winter" nL rm (oX g)) (hd : decode cc pc = .ok (.getfield 40, 3)) (kk : Zj X nL (oX g) M (pc + 3) lv (.ref (ax g (w + 9)) :: st)) : Zj X nL (oX g) M pc lv (.ref (ax g w) :: st) := z_get C inz_4 w (le_XW hw) rfl 9 rfl tw_133 rfl rfl hd kk
theorem gf_XW_43 {w : Nat} (hw : w = 32 ∨ w = 44) (C : Zc X cc "SnowRoad$Winter" nL rm (oX g)) (hd : decode cc pc = .ok (.getfield 43, 3)) (kk : Zj X nL (oX g) M (pc + 3) lv (.ref (ax g (w + 10)) :: st)) : Zj X nL (oX g) M pc lv (.ref (ax g w) :: st) := z_get C inz_4 w (le_XW hw) rfl 10 rfl tw_134 rfl rfl hd kk
theorem gf_XW_46 {w : Nat} (hw : w = 32 ∨ w = 44) (C : Zc X cc "SnowRoad$Winter" nL rm (oX g)) (hd : decode cc pc = .ok (.getfield 46, 3)) (kk : Zj X nL (oX g) M (pc + 3) lv (.ref (ax g (w + 11)) :: st)) : Zj X nL (oX g) M pc lv (.ref (ax g w) :: st) := z_get C inz_4 w (le_XW hw) rfl 11 rfl tw_135 rfl rfl hd kk
theorem gf_XW_49 {w : Nat} (hw : w = 32 ∨ w = 44) (C : Zc X cc "SnowRoad$Winter" nL rm (oX g)) (hd : decode cc pc = .ok (.getfield 49, 3)) (kk : Zj X nL (oX g) M (pc + 3) lv (.int (M w 12) :: st)) : Zj X nL (oX g) M pc lv (.ref (ax g w) :: st) := z_get C inz_4 w (le_XW hw) rfl 12 rfl tw_136 rfl rfl hd kk
theorem gf_XW_52 {w : Nat} (hw : w = 32 ∨ w = 44) (C : Zc X cc "SnowRoad$Winter" nL rm (oX g)) (hd : decode cc pc = .ok (.getfield 52, 3)) (kk : Zj X nL (oX g) M (pc + 3) lv (.int (M w 13) :: st)) : Zj X nL (oX g) M pc lv (.ref (ax g w) :: st) := z_get C inz_4 w (le_XW hw) rfl 13 rfl tw_138 rfl rfl hd kk
theorem gf_XW_55 {w : Nat} (hw : w = 32 ∨ w = 44) (C : Zc X cc "SnowRoad$Winter" nL rm (oX g)) (hd : decode cc pc = .ok (.getfield 55, 3)) (kk : Zj X nL (oX g) M (pc + 3) lv (.int (M w 14) :: st)) : Zj X nL (oX g) M pc lv (.ref (ax g w) :: st) := z_get C inz_4 w (le_XW hw) rfl 14 rfl tw_140 rfl rfl hd kk
theorem gf_XW_64  (C : Zc X cc "SnowRoad$Winter" nL rm (oX g)) (hd : decode cc pc = .ok (.getfield 64, 3)) (kk : Zj X nL (oX g) M (pc + 3) lv (.int (M 10 2) :: st)) : Zj X nL (oX g) M pc lv (.ref (ax g 10) :: st) := z_get C inz_3 10 (le_XO) rfl 2 rfl tw_35 rfl rfl hd kk
theorem gf_XW_69  (C : Zc X cc "SnowRoad$Winter" nL rm (oX g)) (hd : decode cc pc = .ok (.getfield 69, 3)) (kk : Zj X nL (oX g) M (pc + 3) lv (.ref (ax g 13) :: st)) : Zj X nL (oX g) M pc lv (.ref (ax g 10) :: st) := z_get C inz_3 10 (le_XO) rfl 3 rfl tw_38 rfl rfl hd kk
theorem gf_XW_72  (C : Zc X cc "SnowRoad$Winter" nL rm (oX g)) (hd : decode cc pc = .ok (.getfield 72, 3)) (kk : Zj X nL (oX g) M (pc + 3) lv (.ref (ax g 15) :: st)) : Zj X nL (oX g) M pc lv (.ref (ax g 10) :: st) := z_get C inz_3 10 (le_XO) rfl 5 rfl tw_44 rfl rfl hd kk
theorem gf_XW_79  (C : Zc X cc "SnowRoad$Winter" nL rm (oX g)) (hd : decode cc pc = .ok (.getfield 79, 3)) (kk : Zj X nL (oX g) M (pc + 3) lv (.ref (ax g 11) :: st)) : Zj X nL (oX g) M pc lv (.ref (ax g 10) :: st) := z_get C inz_3 10 (le_XO) rfl 0 rfl tw_29 rfl rfl hd kk
theorem gf_XW_82  (C : Zc X cc "SnowRoad$Winter" nL rm (oX g)) (hd : decode cc pc = .ok (.getfield 82, 3)) (kk : Zj X nL (oX g) M (pc + 3) lv (.ref (ax g (fz M)) :: st)) : Zj X nL (oX g) M pc lv (.ref (ax g 10) :: st) := z_get C inz_3 10 (le_XO) rfl 1 rfl tw_32 rfl rfl hd kk
theorem gf_XW_104  (C : Zc X cc "SnowRoad$Winter" nL rm (oX g)) (hd : decode cc pc = .ok (.getfield 104, 3)) (kk : Zj X nL (oX g) M (pc + 3) lv (.int (M 10 8) :: st)) : Zj X nL (oX g) M pc lv (.ref (ax g 10) :: st) := z_get C inz_3 10 (le_XO) rfl 8 rfl tw_53 rfl rfl hd kk
theorem gf_XW_107  (C : Zc X cc "SnowRoad$Winter" nL rm (oX g)) (hd : decode cc pc = .ok (.getfield 107, 3)) (kk : Zj X nL (oX g) M (pc + 3) lv (.int (M 10 9) :: st)) : Zj X nL (oX g) M pc lv (.ref (ax g 10) :: st) := z_get C inz_3 10 (le_XO) rfl 9 rfl tw_56 rfl rfl hd kk
theorem gf_XW_110  (C : Zc X cc "SnowRoad$Winter" nL rm (oX g)) (hd : decode cc pc = .ok (.getfield 110, 3)) (kk : Zj X nL (oX g) M (pc + 3) lv (.ref (ax g 17) :: st)) : Zj X nL (oX g) M pc lv (.ref (ax g 10) :: st) := z_get C inz_3 10 (le_XO) rfl 10 rfl tw_59 rfl rfl hd kk
theorem gf_XW_113  (C : Zc X cc "SnowRoad$Winter" nL rm (oX g)) (hd : decode cc pc = .ok (.getfield 113, 3)) (kk : Zj X nL (oX g) M (pc + 3) lv (.ref (ax g 18) :: st)) : Zj X nL (oX g) M pc lv (.ref (ax g 10) :: st) := z_get C inz_3 10 (le_XO) rfl 11 rfl tw_61 rfl rfl hd kk
theorem gf_XW_116  (C : Zc X cc "SnowRoad$Winter" nL rm (oX g)) (hd : decode cc pc = .ok (.getfield 116, 3)) (kk : Zj X nL (oX g) M (pc + 3) lv (.ref (ax g 19) :: st)) : Zj X nL (oX g) M pc lv (.ref (ax g 10) :: st) := z_get C inz_3 10 (le_XO) rfl 12 rfl tw_63 rfl rfl hd kk
theorem gf_XW_123  (C : Zc X cc "SnowRoad$Winter" nL rm (oX g)) (hd : decode cc pc = .ok (.getfield 123, 3)) (kk : Zj X nL (oX g) M (pc + 3) lv (.ref (ax g 14) :: st)) : Zj X nL (oX g) M pc lv (.ref (ax g 10) :: st) := z_get C inz_3 10 (le_XO) rfl 4 rfl tw_41 rfl rfl hd kk
theorem gf_XW_133  (C : Zc X cc "SnowRoad$Winter" nL rm (oX g)) (hd : decode cc pc = .ok (.getfield 133, 3)) (kk : Zj X nL (oX g) M (pc + 3) lv (.int (M 10 6) :: st)) : Zj X nL (oX g) M pc lv (.ref (ax g 10) :: st) := z_get C inz_3 10 (le_XO) rfl 6 rfl tw_48 rfl rfl hd kk
theorem gf_XW_136  (C : Zc X cc "SnowRoad$Winter" nL rm (oX g)) (hd : decode cc pc = .ok (.getfield 136, 3)) (kk : Zj X nL (oX g) M (pc + 3) lv (.ref (ax g 16) :: st)) : Zj X nL (oX g) M pc lv (.ref (ax g 10) :: st) := z_get C inz_3 10 (le_XO) rfl 7 rfl tw_51 rfl rfl hd kk
theorem gf_R_7  (C : Zc X cc "SnowRoadModel" nL rm (oR g)) (hd : decode cc pc = .ok (.getfield 7, 3)) (kk : Zj X nL (oR g) M (pc + 3) lv (.ref (ax g 1) :: st)) : Zj X nL (oR g) M pc lv (.ref (ax g 0) :: st) := z_get C inz_6 0 (le_R) rfl 0 rfl tw_673 rfl rfl hd kk
theorem gf_R_13  (C : Zc X cc "SnowRoadModel" nL rm (oR g)) (hd : decode cc pc = .ok (.getfield 13, 3)) (kk : Zj X nL (oR g) M (pc + 3) lv (.ref (ax g 2) :: st)) : Zj X nL (oR g) M pc lv (.ref (ax g 0) :: st) := z_get C inz_6 0 (le_R) rfl 1 rfl tw_674 rfl rfl hd kk
theorem gf_R_16  (C : Zc X cc "SnowRoadModel" nL rm (oR g)) (hd : decode cc pc = .ok (.getfield 16, 3)) (kk : Zj X nL (oR g) M (pc + 3) lv (.ref (ax g 3) :: st)) : Zj X nL (oR g) M pc lv (.ref (ax g 0) :: st) := z_get C inz_6 0 (le_R) rfl 2 rfl tw_675 rfl rfl hd kk
theorem gf_R_19  (C : Zc X cc "SnowRoadModel" nL rm (oR g)) (hd : decode cc pc = .ok (.getfield 19, 3)) (kk : Zj X nL (oR g) M (pc + 3) lv (.ref (ax g 4) :: st)) : Zj X nL (oR g) M pc lv (.ref (ax g 0) :: st) := z_get C inz_6 0 (le_R) rfl 3 rfl tw_676 rfl rfl hd kk
theorem gf_R_22  (C : Zc X cc "SnowRoadModel" nL rm (oR g)) (hd : decode cc pc = .ok (.getfield 22, 3)) (kk : Zj X nL (oR g) M (pc + 3) lv (.ref (ax g 5) :: st)) : Zj X nL (oR g) M pc lv (.ref (ax g 0) :: st) := z_get C inz_6 0 (le_R) rfl 5 rfl tw_678 rfl rfl hd kk
theorem gf_R_25  (C : Zc X cc "SnowRoadModel" nL rm (oR g)) (hd : decode cc pc = .ok (.getfield 25, 3)) (kk : Zj X nL (oR g) M (pc + 3) lv (.ref (ax g 6) :: st)) : Zj X nL (oR g) M pc lv (.ref (ax g 0) :: st) := z_get C inz_6 0 (le_R) rfl 6 rfl tw_679 rfl rfl hd kk
theorem gf_R_28  (C : Zc X cc "SnowRoadModel" nL rm (oR g)) (hd : decode cc pc = .ok (.getfield 28, 3)) (kk : Zj X nL (oR g) M (pc + 3) lv (.ref (ax g 7) :: st)) : Zj X nL (oR g) M pc lv (.ref (ax g 0) :: st) := z_get C inz_6 0 (le_R) rfl 7 rfl tw_680 rfl rfl hd kk
theorem gf_R_31  (C : Zc X cc "SnowRoadModel" nL rm (oR g)) (hd : decode cc pc = .ok (.getfield 31, 3)) (kk : Zj X nL (oR g) M (pc + 3) lv (.ref (ax g 8) :: st)) : Zj X nL (oR g) M pc lv (.ref (ax g 0) :: st) := z_get C inz_6 0 (le_R) rfl 8 rfl tw_681 rfl rfl hd kk
theorem gf_R_34  (C : Zc X cc "SnowRoadModel" nL rm (oR g)) (hd : decode cc pc = .ok (.getfield 34, 3)) (kk : Zj X nL (oR g) M (pc + 3) lv (.ref (ax g 9) :: st)) : Zj X nL (oR g) M pc lv (.ref (ax g 0) :: st) := z_get C inz_6 0 (le_R) rfl 10 rfl tw_683 rfl rfl hd kk
theorem gf_R_37  (C : Zc X cc "SnowRoadModel" nL rm (oR g)) (hd : decode cc pc = .ok (.getfield 37, 3)) (kk : Zj X nL (oR g) M (pc + 3) lv (.ref (ax g 10) :: st)) : Zj X nL (oR g) M pc lv (.ref (ax g 0) :: st) := z_get C inz_6 0 (le_R) rfl 12 rfl tw_685 rfl rfl hd kk
theorem gf_R_40  (C : Zc X cc "SnowRoadModel" nL rm (oR g)) (hd : decode cc pc = .ok (.getfield 40, 3)) (kk : Zj X nL (oR g) M (pc + 3) lv (.ref (ax g 11) :: st)) : Zj X nL (oR g) M pc lv (.ref (ax g 0) :: st) := z_get C inz_6 0 (le_R) rfl 15 rfl tw_688 rfl rfl hd kk
theorem gf_R_43  (C : Zc X cc "SnowRoadModel" nL rm (oR g)) (hd : decode cc pc = .ok (.getfield 43, 3)) (kk : Zj X nL (oR g) M (pc + 3) lv (.ref (ax g 12) :: st)) : Zj X nL (oR g) M pc lv (.ref (ax g 0) :: st) := z_get C inz_6 0 (le_R) rfl 17 rfl tw_690 rfl rfl hd kk
theorem gf_R_46  (C : Zc X cc "SnowRoadModel" nL rm (oR g)) (hd : decode cc pc = .ok (.getfield 46, 3)) (kk : Zj X nL (oR g) M (pc + 3) lv (.ref (ax g 13) :: st)) : Zj X nL (oR g) M pc lv (.ref (ax g 0) :: st) := z_get C inz_6 0 (le_R) rfl 18 rfl tw_691 rfl rfl hd kk
theorem gf_R_49  (C : Zc X cc "SnowRoadModel" nL rm (oR g)) (hd : decode cc pc = .ok (.getfield 49, 3)) (kk : Zj X nL (oR g) M (pc + 3) lv (.ref (ax g 14) :: st)) : Zj X nL (oR g) M pc lv (.ref (ax g 0) :: st) := z_get C inz_6 0 (le_R) rfl 19 rfl tw_692 rfl rfl hd kk
theorem gf_R_52  (C : Zc X cc "SnowRoadModel" nL rm (oR g)) (hd : decode cc pc = .ok (.getfield 52, 3)) (kk : Zj X nL (oR g) M (pc + 3) lv (.ref (ax g 15) :: st)) : Zj X nL (oR g) M pc lv (.ref (ax g 0) :: st) := z_get C inz_6 0 (le_R) rfl 20 rfl tw_693 rfl rfl hd kk
theorem gf_R_55  (C : Zc X cc "SnowRoadModel" nL rm (oR g)) (hd : decode cc pc = .ok (.getfield 55, 3)) (kk : Zj X nL (oR g) M (pc + 3) lv (.ref (ax g 16) :: st)) : Zj X nL (oR g) M pc lv (.ref (ax g 0) :: st) := z_get C inz_6 0 (le_R) rfl 21 rfl tw_694 rfl rfl hd kk
theorem gf_R_58  (C : Zc X cc "SnowRoadModel" nL rm (oR g)) (hd : decode cc pc = .ok (.getfield 58, 3)) (kk : Zj X nL (oR g) M (pc + 3) lv (.ref (ax g 17) :: st)) : Zj X nL (oR g) M pc lv (.ref (ax g 0) :: st) := z_get C inz_6 0 (le_R) rfl 22 rfl tw_695 rfl rfl hd kk
theorem gf_R_61  (C : Zc X cc "SnowRoadModel" nL rm (oR g)) (hd : decode cc pc = .ok (.getfield 61, 3)) (kk : Zj X nL (oR g) M (pc + 3) lv (.ref (ax g 18) :: st)) : Zj X nL (oR g) M pc lv (.ref (ax g 0) :: st) := z_get C inz_6 0 (le_R) rfl 23 rfl tw_696 rfl rfl hd kk
theorem gf_R_64  (C : Zc X cc "SnowRoadModel" nL rm (oR g)) (hd : decode cc pc = .ok (.getfield 64, 3)) (kk : Zj X nL (oR g) M (pc + 3) lv (.ref (ax g 19) :: st)) : Zj X nL (oR g) M pc lv (.ref (ax g 0) :: st) := z_get C inz_6 0 (le_R) rfl 24 rfl tw_697 rfl rfl hd kk
theorem gf_R_67  (C : Zc X cc "SnowRoadModel" nL rm (oR g)) (hd : decode cc pc = .ok (.getfield 67, 3)) (kk : Zj X nL (oR g) M (pc + 3) lv (.ref (ax g 20) :: st)) : Zj X nL (oR g) M pc lv (.ref (ax g 0) :: st) := z_get C inz_6 0 (le_R) rfl 25 rfl tw_698 rfl rfl hd kk
theorem gf_R_70  (C : Zc X cc "SnowRoadModel" nL rm (oR g)) (hd : decode cc pc = .ok (.getfield 70, 3)) (kk : Zj X nL (oR g) M (pc + 3) lv (.ref (ax g 21) :: st)) : Zj X nL (oR g) M pc lv (.ref (ax g 0) :: st) := z_get C inz_6 0 (le_R) rfl 26 rfl tw_699 rfl rfl hd kk
theorem gf_R_73  (C : Zc X cc "SnowRoadModel" nL rm (oR g)) (hd : decode cc pc = .ok (.getfield 73, 3)) (kk : Zj X nL (oR g) M (pc + 3) lv (.ref (ax g 22) :: st)) : Zj X nL (oR g) M pc lv (.ref (ax g 0) :: st) := z_get C inz_6 0 (le_R) rfl 27 rfl tw_700 rfl rfl hd kk
theorem gf_R_76  (C : Zc X cc "SnowRoadModel" nL rm (oR g)) (hd : decode cc pc = .ok (.getfield 76, 3)) (kk : Zj X nL (oR g) M (pc + 3) lv (.ref (ax g 23) :: st)) : Zj X nL (oR g) M pc lv (.ref (ax g 0) :: st) := z_get C inz_6 0 (le_R) rfl 28 rfl tw_701 rfl rfl hd kk
theorem gf_R_79  (C : Zc X cc "SnowRoadModel" nL rm (oR g)) (hd : decode cc pc = .ok (.getfield 79, 3)) (kk : Zj X nL (oR g) M (pc + 3) lv (.ref (ax g 24) :: st)) : Zj X nL (oR g) M pc lv (.ref (ax g 0) :: st) := z_get C inz_6 0 (le_R) rfl 29 rfl tw_702 rfl rfl hd kk
theorem gf_R_82  (C : Zc X cc "SnowRoadModel" nL rm (oR g)) (hd : decode cc pc = .ok (.getfield 82, 3)) (kk : Zj X nL (oR g) M (pc + 3) lv (.ref (ax g 25) :: st)) : Zj X nL (oR g) M pc lv (.ref (ax g 0) :: st) := z_get C inz_6 0 (le_R) rfl 30 rfl tw_703 rfl rfl hd kk
theorem gf_R_85  (C : Zc X cc "SnowRoadModel" nL rm (oR g)) (hd : decode cc pc = .ok (.getfield 85, 3)) (kk : Zj X nL (oR g) M (pc + 3) lv (.ref (ax g 26) :: st)) : Zj X nL (oR g) M pc lv (.ref (ax g 0) :: st) := z_get C inz_6 0 (le_R) rfl 32 rfl tw_705 rfl rfl hd kk
theorem gf_R_88  (C : Zc X cc "SnowRoadModel" nL rm (oR g)) (hd : decode cc pc = .ok (.getfield 88, 3)) (kk : Zj X nL (oR g) M (pc + 3) lv (.ref (ax g 27) :: st)) : Zj X nL (oR g) M pc lv (.ref (ax g 0) :: st) := z_get C inz_6 0 (le_R) rfl 33 rfl tw_706 rfl rfl hd kk
theorem gf_R_91  (C : Zc X cc "SnowRoadModel" nL rm (oR g)) (hd : decode cc pc = .ok (.getfield 91, 3)) (kk : Zj X nL (oR g) M (pc + 3) lv (.int (M 0 13) :: st)) : Zj X nL (oR g) M pc lv (.ref (ax g 0) :: st) := z_get C inz_6 0 (le_R) rfl 13 rfl tw_686 rfl rfl hd kk
theorem gf_R_101  (C : Zc X cc "SnowRoadModel" nL rm (oR g)) (hd : decode cc pc = .ok (.getfield 101, 3)) (kk : Zj X nL (oR g) M (pc + 3) lv (.int (M 0 4) :: st)) : Zj X nL (oR g) M pc lv (.ref (ax g 0) :: st) := z_get C inz_6 0 (le_R) rfl 4 rfl tw_677 rfl rfl hd kk
theorem gf_R_146  (C : Zc X cc "SnowRoadModel" nL rm (oR g)) (hd : decode cc pc = .ok (.getfield 146, 3)) (kk : Zj X nL (oR g) M (pc + 3) lv (.int (M 0 9) :: st)) : Zj X nL (oR g) M pc lv (.ref (ax g 0) :: st) := z_get C inz_6 0 (le_R) rfl 9 rfl tw_682 rfl rfl hd kk
theorem gf_R_152  (C : Zc X cc "SnowRoadModel" nL rm (oR g)) (hd : decode cc pc = .ok (.getfield 152, 3)) (kk : Zj X nL (oR g) M (pc + 3) lv (.int (M 0 11) :: st)) : Zj X nL (oR g) M pc lv (.ref (ax g 0) :: st) := z_get C inz_6 0 (le_R) rfl 11 rfl tw_684 rfl rfl hd kk
theorem gf_R_189  (C : Zc X cc "SnowRoadModel" nL rm (oR g)) (hd : decode cc pc = .ok (.getfield 189, 3)) (kk : Zj X nL (oR g) M (pc + 3) lv (.int (M 0 14) :: st)) : Zj X nL (oR g) M pc lv (.ref (ax g 0) :: st) := z_get C inz_6 0 (le_R) rfl 14 rfl tw_687 rfl rfl hd kk
theorem gf_R_194  (C : Zc X cc "SnowRoadModel" nL rm (oR g)) (hd : decode cc pc = .ok (.getfield 194, 3)) (kk : Zj X nL (oR g) M (pc + 3) lv (.int (M 0 16) :: st)) : Zj X nL (oR g) M pc lv (.ref (ax g 0) :: st) := z_get C inz_6 0 (le_R) rfl 16 rfl tw_689 rfl rfl hd kk
theorem gf_R_281  (C : Zc X cc "SnowRoadModel" nL rm (oR g)) (hd : decode cc pc = .ok (.getfield 281, 3)) (kk : Zj X nL (oR g) M (pc + 3) lv (.int (M 0 31) :: st)) : Zj X nL (oR g) M pc lv (.ref (ax g 0) :: st) := z_get C inz_6 0 (le_R) rfl 31 rfl tw_704 rfl rfl hd kk
theorem gf_R_321  (C : Zc X cc "SnowRoadModel" nL rm (oR g)) (hd : decode cc pc = .ok (.getfield 321, 3)) (kk : Zj X nL (oR g) M (pc + 3) lv (.int (M 0 34) :: st)) : Zj X nL (oR g) M pc lv (.ref (ax g 0) :: st) := z_get C inz_6 0 (le_R) rfl 34 rfl tw_707 rfl rfl hd kk
theorem pp_X_35  {v : Int32} (C : Zc X cc "SnowRoad" nL rm (oX g)) (hd : decode cc pc = .ok (.putfield 35, 3)) (kk : ∀ M2, M2 = upm M 0 4 v → Zj X nL (oX g) M2 (pc + 3) lv st) : Zj X nL (oX g) M pc lv (.int v :: .ref (ax g 0) :: st) := z_put C inz_5 tyX5 tyX5_ok nmX5 0 (le_X) rfl 4 rfl tw_214 rfl rfl (ty := .int) (by decide +kernel) rfl rfl (Nat.le_of_ble_eq_true rfl) hd (sf_X_4 v) (kk _ rfl)
theorem pp_X_49  {v : Int32} (hz : v = 0 ∨ v = 1) (C : Zc X cc "SnowRoad" nL rm (oX g)) (hd : decode cc pc = .ok (.putfield 49, 3)) (kk : ∀ M2, M2 = upm M 0 7 v → Zj X nL (oX g) M2 (pc + 3) lv st) : Zj X nL (oX g) M pc lv (.int v :: .ref (ax g 0) :: st) := z_put C inz_5 tyX5 tyX5_ok nmX5 0 (le_X) rfl 7 rfl tw_217 rfl rfl (ty := .boolean) (by decide +kernel) (by rcases hz with rfl | rfl <;> rfl) (by rcases hz with rfl | rfl <;> rfl) (Nat.le_of_ble_eq_true rfl) hd (sf_X_7 v) (kk _ rfl)
theorem pp_X_57  {v : Int32} (hz : v = 0 ∨ v = 1) (C : Zc X cc "SnowRoad" nL rm (oX g)) (hd : decode cc pc = .ok (.putfield 57, 3)) (kk : ∀ M2, M2 = upm M 0 9 v → Zj X nL (oX g) M2 (pc + 3) lv st) : Zj X nL (oX g) M pc lv (.int v :: .ref (ax g 0) :: st) := z_put C inz_5 tyX5 tyX5_ok nmX5 0 (le_X) rfl 9 rfl tw_219 rfl rfl (ty := .boolean) (by decide +kernel) (by rcases hz with rfl | rfl <;> rfl) (by rcases hz with rfl | rfl <;> rfl) (Nat.le_of_ble_eq_true rfl) hd (sf_X_9 v) (kk _ rfl)
theorem pp_X_81 {t : Nat} (ht : t < 4) {v : Int32} (C : Zc X cc "SnowRoad" nL rm (oX g)) (hd : decode cc pc = .ok (.putfield 81, 3)) (kk : ∀ M2, M2 = upm M (2 + 2 * t) 2 v → Zj X nL (oX g) M2 (pc + 3) lv st) : Zj X nL (oX g) M pc lv (.int v :: .ref (ax g (2 + 2 * t)) :: st) := z_put C inz_2 tyX2 tyX2_ok nmX2 (2 + 2 * t) (le_XT ht) rfl 2 rfl tw_184 rfl rfl (ty := .int) (by decide +kernel) rfl rfl (Nat.le_of_ble_eq_true rfl) hd (sf_XT_2 ht v) (kk _ rfl)
theorem pp_X_112  {v : Int32} (C : Zc X cc "SnowRoad" nL rm (oX g)) (hd : decode cc pc = .ok (.putfield 112, 3)) (kk : ∀ M2, M2 = upm M 10 8 v → Zj X nL (oX g) M2 (pc + 3) lv st) : Zj X nL (oX g) M pc lv (.int v :: .ref (ax g 10) :: st) := z_put C inz_3 tyX3 tyX3_ok nmX3 10 (le_XO) rfl 8 rfl tw_54 rfl rfl (ty := .int) (by decide +kernel) rfl rfl (Nat.le_of_ble_eq_true rfl) hd (sf_XO_8 v) (kk _ rfl)
theorem pp_X_125  {v : Int32} (C : Zc X cc "SnowRoad" nL rm (oX g)) (hd : decode cc pc = .ok (.putfield 125, 3)) (kk : ∀ M2, M2 = upm M 10 9 v → Zj X nL (oX g) M2 (pc + 3) lv st) : Zj X nL (oX g) M pc lv (.int v :: .ref (ax g 10) :: st) := z_put C inz_3 tyX3 tyX3_ok nmX3 10 (le_XO) rfl 9 rfl tw_57 rfl rfl (ty := .int) (by decide +kernel) rfl rfl (Nat.le_of_ble_eq_true rfl) hd (sf_XO_9 v) (kk _ rfl)
theorem pp_X_128 {s : Nat} (hs : s < 4) {v : Int32} (C : Zc X cc "SnowRoad" nL rm (oX g)) (hd : decode cc pc = .ok (.putfield 128, 3)) (kk : ∀ M2, M2 = upm M (24 + 2 * s) 1 v → Zj X nL (oX g) M2 (pc + 3) lv st) : Zj X nL (oX g) M pc lv (.int v :: .ref (ax g (24 + 2 * s)) :: st) := z_put C inz_0 tyX0 tyX0_ok nmX0 (24 + 2 * s) (le_XH hs) rfl 1 rfl tw_200 rfl rfl (ty := .int) (by decide +kernel) rfl rfl (Nat.le_of_ble_eq_true rfl) hd (sf_XH_1 hs v) (kk _ rfl)
theorem pp_X_218  {v : Int32} (C : Zc X cc "SnowRoad" nL rm (oX g)) (hd : decode cc pc = .ok (.putfield 218, 3)) (kk : ∀ M2, M2 = upm M 20 2 v → Zj X nL (oX g) M2 (pc + 3) lv st) : Zj X nL (oX g) M pc lv (.int v :: .ref (ax g 20) :: st) := z_put C inz_1 tyX1 tyX1_ok nmX1 20 (le_XG) rfl 2 rfl tw_101 rfl rfl (ty := .int) (by decide +kernel) rfl rfl (Nat.le_of_ble_eq_true rfl) hd (sf_XG_2 v) (kk _ rfl)
theorem pp_XH_15 {s : Nat} (hs : s < 4) {v : Int32} (C : Zc X cc "SnowRoad$Sheet" nL rm (oX g)) (hd : decode cc pc = .ok (.putfield 15, 3)) (kk : ∀ M2, M2 = upm M (24 + 2 * s) 1 v → Zj X nL (oX g) M2 (pc + 3) lv st) : Zj X nL (oX g) M pc lv (.int v :: .ref (ax g (24 + 2 * s)) :: st) := z_put C inz_0 tyX0 tyX0_ok nmX0 (24 + 2 * s) (le_XH hs) rfl 1 rfl tw_199 rfl rfl (ty := .int) (by decide +kernel) rfl rfl (Nat.le_of_ble_eq_true rfl) hd (sf_XH_1 hs v) (kk _ rfl)
theorem pp_XH_19 {s : Nat} (hs : s < 4) {v : Int32} (C : Zc X cc "SnowRoad$Sheet" nL rm (oX g)) (hd : decode cc pc = .ok (.putfield 19, 3)) (kk : ∀ M2, M2 = upm M (24 + 2 * s) 2 v → Zj X nL (oX g) M2 (pc + 3) lv st) : Zj X nL (oX g) M pc lv (.int v :: .ref (ax g (24 + 2 * s)) :: st) := z_put C inz_0 tyX0 tyX0_ok nmX0 (24 + 2 * s) (le_XH hs) rfl 2 rfl tw_201 rfl rfl (ty := .int) (by decide +kernel) rfl rfl (Nat.le_of_ble_eq_true rfl) hd (sf_XH_2 hs v) (kk _ rfl)
theorem pp_XG_18  {v : Int32} (C : Zc X cc "SnowRoad$Sightings" nL rm (oX g)) (hd : decode cc pc = .ok (.putfield 18, 3)) (kk : ∀ M2, M2 = upm M 20 2 v → Zj X nL (oX g) M2 (pc + 3) lv st) : Zj X nL (oX g) M pc lv (.int v :: .ref (ax g 20) :: st) := z_put C inz_1 tyX1 tyX1_ok nmX1 20 (le_XG) rfl 2 rfl tw_100 rfl rfl (ty := .int) (by decide +kernel) rfl rfl (Nat.le_of_ble_eq_true rfl) hd (sf_XG_2 v) (kk _ rfl)
theorem pp_XT_9 {t : Nat} (ht : t < 4) {v : Int32} (C : Zc X cc "SnowRoad$Text" nL rm (oX g)) (hd : decode cc pc = .ok (.putfield 9, 3)) (kk : ∀ M2, M2 = upm M (2 + 2 * t) 2 v → Zj X nL (oX g) M2 (pc + 3) lv st) : Zj X nL (oX g) M pc lv (.int v :: .ref (ax g (2 + 2 * t)) :: st) := z_put C inz_2 tyX2 tyX2_ok nmX2 (2 + 2 * t) (le_XT ht) rfl 2 rfl tw_183 rfl rfl (ty := .int) (by decide +kernel) rfl rfl (Nat.le_of_ble_eq_true rfl) hd (sf_XT_2 ht v) (kk _ rfl)
theorem pp_XO_18  {v : Int32} (C : Zc X cc "SnowRoad$Told" nL rm (oX g)) (hd : decode cc pc = .ok (.putfield 18, 3)) (kk : ∀ M2, M2 = upm M 10 2 v → Zj X nL (oX g) M2 (pc + 3) lv st) : Zj X nL (oX g) M pc lv (.int v :: .ref (ax g 10) :: st) := z_put C inz_3 tyX3 tyX3_ok nmX3 10 (le_XO) rfl 2 rfl tw_34 rfl rfl (ty := .int) (by decide +kernel) rfl rfl (Nat.le_of_ble_eq_true rfl) hd (sf_XO_2 v) (kk _ rfl)
theorem pp_XO_31  {v : Int32} (C : Zc X cc "SnowRoad$Told" nL rm (oX g)) (hd : decode cc pc = .ok (.putfield 31, 3)) (kk : ∀ M2, M2 = upm M 10 6 v → Zj X nL (oX g) M2 (pc + 3) lv st) : Zj X nL (oX g) M pc lv (.int v :: .ref (ax g 10) :: st) := z_put C inz_3 tyX3 tyX3_ok nmX3 10 (le_XO) rfl 6 rfl tw_46 rfl rfl (ty := .int) (by decide +kernel) rfl rfl (Nat.le_of_ble_eq_true rfl) hd (sf_XO_6 v) (kk _ rfl)
theorem pp_XO_40  {v : Int32} (C : Zc X cc "SnowRoad$Told" nL rm (oX g)) (hd : decode cc pc = .ok (.putfield 40, 3)) (kk : ∀ M2, M2 = upm M 10 9 v → Zj X nL (oX g) M2 (pc + 3) lv st) : Zj X nL (oX g) M pc lv (.int v :: .ref (ax g 10) :: st) := z_put C inz_3 tyX3 tyX3_ok nmX3 10 (le_XO) rfl 9 rfl tw_55 rfl rfl (ty := .int) (by decide +kernel) rfl rfl (Nat.le_of_ble_eq_true rfl) hd (sf_XO_9 v) (kk _ rfl)
theorem pp_XW_36 {w : Nat} (hw : w = 32 ∨ w = 44) {v : Int32} (C : Zc X cc "SnowRoad$Winter" nL rm (oX g)) (hd : decode cc pc = .ok (.putfield 36, 3)) (kk : ∀ M2, M2 = upm M w 8 v → Zj X nL (oX g) M2 (pc + 3) lv st) : Zj X nL (oX g) M pc lv (.int v :: .ref (ax g w) :: st) := z_put C inz_4 tyX4 tyX4_ok nmX4 w (le_XW hw) rfl 8 rfl tw_132 rfl rfl (ty := .int) (by decide +kernel) rfl rfl (Nat.le_of_ble_eq_true rfl) hd (sf_XW_8 hw v) (kk _ rfl)
theorem pp_XW_49 {w : Nat} (hw : w = 32 ∨ w = 44) {v : Int32} (C : Zc X cc "SnowRoad$Winter" nL rm (oX g)) (hd : decode cc pc = .ok (.putfield 49, 3)) (kk : ∀ M2, M2 = upm M w 12 v → Zj X nL (oX g) M2 (pc + 3) lv st) : Zj X nL (oX g) M pc lv (.int v :: .ref (ax g w) :: st) := z_put C inz_4 tyX4 tyX4_ok nmX4 w (le_XW hw) rfl 12 rfl tw_136 rfl rfl (ty := .int) (by decide +kernel) rfl rfl (Nat.le_of_ble_eq_true rfl) hd (sf_XW_12 hw v) (kk _ rfl)
theorem pp_XW_52 {w : Nat} (hw : w = 32 ∨ w = 44) {v : Int32} (C : Zc X cc "SnowRoad$Winter" nL rm (oX g)) (hd : decode cc pc = .ok (.putfield 52, 3)) (kk : ∀ M2, M2 = upm M w 13 v → Zj X nL (oX g) M2 (pc + 3) lv st) : Zj X nL (oX g) M pc lv (.int v :: .ref (ax g w) :: st) := z_put C inz_4 tyX4 tyX4_ok nmX4 w (le_XW hw) rfl 13 rfl tw_138 rfl rfl (ty := .int) (by decide +kernel) rfl rfl (Nat.le_of_ble_eq_true rfl) hd (sf_XW_13 hw v) (kk _ rfl)
theorem pp_XW_55 {w : Nat} (hw : w = 32 ∨ w = 44) {v : Int32} (C : Zc X cc "SnowRoad$Winter" nL rm (oX g)) (hd : decode cc pc = .ok (.putfield 55, 3)) (kk : ∀ M2, M2 = upm M w 14 v → Zj X nL (oX g) M2 (pc + 3) lv st) : Zj X nL (oX g) M pc lv (.int v :: .ref (ax g w) :: st) := z_put C inz_4 tyX4 tyX4_ok nmX4 w (le_XW hw) rfl 14 rfl tw_140 rfl rfl (ty := .int) (by decide +kernel) rfl rfl (Nat.le_of_ble_eq_true rfl) hd (sf_XW_14 hw v) (kk _ rfl)
theorem pp_R_91  {v : Int32} (C : Zc X cc "SnowRoadModel" nL rm (oR g)) (hd : decode cc pc = .ok (.putfield 91, 3)) (kk : ∀ M2, M2 = upm M 0 13 v → Zj X nL (oR g) M2 (pc + 3) lv st) : Zj X nL (oR g) M pc lv (.int v :: .ref (ax g 0) :: st) := z_put C inz_6 tyX6 tyX6_ok nmX6 0 (le_R) rfl 13 rfl tw_686 rfl rfl (ty := .int) (by decide +kernel) rfl rfl (Nat.le_of_ble_eq_true rfl) hd (sf_R_13 v) (kk _ rfl)
theorem pp_R_101  {v : Int32} (C : Zc X cc "SnowRoadModel" nL rm (oR g)) (hd : decode cc pc = .ok (.putfield 101, 3)) (kk : ∀ M2, M2 = upm M 0 4 v → Zj X nL (oR g) M2 (pc + 3) lv st) : Zj X nL (oR g) M pc lv (.int v :: .ref (ax g 0) :: st) := z_put C inz_6 tyX6 tyX6_ok nmX6 0 (le_R) rfl 4 rfl tw_677 rfl rfl (ty := .int) (by decide +kernel) rfl rfl (Nat.le_of_ble_eq_true rfl) hd (sf_R_4 v) (kk _ rfl)
theorem pp_R_146  {v : Int32} (C : Zc X cc "SnowRoadModel" nL rm (oR g)) (hd : decode cc pc = .ok (.putfield 146, 3)) (kk : ∀ M2, M2 = upm M 0 9 v → Zj X nL (oR g) M2 (pc + 3) lv st) : Zj X nL (oR g) M pc lv (.int v :: .ref (ax g 0) :: st) := z_put C inz_6 tyX6 tyX6_ok nmX6 0 (le_R) rfl 9 rfl tw_682 rfl rfl (ty := .int) (by decide +kernel) rfl rfl (Nat.le_of_ble_eq_true rfl) hd (sf_R_9 v) (kk _ rfl)
theorem pp_R_152  {v : Int32} (C : Zc X cc "SnowRoadModel" nL rm (oR g)) (hd : decode cc pc = .ok (.putfield 152, 3)) (kk : ∀ M2, M2 = upm M 0 11 v → Zj X nL (oR g) M2 (pc + 3) lv st) : Zj X nL (oR g) M pc lv (.int v :: .ref (ax g 0) :: st) := z_put C inz_6 tyX6 tyX6_ok nmX6 0 (le_R) rfl 11 rfl tw_684 rfl rfl (ty := .int) (by decide +kernel) rfl rfl (Nat.le_of_ble_eq_true rfl) hd (sf_R_11 v) (kk _ rfl)
theorem pp_R_189  {v : Int32} (C : Zc X cc "SnowRoadModel" nL rm (oR g)) (hd : decode cc pc = .ok (.putfield 189, 3)) (kk : ∀ M2, M2 = upm M 0 14 v → Zj X nL (oR g) M2 (pc + 3) lv st) : Zj X nL (oR g) M pc lv (.int v :: .ref (ax g 0) :: st) := z_put C inz_6 tyX6 tyX6_ok nmX6 0 (le_R) rfl 14 rfl tw_687 rfl rfl (ty := .int) (by decide +kernel) rfl rfl (Nat.le_of_ble_eq_true rfl) hd (sf_R_14 v) (kk _ rfl)
theorem pp_R_194  {v : Int32} (C : Zc X cc "SnowRoadModel" nL rm (oR g)) (hd : decode cc pc = .ok (.putfield 194, 3)) (kk : ∀ M2, M2 = upm M 0 16 v → Zj X nL (oR g) M2 (pc + 3) lv st) : Zj X nL (oR g) M pc lv (.int v :: .ref (ax g 0) :: st) := z_put C inz_6 tyX6 tyX6_ok nmX6 0 (le_R) rfl 16 rfl tw_689 rfl rfl (ty := .int) (by decide +kernel) rfl rfl (Nat.le_of_ble_eq_true rfl) hd (sf_R_16 v) (kk _ rfl)
theorem pp_R_281  {v : Int32} (C : Zc X cc "SnowRoadModel" nL rm (oR g)) (hd : decode cc pc = .ok (.putfield 281, 3)) (kk : ∀ M2, M2 = upm M 0 31 v → Zj X nL (oR g) M2 (pc + 3) lv st) : Zj X nL (oR g) M pc lv (.int v :: .ref (ax g 0) :: st) := z_put C inz_6 tyX6 tyX6_ok nmX6 0 (le_R) rfl 31 rfl tw_704 rfl rfl (ty := .int) (by decide +kernel) rfl rfl (Nat.le_of_ble_eq_true rfl) hd (sf_R_31 v) (kk _ rfl)
theorem pp_R_321  {v : Int32} (C : Zc X cc "SnowRoadModel" nL rm (oR g)) (hd : decode cc pc = .ok (.putfield 321, 3)) (kk : ∀ M2, M2 = upm M 0 34 v → Zj X nL (oR g) M2 (pc + 3) lv st) : Zj X nL (oR g) M pc lv (.int v :: .ref (ax g 0) :: st) := z_put C inz_6 tyX6 tyX6_ok nmX6 0 (le_R) rfl 34 rfl tw_707 rfl rfl (ty := .int) (by decide +kernel) rfl rfl (Nat.le_of_ble_eq_true rfl) hd (sf_R_34 v) (kk _ rfl)
theorem sf_falls {M0 : Mem} {x : Int32} (hx : fz M0 = (if x = 0 then 12 else 57)) : ((oX g).2.2.2.1 M).set 10 (ax g 10, .inr (3, (([.ref (ax g 11), .ref (ax g (fz M)), .int (M 10 2), .ref (ax g 13), .ref (ax g 14), .ref (ax g 15), .int (M 10 6), .ref (ax g 16), .int (M 10 8), .int (M 10 9), .ref (ax g 17), .ref (ax g 18), .ref (ax g 19)] : List Value).set 1 (.ref (ax g (fz M0)))))) = (oX g).2.2.2.1 (upm M 59 0 x) := by
  have h : fz (upm M 59 0 x) = fz M0 := by rw [hx]; rfl
  show _ = wX g (upm M 59 0 x)
  unfold wX
  rw [h]
  rfl
theorem pp_fallsG {M0 : Mem} {x : Int32} (hx : fz M0 = (if x = 0 then 12 else 57)) (C : Zc X cc "SnowRoad" nL rm (oX g)) {idx : Nat} (hl : Cond.fieldLink "SnowRoad" idx "SnowRoad$Told" "falls" "[I" ∈ zt) (hd : decode cc pc = .ok (.putfield idx, 3)) (kk : ∀ M2, M2 = upm M 59 0 x → Zj X nL (oX g) M2 (pc + 3) lv st) : Zj X nL (oX g) M pc lv (.ref (ax g (fz M0)) :: .ref (ax g 10) :: st) := z_put C inz_3 tyX3 tyX3_ok nmX3 10 le_XO rfl 1 rfl hl rfl rfl (ty := .array .int) (by decide +kernel) rfl rfl (Nat.le_of_ble_eq_true rfl) hd (sf_falls hx) (kk _ rfl)
theorem pp_fallsO {M0 : Mem} (C : Zc X cc "SnowRoad" nL rm (oX g)) {idx : Nat} (hl : Cond.fieldLink "SnowRoad" idx "SnowRoad$Told" "falls" "[I" ∈ zt) (hd : decode cc pc = .ok (.putfield idx, 3)) (kk : ∀ M2, M2 = upm M 59 0 (M0 59 0) → Zj X nL (oX g) M2 (pc + 3) lv st) : Zj X nL (oX g) M pc lv (.ref (ax g (fz M0)) :: .ref (ax g 10) :: st) := pp_fallsG rfl C hl hd kk
theorem pp_fallsD (C : Zc X cc "SnowRoad" nL rm (oX g)) {idx : Nat} (hl : Cond.fieldLink "SnowRoad" idx "SnowRoad$Told" "falls" "[I" ∈ zt) (hd : decode cc pc = .ok (.putfield idx, 3)) (kk : ∀ M2, M2 = upm M 59 0 1 → Zj X nL (oX g) M2 (pc + 3) lv st) : Zj X nL (oX g) M pc lv (.ref (ax g 57) :: .ref (ax g 10) :: st) := pp_fallsG (M0 := fun _ _ => 1) rfl C hl hd kk
theorem z_aaldText {own : String} (C : Zc X cc own nL rm (oX g)) {i : Int32} (hi : vp_in i 4) (hd : decode cc pc = .ok (.aaload, 1)) (kk : Zj X nL (oX g) M (pc + 1) lv (.ref (ax g (2 + 2 * (tn i))) :: st)) : Zj X nL (oX g) M pc lv (.int i :: .ref (ax g 1) :: st) := z_aald C 1 1 (by rfl) (by rfl) hi (by rfl) hd kk
theorem z_aaldSheet {own : String} (C : Zc X cc own nL rm (oX g)) {i : Int32} (hi : vp_in i 4) (hd : decode cc pc = .ok (.aaload, 1)) (kk : Zj X nL (oX g) M (pc + 1) lv (.ref (ax g (24 + 2 * (tn i))) :: st)) : Zj X nL (oX g) M pc lv (.int i :: .ref (ax g 23) :: st) := z_aald C 23 2 (by rfl) (by rfl) hi (by rfl) hd kk
end ZF
end
section
theorem i_vc : Claimed_1_1 ∧ Claimed_1_2 := sorry
end
