section
-- ===== PART A: goes FIRST, ahead of the names: the tables' words, and 'selects' of the private methods out of them =====
/-- a private method of a class that the tables say can be made, by its rows of tables_1 -/
def lw_okq (q : MethodName × Nat) : Prop := (q.1.cls ≠ "java/lang/invoke/MethodHandle" ∧ q.1.cls ≠ "java/lang/invoke/VarHandle") ∧ Cond.instantiable q.1.cls q.2 ∈ tables_1 ∧ Cond.privateMethod q.1 ∈ tables_1 ∧ Cond.instanceMethod q.1 ∈ tables_1
theorem lw_p0 : lw_okq (⟨"SnowRoad", "takeText", "(I)V"⟩, 12) := ⟨⟨by decide +kernel, by decide +kernel⟩, List.mem_of_getElem? (i := 13) (by decide +kernel), List.mem_of_getElem? (i := 259) (by decide +kernel), List.mem_of_getElem? (i := 260) (by decide +kernel)⟩
theorem lw_p1 : lw_okq (⟨"SnowRoad$Text", "mayStand", "(II)Z"⟩, 3) := ⟨⟨by decide +kernel, by decide +kernel⟩, List.mem_of_getElem? (i := 173) (by decide +kernel), List.mem_of_getElem? (i := 275) (by decide +kernel), List.mem_of_getElem? (i := 276) (by decide +kernel)⟩
theorem lw_p2 : lw_okq (⟨"SnowRoad", "changed", "()V"⟩, 12) := ⟨⟨by decide +kernel, by decide +kernel⟩, List.mem_of_getElem? (i := 13) (by decide +kernel), List.mem_of_getElem? (i := 294) (by decide +kernel), List.mem_of_getElem? (i := 295) (by decide +kernel)⟩
theorem lw_p3 : lw_okq (⟨"SnowRoad", "found", "(I)I"⟩, 12) := ⟨⟨by decide +kernel, by decide +kernel⟩, List.mem_of_getElem? (i := 13) (by decide +kernel), List.mem_of_getElem? (i := 350) (by decide +kernel), List.mem_of_getElem? (i := 351) (by decide +kernel)⟩
theorem lw_p4 : lw_okq (⟨"SnowRoad", "asTold", "()LSnowRoad$Winter;"⟩, 12) := ⟨⟨by decide +kernel, by decide +kernel⟩, List.mem_of_getElem? (i := 13) (by decide +kernel), List.mem_of_getElem? (i := 359) (by decide +kernel), List.mem_of_getElem? (i := 360) (by decide +kernel)⟩
theorem lw_p5 : lw_okq (⟨"SnowRoad", "allEvents", "()I"⟩, 12) := ⟨⟨by decide +kernel, by decide +kernel⟩, List.mem_of_getElem? (i := 13) (by decide +kernel), List.mem_of_getElem? (i := 363) (by decide +kernel), List.mem_of_getElem? (i := 364) (by decide +kernel)⟩
theorem lw_p6 : lw_okq (⟨"SnowRoad$Winter", "sortEvents", "(LSnowRoad$Told;I)V"⟩, 15) := ⟨⟨by decide +kernel, by decide +kernel⟩, List.mem_of_getElem? (i := 112) (by decide +kernel), List.mem_of_getElem? (i := 374) (by decide +kernel), List.mem_of_getElem? (i := 375) (by decide +kernel)⟩
theorem lw_p7 : lw_okq (⟨"SnowRoad$Winter", "sortEvent", "(III)V"⟩, 15) := ⟨⟨by decide +kernel, by decide +kernel⟩, List.mem_of_getElem? (i := 112) (by decide +kernel), List.mem_of_getElem? (i := 378) (by decide +kernel), List.mem_of_getElem? (i := 379) (by decide +kernel)⟩
theorem lw_p8 : lw_okq (⟨"SnowRoad$Winter", "snowFalls", "([II)V"⟩, 15) := ⟨⟨by decide +kernel, by decide +kernel⟩, List.mem_of_getElem? (i := 112) (by decide +kernel), List.mem_of_getElem? (i := 382) (by decide +kernel), List.mem_of_getElem? (i := 383) (by decide +kernel)⟩
theorem lw_p9 : lw_okq (⟨"SnowRoad$Winter", "windCarries", "([II)V"⟩, 15) := ⟨⟨by decide +kernel, by decide +kernel⟩, List.mem_of_getElem? (i := 112) (by decide +kernel), List.mem_of_getElem? (i := 386) (by decide +kernel), List.mem_of_getElem? (i := 387) (by decide +kernel)⟩
theorem lw_p10 : lw_okq (⟨"SnowRoad$Winter", "snowThaws", "(LSnowRoad$Told;II)V"⟩, 15) := ⟨⟨by decide +kernel, by decide +kernel⟩, List.mem_of_getElem? (i := 112) (by decide +kernel), List.mem_of_getElem? (i := 390) (by decide +kernel), List.mem_of_getElem? (i := 391) (by decide +kernel)⟩
theorem lw_p11 : lw_okq (⟨"SnowRoad$Winter", "ploughsGo", "(LSnowRoad$Told;I)V"⟩, 15) := ⟨⟨by decide +kernel, by decide +kernel⟩, List.mem_of_getElem? (i := 112) (by decide +kernel), List.mem_of_getElem? (i := 394) (by decide +kernel), List.mem_of_getElem? (i := 395) (by decide +kernel)⟩
theorem lw_p12 : lw_okq (⟨"SnowRoad$Winter", "ploughGoes", "(II)I"⟩, 15) := ⟨⟨by decide +kernel, by decide +kernel⟩, List.mem_of_getElem? (i := 112) (by decide +kernel), List.mem_of_getElem? (i := 398) (by decide +kernel), List.mem_of_getElem? (i := 399) (by decide +kernel)⟩
theorem lw_p13 : lw_okq (⟨"SnowRoad$Winter", "rideOn", "(II)I"⟩, 15) := ⟨⟨by decide +kernel, by decide +kernel⟩, List.mem_of_getElem? (i := 112) (by decide +kernel), List.mem_of_getElem? (i := 417) (by decide +kernel), List.mem_of_getElem? (i := 418) (by decide +kernel)⟩
theorem lw_p14 : lw_okq (⟨"SnowRoad", "tryLand", "(II)V"⟩, 12) := ⟨⟨by decide +kernel, by decide +kernel⟩, List.mem_of_getElem? (i := 13) (by decide +kernel), List.mem_of_getElem? (i := 471) (by decide +kernel), List.mem_of_getElem? (i := 472) (by decide +kernel)⟩
theorem lw_p15 : lw_okq (⟨"SnowRoad", "sparedEvents", "()I"⟩, 12) := ⟨⟨by decide +kernel, by decide +kernel⟩, List.mem_of_getElem? (i := 13) (by decide +kernel), List.mem_of_getElem? (i := 483) (by decide +kernel), List.mem_of_getElem? (i := 484) (by decide +kernel)⟩
def lw_privs_1 : List (MethodName × Nat) := [(⟨"SnowRoad", "takeText", "(I)V"⟩, 12), (⟨"SnowRoad$Text", "mayStand", "(II)Z"⟩, 3), (⟨"SnowRoad", "changed", "()V"⟩, 12), (⟨"SnowRoad", "found", "(I)I"⟩, 12), (⟨"SnowRoad", "asTold", "()LSnowRoad$Winter;"⟩, 12), (⟨"SnowRoad", "allEvents", "()I"⟩, 12), (⟨"SnowRoad$Winter", "sortEvents", "(LSnowRoad$Told;I)V"⟩, 15), (⟨"SnowRoad$Winter", "sortEvent", "(III)V"⟩, 15), (⟨"SnowRoad$Winter", "snowFalls", "([II)V"⟩, 15), (⟨"SnowRoad$Winter", "windCarries", "([II)V"⟩, 15), (⟨"SnowRoad$Winter", "snowThaws", "(LSnowRoad$Told;II)V"⟩, 15), (⟨"SnowRoad$Winter", "ploughsGo", "(LSnowRoad$Told;I)V"⟩, 15), (⟨"SnowRoad$Winter", "ploughGoes", "(II)I"⟩, 15), (⟨"SnowRoad$Winter", "rideOn", "(II)I"⟩, 15), (⟨"SnowRoad", "tryLand", "(II)V"⟩, 12), (⟨"SnowRoad", "sparedEvents", "()I"⟩, 12)]
theorem lw_r1 : ∀ q ∈ lw_privs_1, lw_okq q := List.forall_mem_cons.mpr ⟨lw_p0, List.forall_mem_cons.mpr ⟨lw_p1, List.forall_mem_cons.mpr ⟨lw_p2, List.forall_mem_cons.mpr ⟨lw_p3, List.forall_mem_cons.mpr ⟨lw_p4, List.forall_mem_cons.mpr ⟨lw_p5, List.forall_mem_cons.mpr ⟨lw_p6, List.forall_mem_cons.mpr ⟨lw_p7, List.forall_mem_cons.mpr ⟨lw_p8, List.forall_mem_cons.mpr ⟨lw_p9, List.forall_mem_cons.mpr ⟨lw_p10, List.forall_mem_cons.mpr ⟨lw_p11, List.forall_mem_cons.mpr ⟨lw_p12, List.forall_mem_cons.mpr ⟨lw_p13, List.forall_mem_cons.mpr ⟨lw_p14, List.forall_mem_cons.mpr ⟨lw_p15, fun _ h => absurd h List.not_mem_nil⟩⟩⟩⟩⟩⟩⟩⟩⟩⟩⟩⟩⟩⟩⟩⟩
theorem lw_p16 : lw_okq (⟨"SnowRoad", "allOverBut", "(I)Z"⟩, 12) := ⟨⟨by decide +kernel, by decide +kernel⟩, List.mem_of_getElem? (i := 13) (by decide +kernel), List.mem_of_getElem? (i := 487) (by decide +kernel), List.mem_of_getElem? (i := 488) (by decide +kernel)⟩
theorem lw_p17 : lw_okq (⟨"SnowRoad", "tryStrength", "(II)V"⟩, 12) := ⟨⟨by decide +kernel, by decide +kernel⟩, List.mem_of_getElem? (i := 13) (by decide +kernel), List.mem_of_getElem? (i := 525) (by decide +kernel), List.mem_of_getElem? (i := 526) (by decide +kernel)⟩
theorem lw_p18 : lw_okq (⟨"SnowRoad", "mostAlike", "(II)I"⟩, 12) := ⟨⟨by decide +kernel, by decide +kernel⟩, List.mem_of_getElem? (i := 13) (by decide +kernel), List.mem_of_getElem? (i := 538) (by decide +kernel), List.mem_of_getElem? (i := 539) (by decide +kernel)⟩
theorem lw_p19 : lw_okq (⟨"SnowRoad", "sameDrift", "(III)Z"⟩, 12) := ⟨⟨by decide +kernel, by decide +kernel⟩, List.mem_of_getElem? (i := 13) (by decide +kernel), List.mem_of_getElem? (i := 542) (by decide +kernel), List.mem_of_getElem? (i := 543) (by decide +kernel)⟩
theorem lw_p20 : lw_okq (⟨"SnowRoad", "countChoices", "()V"⟩, 12) := ⟨⟨by decide +kernel, by decide +kernel⟩, List.mem_of_getElem? (i := 13) (by decide +kernel), List.mem_of_getElem? (i := 554) (by decide +kernel), List.mem_of_getElem? (i := 555) (by decide +kernel)⟩
theorem lw_p21 : lw_okq (⟨"SnowRoad", "drawFall", "(II)V"⟩, 12) := ⟨⟨by decide +kernel, by decide +kernel⟩, List.mem_of_getElem? (i := 13) (by decide +kernel), List.mem_of_getElem? (i := 567) (by decide +kernel), List.mem_of_getElem? (i := 568) (by decide +kernel)⟩
theorem lw_p22 : lw_okq (⟨"SnowRoad", "allBytes", "()I"⟩, 12) := ⟨⟨by decide +kernel, by decide +kernel⟩, List.mem_of_getElem? (i := 13) (by decide +kernel), List.mem_of_getElem? (i := 620) (by decide +kernel), List.mem_of_getElem? (i := 621) (by decide +kernel)⟩
theorem lw_p23 : lw_okq (⟨"SnowRoad", "mixPlough", "(JI)J"⟩, 12) := ⟨⟨by decide +kernel, by decide +kernel⟩, List.mem_of_getElem? (i := 13) (by decide +kernel), List.mem_of_getElem? (i := 640) (by decide +kernel), List.mem_of_getElem? (i := 641) (by decide +kernel)⟩
theorem lw_p24 : lw_okq (⟨"SnowRoad", "mixBus", "(JI)J"⟩, 12) := ⟨⟨by decide +kernel, by decide +kernel⟩, List.mem_of_getElem? (i := 13) (by decide +kernel), List.mem_of_getElem? (i := 652) (by decide +kernel), List.mem_of_getElem? (i := 653) (by decide +kernel)⟩
theorem lw_p25 : lw_okq (⟨"SnowRoadModel", "finds", "(I)I"⟩, 35) := ⟨⟨by decide +kernel, by decide +kernel⟩, List.mem_of_getElem? (i := 668) (by decide +kernel), List.mem_of_getElem? (i := 792) (by decide +kernel), List.mem_of_getElem? (i := 793) (by decide +kernel)⟩
theorem lw_p26 : lw_okq (⟨"SnowRoadModel", "lacks", "(III)I"⟩, 35) := ⟨⟨by decide +kernel, by decide +kernel⟩, List.mem_of_getElem? (i := 668) (by decide +kernel), List.mem_of_getElem? (i := 804) (by decide +kernel), List.mem_of_getElem? (i := 805) (by decide +kernel)⟩
theorem lw_p27 : lw_okq (⟨"SnowRoadModel", "readsText", "(I)I"⟩, 35) := ⟨⟨by decide +kernel, by decide +kernel⟩, List.mem_of_getElem? (i := 668) (by decide +kernel), List.mem_of_getElem? (i := 840) (by decide +kernel), List.mem_of_getElem? (i := 841) (by decide +kernel)⟩
theorem lw_p28 : lw_okq (⟨"SnowRoadModel", "readsLand", "()I"⟩, 35) := ⟨⟨by decide +kernel, by decide +kernel⟩, List.mem_of_getElem? (i := 668) (by decide +kernel), List.mem_of_getElem? (i := 844) (by decide +kernel), List.mem_of_getElem? (i := 845) (by decide +kernel)⟩
theorem lw_p29 : lw_okq (⟨"SnowRoadModel", "plains", "()V"⟩, 35) := ⟨⟨by decide +kernel, by decide +kernel⟩, List.mem_of_getElem? (i := 668) (by decide +kernel), List.mem_of_getElem? (i := 848) (by decide +kernel), List.mem_of_getElem? (i := 849) (by decide +kernel)⟩
theorem lw_p30 : lw_okq (⟨"SnowRoadModel", "readsFall", "()I"⟩, 35) := ⟨⟨by decide +kernel, by decide +kernel⟩, List.mem_of_getElem? (i := 668) (by decide +kernel), List.mem_of_getElem? (i := 852) (by decide +kernel), List.mem_of_getElem? (i := 853) (by decide +kernel)⟩
theorem lw_p31 : lw_okq (⟨"SnowRoadModel", "clears", "()V"⟩, 35) := ⟨⟨by decide +kernel, by decide +kernel⟩, List.mem_of_getElem? (i := 668) (by decide +kernel), List.mem_of_getElem? (i := 856) (by decide +kernel), List.mem_of_getElem? (i := 857) (by decide +kernel)⟩
def lw_privs_2 : List (MethodName × Nat) := [(⟨"SnowRoad", "allOverBut", "(I)Z"⟩, 12), (⟨"SnowRoad", "tryStrength", "(II)V"⟩, 12), (⟨"SnowRoad", "mostAlike", "(II)I"⟩, 12), (⟨"SnowRoad", "sameDrift", "(III)Z"⟩, 12), (⟨"SnowRoad", "countChoices", "()V"⟩, 12), (⟨"SnowRoad", "drawFall", "(II)V"⟩, 12), (⟨"SnowRoad", "allBytes", "()I"⟩, 12), (⟨"SnowRoad", "mixPlough", "(JI)J"⟩, 12), (⟨"SnowRoad", "mixBus", "(JI)J"⟩, 12), (⟨"SnowRoadModel", "finds", "(I)I"⟩, 35), (⟨"SnowRoadModel", "lacks", "(III)I"⟩, 35), (⟨"SnowRoadModel", "readsText", "(I)I"⟩, 35), (⟨"SnowRoadModel", "readsLand", "()I"⟩, 35), (⟨"SnowRoadModel", "plains", "()V"⟩, 35), (⟨"SnowRoadModel", "readsFall", "()I"⟩, 35), (⟨"SnowRoadModel", "clears", "()V"⟩, 35)]
theorem lw_r2 : ∀ q ∈ lw_privs_2, lw_okq q := List.forall_mem_cons.mpr ⟨lw_p16, List.forall_mem_cons.mpr ⟨lw_p17, List.forall_mem_cons.mpr ⟨lw_p18, List.forall_mem_cons.mpr ⟨lw_p19, List.forall_mem_cons.mpr ⟨lw_p20, List.forall_mem_cons.mpr ⟨lw_p21, List.forall_mem_cons.mpr ⟨lw_p22, List.forall_mem_cons.mpr ⟨lw_p23, List.forall_mem_cons.mpr ⟨lw_p24, List.forall_mem_cons.mpr ⟨lw_p25, List.forall_mem_cons.mpr ⟨lw_p26, List.forall_mem_cons.mpr ⟨lw_p27, List.forall_mem_cons.mpr ⟨lw_p28, List.forall_mem_cons.mpr ⟨lw_p29, List.forall_mem_cons.mpr ⟨lw_p30, List.forall_mem_cons.mpr ⟨lw_p31, fun _ h => absurd h List.not_mem_nil⟩⟩⟩⟩⟩⟩⟩⟩⟩⟩⟩⟩⟩⟩⟩⟩
theorem lw_p32 : lw_okq (⟨"SnowRoadModel", "readsPloughs", "()I"⟩, 35) := ⟨⟨by decide +kernel, by decide +kernel⟩, List.mem_of_getElem? (i := 668) (by decide +kernel), List.mem_of_getElem? (i := 864) (by decide +kernel), List.mem_of_getElem? (i := 865) (by decide +kernel)⟩
theorem lw_p33 : lw_okq (⟨"SnowRoadModel", "readsBuses", "()I"⟩, 35) := ⟨⟨by decide +kernel, by decide +kernel⟩, List.mem_of_getElem? (i := 668) (by decide +kernel), List.mem_of_getElem? (i := 875) (by decide +kernel), List.mem_of_getElem? (i := 876) (by decide +kernel)⟩
theorem lw_p34 : lw_okq (⟨"SnowRoadModel", "isPlough", "(I)Z"⟩, 35) := ⟨⟨by decide +kernel, by decide +kernel⟩, List.mem_of_getElem? (i := 668) (by decide +kernel), List.mem_of_getElem? (i := 899) (by decide +kernel), List.mem_of_getElem? (i := 900) (by decide +kernel)⟩
theorem lw_p35 : lw_okq (⟨"SnowRoadModel", "isBus", "(I)Z"⟩, 35) := ⟨⟨by decide +kernel, by decide +kernel⟩, List.mem_of_getElem? (i := 668) (by decide +kernel), List.mem_of_getElem? (i := 907) (by decide +kernel), List.mem_of_getElem? (i := 908) (by decide +kernel)⟩
theorem lw_p36 : lw_okq (⟨"SnowRoadModel", "find", "()V"⟩, 35) := ⟨⟨by decide +kernel, by decide +kernel⟩, List.mem_of_getElem? (i := 668) (by decide +kernel), List.mem_of_getElem? (i := 933) (by decide +kernel), List.mem_of_getElem? (i := 934) (by decide +kernel)⟩
theorem lw_p37 : lw_okq (⟨"SnowRoadModel", "lives", "()V"⟩, 35) := ⟨⟨by decide +kernel, by decide +kernel⟩, List.mem_of_getElem? (i := 668) (by decide +kernel), List.mem_of_getElem? (i := 937) (by decide +kernel), List.mem_of_getElem? (i := 938) (by decide +kernel)⟩
theorem lw_p38 : lw_okq (⟨"SnowRoadModel", "passes", "(I)V"⟩, 35) := ⟨⟨by decide +kernel, by decide +kernel⟩, List.mem_of_getElem? (i := 668) (by decide +kernel), List.mem_of_getElem? (i := 941) (by decide +kernel), List.mem_of_getElem? (i := 942) (by decide +kernel)⟩
theorem lw_p39 : lw_okq (⟨"SnowRoadModel", "weathers", "(I)V"⟩, 35) := ⟨⟨by decide +kernel, by decide +kernel⟩, List.mem_of_getElem? (i := 668) (by decide +kernel), List.mem_of_getElem? (i := 945) (by decide +kernel), List.mem_of_getElem? (i := 946) (by decide +kernel)⟩
theorem lw_p40 : lw_okq (⟨"SnowRoadModel", "isTold", "(III)Z"⟩, 35) := ⟨⟨by decide +kernel, by decide +kernel⟩, List.mem_of_getElem? (i := 668) (by decide +kernel), List.mem_of_getElem? (i := 949) (by decide +kernel), List.mem_of_getElem? (i := 950) (by decide +kernel)⟩
theorem lw_p41 : lw_okq (⟨"SnowRoadModel", "isBroken", "(II)Z"⟩, 35) := ⟨⟨by decide +kernel, by decide +kernel⟩, List.mem_of_getElem? (i := 668) (by decide +kernel), List.mem_of_getElem? (i := 959) (by decide +kernel), List.mem_of_getElem? (i := 960) (by decide +kernel)⟩
theorem lw_p42 : lw_okq (⟨"SnowRoadModel", "scoops", "(I)I"⟩, 35) := ⟨⟨by decide +kernel, by decide +kernel⟩, List.mem_of_getElem? (i := 668) (by decide +kernel), List.mem_of_getElem? (i := 963) (by decide +kernel), List.mem_of_getElem? (i := 964) (by decide +kernel)⟩
theorem lw_p43 : lw_okq (⟨"SnowRoadModel", "drives", "(IIZ)V"⟩, 35) := ⟨⟨by decide +kernel, by decide +kernel⟩, List.mem_of_getElem? (i := 668) (by decide +kernel), List.mem_of_getElem? (i := 967) (by decide +kernel), List.mem_of_getElem? (i := 968) (by decide +kernel)⟩
theorem lw_p44 : lw_okq (⟨"SnowRoadModel", "atBy", "(III)I"⟩, 35) := ⟨⟨by decide +kernel, by decide +kernel⟩, List.mem_of_getElem? (i := 668) (by decide +kernel), List.mem_of_getElem? (i := 975) (by decide +kernel), List.mem_of_getElem? (i := 976) (by decide +kernel)⟩
theorem lw_p45 : lw_okq (⟨"SnowRoadModel", "snowBy", "(II)I"⟩, 35) := ⟨⟨by decide +kernel, by decide +kernel⟩, List.mem_of_getElem? (i := 668) (by decide +kernel), List.mem_of_getElem? (i := 990) (by decide +kernel), List.mem_of_getElem? (i := 991) (by decide +kernel)⟩
theorem lw_p46 : lw_okq (⟨"SnowRoadModel", "overBy", "(II)I"⟩, 35) := ⟨⟨by decide +kernel, by decide +kernel⟩, List.mem_of_getElem? (i := 668) (by decide +kernel), List.mem_of_getElem? (i := 998) (by decide +kernel), List.mem_of_getElem? (i := 999) (by decide +kernel)⟩
theorem lw_p47 : lw_okq (⟨"SnowRoadModel", "clearedBy", "(II)I"⟩, 35) := ⟨⟨by decide +kernel, by decide +kernel⟩, List.mem_of_getElem? (i := 668) (by decide +kernel), List.mem_of_getElem? (i := 1006) (by decide +kernel), List.mem_of_getElem? (i := 1007) (by decide +kernel)⟩
def lw_privs_3 : List (MethodName × Nat) := [(⟨"SnowRoadModel", "readsPloughs", "()I"⟩, 35), (⟨"SnowRoadModel", "readsBuses", "()I"⟩, 35), (⟨"SnowRoadModel", "isPlough", "(I)Z"⟩, 35), (⟨"SnowRoadModel", "isBus", "(I)Z"⟩, 35), (⟨"SnowRoadModel", "find", "()V"⟩, 35), (⟨"SnowRoadModel", "lives", "()V"⟩, 35), (⟨"SnowRoadModel", "passes", "(I)V"⟩, 35), (⟨"SnowRoadModel", "weathers", "(I)V"⟩, 35), (⟨"SnowRoadModel", "isTold", "(III)Z"⟩, 35), (⟨"SnowRoadModel", "isBroken", "(II)Z"⟩, 35), (⟨"SnowRoadModel", "scoops", "(I)I"⟩, 35), (⟨"SnowRoadModel", "drives", "(IIZ)V"⟩, 35), (⟨"SnowRoadModel", "atBy", "(III)I"⟩, 35), (⟨"SnowRoadModel", "snowBy", "(II)I"⟩, 35), (⟨"SnowRoadModel", "overBy", "(II)I"⟩, 35), (⟨"SnowRoadModel", "clearedBy", "(II)I"⟩, 35)]
theorem lw_r3 : ∀ q ∈ lw_privs_3, lw_okq q := List.forall_mem_cons.mpr ⟨lw_p32, List.forall_mem_cons.mpr ⟨lw_p33, List.forall_mem_cons.mpr ⟨lw_p34, List.forall_mem_cons.mpr ⟨lw_p35, List.forall_mem_cons.mpr ⟨lw_p36, List.forall_mem_cons.mpr ⟨lw_p37, List.forall_mem_cons.mpr ⟨lw_p38, List.forall_mem_cons.mpr ⟨lw_p39, List.forall_mem_cons.mpr ⟨lw_p40, List.forall_mem_cons.mpr ⟨lw_p41, List.forall_mem_cons.mpr ⟨lw_p42, List.forall_mem_cons.mpr ⟨lw_p43, List.forall_mem_cons.mpr ⟨lw_p44, List.forall_mem_cons.mpr ⟨lw_p45, List.forall_mem_cons.mpr ⟨lw_p46, List.forall_mem_cons.mpr ⟨lw_p47, fun _ h => absurd h List.not_mem_nil⟩⟩⟩⟩⟩⟩⟩⟩⟩⟩⟩⟩⟩⟩⟩⟩
theorem lw_p48 : lw_okq (⟨"SnowRoadModel", "deepestBy", "(I)I"⟩, 35) := ⟨⟨by decide +kernel, by decide +kernel⟩, List.mem_of_getElem? (i := 668) (by decide +kernel), List.mem_of_getElem? (i := 1014) (by decide +kernel), List.mem_of_getElem? (i := 1015) (by decide +kernel)⟩
theorem lw_p49 : lw_okq (⟨"SnowRoadModel", "shutNow", "()I"⟩, 35) := ⟨⟨by decide +kernel, by decide +kernel⟩, List.mem_of_getElem? (i := 668) (by decide +kernel), List.mem_of_getElem? (i := 1022) (by decide +kernel), List.mem_of_getElem? (i := 1023) (by decide +kernel)⟩
theorem lw_p50 : lw_okq (⟨"SnowRoadModel", "bestNow", "()I"⟩, 35) := ⟨⟨by decide +kernel, by decide +kernel⟩, List.mem_of_getElem? (i := 668) (by decide +kernel), List.mem_of_getElem? (i := 1030) (by decide +kernel), List.mem_of_getElem? (i := 1031) (by decide +kernel)⟩
theorem lw_p51 : lw_okq (⟨"SnowRoadModel", "beginOf", "(II)I"⟩, 35) := ⟨⟨by decide +kernel, by decide +kernel⟩, List.mem_of_getElem? (i := 668) (by decide +kernel), List.mem_of_getElem? (i := 1041) (by decide +kernel), List.mem_of_getElem? (i := 1042) (by decide +kernel)⟩
theorem lw_p52 : lw_okq (⟨"SnowRoadModel", "manyOver", "()I"⟩, 35) := ⟨⟨by decide +kernel, by decide +kernel⟩, List.mem_of_getElem? (i := 668) (by decide +kernel), List.mem_of_getElem? (i := 1045) (by decide +kernel), List.mem_of_getElem? (i := 1046) (by decide +kernel)⟩
theorem lw_p53 : lw_okq (⟨"SnowRoadModel", "hedgeBy", "(I)I"⟩, 35) := ⟨⟨by decide +kernel, by decide +kernel⟩, List.mem_of_getElem? (i := 668) (by decide +kernel), List.mem_of_getElem? (i := 1053) (by decide +kernel), List.mem_of_getElem? (i := 1054) (by decide +kernel)⟩
theorem lw_p54 : lw_okq (⟨"SnowRoadModel", "startOf", "(II)I"⟩, 35) := ⟨⟨by decide +kernel, by decide +kernel⟩, List.mem_of_getElem? (i := 668) (by decide +kernel), List.mem_of_getElem? (i := 1062) (by decide +kernel), List.mem_of_getElem? (i := 1063) (by decide +kernel)⟩
theorem lw_p55 : lw_okq (⟨"SnowRoadModel", "spareBy", "(I)I"⟩, 35) := ⟨⟨by decide +kernel, by decide +kernel⟩, List.mem_of_getElem? (i := 668) (by decide +kernel), List.mem_of_getElem? (i := 1071) (by decide +kernel), List.mem_of_getElem? (i := 1072) (by decide +kernel)⟩
theorem lw_p56 : lw_okq (⟨"SnowRoadModel", "isSpared", "(I)Z"⟩, 35) := ⟨⟨by decide +kernel, by decide +kernel⟩, List.mem_of_getElem? (i := 668) (by decide +kernel), List.mem_of_getElem? (i := 1075) (by decide +kernel), List.mem_of_getElem? (i := 1076) (by decide +kernel)⟩
theorem lw_p57 : lw_okq (⟨"SnowRoadModel", "neverNow", "()I"⟩, 35) := ⟨⟨by decide +kernel, by decide +kernel⟩, List.mem_of_getElem? (i := 668) (by decide +kernel), List.mem_of_getElem? (i := 1092) (by decide +kernel), List.mem_of_getElem? (i := 1093) (by decide +kernel)⟩
theorem lw_p58 : lw_okq (⟨"SnowRoadModel", "isSeen", "()Z"⟩, 35) := ⟨⟨by decide +kernel, by decide +kernel⟩, List.mem_of_getElem? (i := 668) (by decide +kernel), List.mem_of_getElem? (i := 1096) (by decide +kernel), List.mem_of_getElem? (i := 1097) (by decide +kernel)⟩
theorem lw_p59 : lw_okq (⟨"SnowRoadModel", "strengthsOf", "(I)I"⟩, 35) := ⟨⟨by decide +kernel, by decide +kernel⟩, List.mem_of_getElem? (i := 668) (by decide +kernel), List.mem_of_getElem? (i := 1104) (by decide +kernel), List.mem_of_getElem? (i := 1105) (by decide +kernel)⟩
theorem lw_p60 : lw_okq (⟨"SnowRoadModel", "lieOf", "(I)I"⟩, 35) := ⟨⟨by decide +kernel, by decide +kernel⟩, List.mem_of_getElem? (i := 668) (by decide +kernel), List.mem_of_getElem? (i := 1112) (by decide +kernel), List.mem_of_getElem? (i := 1113) (by decide +kernel)⟩
theorem lw_p61 : lw_okq (⟨"SnowRoadModel", "askOf", "(I)I"⟩, 35) := ⟨⟨by decide +kernel, by decide +kernel⟩, List.mem_of_getElem? (i := 668) (by decide +kernel), List.mem_of_getElem? (i := 1120) (by decide +kernel), List.mem_of_getElem? (i := 1121) (by decide +kernel)⟩
theorem lw_p62 : lw_okq (⟨"SnowRoadModel", "alike", "(II)I"⟩, 35) := ⟨⟨by decide +kernel, by decide +kernel⟩, List.mem_of_getElem? (i := 668) (by decide +kernel), List.mem_of_getElem? (i := 1124) (by decide +kernel), List.mem_of_getElem? (i := 1125) (by decide +kernel)⟩
theorem lw_p63 : lw_okq (⟨"SnowRoadModel", "same", "(III)Z"⟩, 35) := ⟨⟨by decide +kernel, by decide +kernel⟩, List.mem_of_getElem? (i := 668) (by decide +kernel), List.mem_of_getElem? (i := 1128) (by decide +kernel), List.mem_of_getElem? (i := 1129) (by decide +kernel)⟩
def lw_privs_4 : List (MethodName × Nat) := [(⟨"SnowRoadModel", "deepestBy", "(I)I"⟩, 35), (⟨"SnowRoadModel", "shutNow", "()I"⟩, 35), (⟨"SnowRoadModel", "bestNow", "()I"⟩, 35), (⟨"SnowRoadModel", "beginOf", "(II)I"⟩, 35), (⟨"SnowRoadModel", "manyOver", "()I"⟩, 35), (⟨"SnowRoadModel", "hedgeBy", "(I)I"⟩, 35), (⟨"SnowRoadModel", "startOf", "(II)I"⟩, 35), (⟨"SnowRoadModel", "spareBy", "(I)I"⟩, 35), (⟨"SnowRoadModel", "isSpared", "(I)Z"⟩, 35), (⟨"SnowRoadModel", "neverNow", "()I"⟩, 35), (⟨"SnowRoadModel", "isSeen", "()Z"⟩, 35), (⟨"SnowRoadModel", "strengthsOf", "(I)I"⟩, 35), (⟨"SnowRoadModel", "lieOf", "(I)I"⟩, 35), (⟨"SnowRoadModel", "askOf", "(I)I"⟩, 35), (⟨"SnowRoadModel", "alike", "(II)I"⟩, 35), (⟨"SnowRoadModel", "same", "(III)Z"⟩, 35)]
theorem lw_r4 : ∀ q ∈ lw_privs_4, lw_okq q := List.forall_mem_cons.mpr ⟨lw_p48, List.forall_mem_cons.mpr ⟨lw_p49, List.forall_mem_cons.mpr ⟨lw_p50, List.forall_mem_cons.mpr ⟨lw_p51, List.forall_mem_cons.mpr ⟨lw_p52, List.forall_mem_cons.mpr ⟨lw_p53, List.forall_mem_cons.mpr ⟨lw_p54, List.forall_mem_cons.mpr ⟨lw_p55, List.forall_mem_cons.mpr ⟨lw_p56, List.forall_mem_cons.mpr ⟨lw_p57, List.forall_mem_cons.mpr ⟨lw_p58, List.forall_mem_cons.mpr ⟨lw_p59, List.forall_mem_cons.mpr ⟨lw_p60, List.forall_mem_cons.mpr ⟨lw_p61, List.forall_mem_cons.mpr ⟨lw_p62, List.forall_mem_cons.mpr ⟨lw_p63, fun _ h => absurd h List.not_mem_nil⟩⟩⟩⟩⟩⟩⟩⟩⟩⟩⟩⟩⟩⟩⟩⟩
theorem lw_p64 : lw_okq (⟨"SnowRoadModel", "chanceOf", "(III)J"⟩, 35) := ⟨⟨by decide +kernel, by decide +kernel⟩, List.mem_of_getElem? (i := 668) (by decide +kernel), List.mem_of_getElem? (i := 1137) (by decide +kernel), List.mem_of_getElem? (i := 1138) (by decide +kernel)⟩
theorem lw_p65 : lw_okq (⟨"SnowRoadModel", "wintersOf", "(III)I"⟩, 35) := ⟨⟨by decide +kernel, by decide +kernel⟩, List.mem_of_getElem? (i := 668) (by decide +kernel), List.mem_of_getElem? (i := 1153) (by decide +kernel), List.mem_of_getElem? (i := 1154) (by decide +kernel)⟩
theorem lw_p66 : lw_okq (⟨"SnowRoadModel", "lot", "(I)I"⟩, 35) := ⟨⟨by decide +kernel, by decide +kernel⟩, List.mem_of_getElem? (i := 668) (by decide +kernel), List.mem_of_getElem? (i := 1157) (by decide +kernel), List.mem_of_getElem? (i := 1158) (by decide +kernel)⟩
theorem lw_p67 : lw_okq (⟨"SnowRoadModel", "tellsPlough", "(JI)J"⟩, 35) := ⟨⟨by decide +kernel, by decide +kernel⟩, List.mem_of_getElem? (i := 668) (by decide +kernel), List.mem_of_getElem? (i := 1177) (by decide +kernel), List.mem_of_getElem? (i := 1178) (by decide +kernel)⟩
theorem lw_p68 : lw_okq (⟨"SnowRoadModel", "tellsHour", "(JII)J"⟩, 35) := ⟨⟨by decide +kernel, by decide +kernel⟩, List.mem_of_getElem? (i := 668) (by decide +kernel), List.mem_of_getElem? (i := 1181) (by decide +kernel), List.mem_of_getElem? (i := 1182) (by decide +kernel)⟩
theorem lw_p69 : lw_okq (⟨"SnowRoadModel", "tellsBus", "(JI)J"⟩, 35) := ⟨⟨by decide +kernel, by decide +kernel⟩, List.mem_of_getElem? (i := 668) (by decide +kernel), List.mem_of_getElem? (i := 1185) (by decide +kernel), List.mem_of_getElem? (i := 1186) (by decide +kernel)⟩
def lw_privs_5 : List (MethodName × Nat) := [(⟨"SnowRoadModel", "chanceOf", "(III)J"⟩, 35), (⟨"SnowRoadModel", "wintersOf", "(III)I"⟩, 35), (⟨"SnowRoadModel", "lot", "(I)I"⟩, 35), (⟨"SnowRoadModel", "tellsPlough", "(JI)J"⟩, 35), (⟨"SnowRoadModel", "tellsHour", "(JII)J"⟩, 35), (⟨"SnowRoadModel", "tellsBus", "(JI)J"⟩, 35)]
theorem lw_r5 : ∀ q ∈ lw_privs_5, lw_okq q := List.forall_mem_cons.mpr ⟨lw_p64, List.forall_mem_cons.mpr ⟨lw_p65, List.forall_mem_cons.mpr ⟨lw_p66, List.forall_mem_cons.mpr ⟨lw_p67, List.forall_mem_cons.mpr ⟨lw_p68, List.forall_mem_cons.mpr ⟨lw_p69, fun _ h => absurd h List.not_mem_nil⟩⟩⟩⟩⟩⟩
def lw_privs : List (MethodName × Nat) := lw_privs_1 ++ (lw_privs_2 ++ (lw_privs_3 ++ (lw_privs_4 ++ (lw_privs_5))))
def lw_tbl : List Cond := k2_sels lw_privs ++ tables_1
theorem lw_privs_ok : ∀ q ∈ lw_privs, lw_okq q := by
  show ∀ q ∈ lw_privs_1 ++ (lw_privs_2 ++ (lw_privs_3 ++ (lw_privs_4 ++ (lw_privs_5)))), lw_okq q
  exact List.forall_mem_append.mpr ⟨lw_r1, List.forall_mem_append.mpr ⟨lw_r2, List.forall_mem_append.mpr ⟨lw_r3, List.forall_mem_append.mpr ⟨lw_r4, lw_r5⟩⟩⟩⟩
end
section
/-! LAYER Z: one flat memory (cell, slot), no heap in sight: own rows over the kit's -/
abbrev Mem : Type := Nat → Nat → Int32
def upm (M : Mem) (k i : Nat) (v : Int32) : Mem := fun a => if a = k then upd (M k) i v else M a
def upr (M : Mem) (k : Nat) (f : Nat → Int32) : Mem := fun a => if a = k then f else M a
abbrev ZW : Type := va_G × List vw_C × List (ClassId × FieldType) × (Mem → va_W)
abbrev ZX : Type := Program × Launch × Env × Room × State × MethodId × Array Value × List Frame × Method × Code × (Nat → Prop) × (State → Prop)
def zt : List Cond := lw_tbl.filter goodWord
theorem zz_good : ∀ q ∈ zt, goodWord q = true := fun _ h => (List.mem_filter.mp h).2
theorem zt_mem {q : Cond} (i : Nat) (h : tables_1[i]? = some q) (hg : goodWord q = true) : q ∈ zt := List.mem_filter.mpr ⟨List.mem_append_right _ (List.mem_of_getElem? h), hg⟩
theorem zt_sel {q : Cond} (i : Nat) (h : (k2_sels lw_privs)[i]? = some q) (hg : goodWord q = true) : q ∈ zt := List.mem_filter.mpr ⟨List.mem_append_left _ (List.mem_of_getElem? h), hg⟩
def Zj (X : ZX) (nL : Nat) (w : ZW) (M : Mem) (pc : Nat) (lv : List (Nat × Value)) (st : List Value) : Prop :=
  match X with
  | (p, l, e, R, s, m, args, below, meth, c, A, Q) => ∀ (H : Heap) (locs : List Loc) (ls : Array Slot), lv_has ls nL lv → va_P w.1 w.2.1 (w.2.2.2 M) H → va_S A s.heap H locs → W p l e R s m args below meth c H locs 0 0 Q (F0 m pc ls st)
def Zc (X : ZX) (cc : ByteArray) (own : String) (nL : Nat) (rm : Room) (w : ZW) : Prop :=
  match X with
  | (p, l, e, R, s, m, args, below, meth, c, A, Q) => p.tables.exec = Jvm.exec ∧ c.code = cc ∧ c.maxLocals = nL ∧ s.vm.findClass own = some m.cls ∧ (∀ q ∈ zt, q.before args s = true) ∧ va_K w.1 w.2.1 w.2.2.1 s ∧ (∀ M, va_D A (w.2.2.2 M)) ∧ (∀ q, s.heap.size ≤ q → A q) ∧ meth.locks = false ∧ R = rm
section ZR
variable {X : ZX} {cc : ByteArray} {own : String} {nL : Nat} {rm : Room} {w : ZW} {M : Mem} {pc : Nat} {lv : List (Nat × Value)} {st : List Value}
theorem z_iconst (C : Zc X cc own nL rm w) {n : Int} {v : Int32} (hd : decode cc pc = .ok (.iconst n, 1)) (hv : Int32.ofInt n = v) (kk : Zj X nL w M (pc + 1) lv (.int v :: st)) : Zj X nL w M pc lv st := by
  obtain ⟨p, l, e, R, s, m, args, below, meth, c, A, Q⟩ := X
  obtain ⟨hx, hb, -⟩ := C
  exact fun H locs ls hl hP hS => lv_iconst hx hb hd hv (kk H locs ls hl hP hS)
theorem z_bipush (C : Zc X cc own nL rm w) {n : Int} {v : Int32} (hd : decode cc pc = .ok (.bipush n, 2)) (hv : (Int8.ofInt n).toInt32 = v) (kk : Zj X nL w M (pc + 2) lv (.int v :: st)) : Zj X nL w M pc lv st := by
  obtain ⟨p, l, e, R, s, m, args, below, meth, c, A, Q⟩ := X
  obtain ⟨hx, hb, -⟩ := C
  exact fun H locs ls hl hP hS => lv_bipush hx hb hd hv (kk H locs ls hl hP hS)
theorem z_sipush (C : Zc X cc own nL rm w) {n : Int} {v : Int32} (hd : decode cc pc = .ok (.sipush n, 3)) (hv : (Int16.ofInt n).toInt32 = v) (kk : Zj X nL w M (pc + 3) lv (.int v :: st)) : Zj X nL w M pc lv st := by
  obtain ⟨p, l, e, R, s, m, args, below, meth, c, A, Q⟩ := X
  obtain ⟨hx, hb, -⟩ := C
  exact fun H locs ls hl hP hS => lv_sipush hx hb hd hv (kk H locs ls hl hP hS)
theorem z_lconst (C : Zc X cc own nL rm w) {n : Fin 2} {v : Int64} (hd : decode cc pc = .ok (.lconst n, 1)) (hv : Int64.ofNat (n : Nat) = v) (kk : Zj X nL w M (pc + 1) lv (.long v :: st)) : Zj X nL w M pc lv st := by
  obtain ⟨p, l, e, R, s, m, args, below, meth, c, A, Q⟩ := X
  obtain ⟨hx, hb, -⟩ := C
  exact fun H locs ls hl hP hS => lv_lconst hx hb hd hv (kk H locs ls hl hP hS)
theorem z_ldc (C : Zc X cc own nL rm w) {i : Nat} {v : Int32} (hd : decode cc pc = .ok (.ldc i, 2)) (hw : Cond.constant own i v ∈ zt) (kk : Zj X nL w M (pc + 2) lv (.int v :: st)) : Zj X nL w M pc lv st := by
  obtain ⟨p, l, e, R, s, m, args, below, meth, c, A, Q⟩ := X
  obtain ⟨hx, hb, -, ho, ht, -⟩ := C
  exact fun H locs ls hl hP hS => lv_ldc hx hb ho (ht _ hw) hd (kk H locs ls hl hP hS)
theorem z_ldcw (C : Zc X cc own nL rm w) {i : Nat} {v : Int32} (hd : decode cc pc = .ok (.ldc_w i, 3)) (hw : Cond.constant own i v ∈ zt) (kk : Zj X nL w M (pc + 3) lv (.int v :: st)) : Zj X nL w M pc lv st := by
  obtain ⟨p, l, e, R, s, m, args, below, meth, c, A, Q⟩ := X
  obtain ⟨hx, hb, -, ho, ht, -⟩ := C
  exact fun H locs ls hl hP hS => lv_ldcw hx hb ho (ht _ hw) hd (kk H locs ls hl hP hS)
theorem z_ldc2 (C : Zc X cc own nL rm w) {i : Nat} {v : Int64} (hd : decode cc pc = .ok (.ldc2_w i, 3)) (hw : Cond.constantLong own i v ∈ zt) (kk : Zj X nL w M (pc + 3) lv (.long v :: st)) : Zj X nL w M pc lv st := by
  obtain ⟨p, l, e, R, s, m, args, below, meth, c, A, Q⟩ := X
  obtain ⟨hx, hb, -, ho, ht, -⟩ := C
  exact fun H locs ls hl hP hS => lv_ldc2 hx hb ho (ht _ hw) hd (kk H locs ls hl hP hS)
theorem z_iload_n (C : Zc X cc own nL rm w) {k : Fin 4} {i : Nat} {x : Int32} (hd : decode cc pc = .ok (.iload_n k, 1)) (hi : (k : Nat) = i) (j : Nat) (hj : lv[j]? = some (i, .int x)) (kk : Zj X nL w M (pc + 1) lv (.int x :: st)) : Zj X nL w M pc lv st := by
  obtain ⟨p, l, e, R, s, m, args, below, meth, c, A, Q⟩ := X
  obtain ⟨hx, hb, -⟩ := C
  exact fun H locs ls hl hP hS => lv_iload_n hx hb hd hi (lv_at hl j hj) (kk H locs ls hl hP hS)
theorem z_iload (C : Zc X cc own nL rm w) {i : Nat} {x : Int32} (hd : decode cc pc = .ok (.iload i, 2)) (j : Nat) (hj : lv[j]? = some (i, .int x)) (kk : Zj X nL w M (pc + 2) lv (.int x :: st)) : Zj X nL w M pc lv st := by
  obtain ⟨p, l, e, R, s, m, args, below, meth, c, A, Q⟩ := X
  obtain ⟨hx, hb, -⟩ := C
  exact fun H locs ls hl hP hS => lv_iload hx hb hd (lv_at hl j hj) (kk H locs ls hl hP hS)
theorem z_lload_n (C : Zc X cc own nL rm w) {k : Fin 4} {i : Nat} {x : Int64} (hd : decode cc pc = .ok (.lload_n k, 1)) (hi : (k : Nat) = i) (j : Nat) (hj : lv[j]? = some (i, .long x)) (kk : Zj X nL w M (pc + 1) lv (.long x :: st)) : Zj X nL w M pc lv st := by
  obtain ⟨p, l, e, R, s, m, args, below, meth, c, A, Q⟩ := X
  obtain ⟨hx, hb, -⟩ := C
  exact fun H locs ls hl hP hS => lv_lload_n hx hb hd hi (lv_at hl j hj) (kk H locs ls hl hP hS)
theorem z_lload (C : Zc X cc own nL rm w) {i : Nat} {x : Int64} (hd : decode cc pc = .ok (.lload i, 2)) (j : Nat) (hj : lv[j]? = some (i, .long x)) (kk : Zj X nL w M (pc + 2) lv (.long x :: st)) : Zj X nL w M pc lv st := by
  obtain ⟨p, l, e, R, s, m, args, below, meth, c, A, Q⟩ := X
  obtain ⟨hx, hb, -⟩ := C
  exact fun H locs ls hl hP hS => lv_lload hx hb hd (lv_at hl j hj) (kk H locs ls hl hP hS)
theorem z_aload_n (C : Zc X cc own nL rm w) {k : Fin 4} {i : Nat} {x : Nat} (hd : decode cc pc = .ok (.aload_n k, 1)) (hi : (k : Nat) = i) (j : Nat) (hj : lv[j]? = some (i, .ref x)) (kk : Zj X nL w M (pc + 1) lv (.ref x :: st)) : Zj X nL w M pc lv st := by
  obtain ⟨p, l, e, R, s, m, args, below, meth, c, A, Q⟩ := X
  obtain ⟨hx, hb, -⟩ := C
  exact fun H locs ls hl hP hS => lv_aload_n hx hb hd hi (lv_at hl j hj) (kk H locs ls hl hP hS)
theorem z_aload (C : Zc X cc own nL rm w) {i : Nat} {x : Nat} (hd : decode cc pc = .ok (.aload i, 2)) (j : Nat) (hj : lv[j]? = some (i, .ref x)) (kk : Zj X nL w M (pc + 2) lv (.ref x :: st)) : Zj X nL w M pc lv st := by
  obtain ⟨p, l, e, R, s, m, args, below, meth, c, A, Q⟩ := X
  obtain ⟨hx, hb, -⟩ := C
  exact fun H locs ls hl hP hS => lv_aload hx hb hd (lv_at hl j hj) (kk H locs ls hl hP hS)
def z_s1 (i : Nat) (v : Value) (lv : List (Nat × Value)) : List (Nat × Value) := (i, v) :: lv.filter (fun q => !(q.1 == i) && !(q.1 + 1 == i && q.2.category == 2))
def z_s2 (i : Nat) (v : Value) (lv : List (Nat × Value)) : List (Nat × Value) := (i, v) :: lv.filter (fun q => !(q.1 == i) && (!(q.1 == i + 1) && !(q.1 + 1 == i && q.2.category == 2)))
theorem z_istore_n (C : Zc X cc own nL rm w) {k : Fin 4} {i : Nat} {x : Int32} {lv' : List (Nat × Value)} (hd : decode cc pc = .ok (.istore_n k, 1)) (hi : (k : Nat) = i) (hn : Nat.blt i nL = true) (hl' : z_s1 i (.int x) lv = lv') (kk : Zj X nL w M (pc + 1) lv' st) : Zj X nL w M pc lv (.int x :: st) := by
  obtain ⟨p, l, e, R, s, m, args, below, meth, c, A, Q⟩ := X
  obtain ⟨hx, hb, -⟩ := C
  exact fun H locs ls hl hP hS => lv_istore_n hx hb hd hi hl (Nat.le_of_ble_eq_true hn) hl' (fun ls hl => kk H locs ls hl hP hS)
theorem z_istore (C : Zc X cc own nL rm w) {i : Nat} {x : Int32} {lv' : List (Nat × Value)} (hd : decode cc pc = .ok (.istore i, 2)) (hn : Nat.blt i nL = true) (hl' : z_s1 i (.int x) lv = lv') (kk : Zj X nL w M (pc + 2) lv' st) : Zj X nL w M pc lv (.int x :: st) := by
  obtain ⟨p, l, e, R, s, m, args, below, meth, c, A, Q⟩ := X
  obtain ⟨hx, hb, -⟩ := C
  exact fun H locs ls hl hP hS => lv_istore hx hb hd hl (Nat.le_of_ble_eq_true hn) hl' (fun ls hl => kk H locs ls hl hP hS)
theorem z_lstore_n (C : Zc X cc own nL rm w) {k : Fin 4} {i : Nat} {x : Int64} {lv' : List (Nat × Value)} (hd : decode cc pc = .ok (.lstore_n k, 1)) (hi : (k : Nat) = i) (hn : Nat.blt (i + 1) nL = true) (hl' : z_s2 i (.long x) lv = lv') (kk : Zj X nL w M (pc + 1) lv' st) : Zj X nL w M pc lv (.long x :: st) := by
  obtain ⟨p, l, e, R, s, m, args, below, meth, c, A, Q⟩ := X
  obtain ⟨hx, hb, -⟩ := C
  exact fun H locs ls hl hP hS => lv_lstore_n hx hb hd hi hl (Nat.le_of_ble_eq_true hn) hl' (fun ls hl => kk H locs ls hl hP hS)
theorem z_lstore (C : Zc X cc own nL rm w) {i : Nat} {x : Int64} {lv' : List (Nat × Value)} (hd : decode cc pc = .ok (.lstore i, 2)) (hn : Nat.blt (i + 1) nL = true) (hl' : z_s2 i (.long x) lv = lv') (kk : Zj X nL w M (pc + 2) lv' st) : Zj X nL w M pc lv (.long x :: st) := by
  obtain ⟨p, l, e, R, s, m, args, below, meth, c, A, Q⟩ := X
  obtain ⟨hx, hb, -⟩ := C
  exact fun H locs ls hl hP hS => lv_lstore hx hb hd hl (Nat.le_of_ble_eq_true hn) hl' (fun ls hl => kk H locs ls hl hP hS)
theorem z_astore_n (C : Zc X cc own nL rm w) {k : Fin 4} {i : Nat} {x : Nat} {lv' : List (Nat × Value)} (hd : decode cc pc = .ok (.astore_n k, 1)) (hi : (k : Nat) = i) (hn : Nat.blt i nL = true) (hl' : z_s1 i (.ref x) lv = lv') (kk : Zj X nL w M (pc + 1) lv' st) : Zj X nL w M pc lv (.ref x :: st) := by
  obtain ⟨p, l, e, R, s, m, args, below, meth, c, A, Q⟩ := X
  obtain ⟨hx, hb, -⟩ := C
  exact fun H locs ls hl hP hS => lv_astore_n hx hb hd hi hl (Nat.le_of_ble_eq_true hn) hl' (fun ls hl => kk H locs ls hl hP hS)
theorem z_astore (C : Zc X cc own nL rm w) {i : Nat} {x : Nat} {lv' : List (Nat × Value)} (hd : decode cc pc = .ok (.astore i, 2)) (hn : Nat.blt i nL = true) (hl' : z_s1 i (.ref x) lv = lv') (kk : Zj X nL w M (pc + 2) lv' st) : Zj X nL w M pc lv (.ref x :: st) := by
  obtain ⟨p, l, e, R, s, m, args, below, meth, c, A, Q⟩ := X
  obtain ⟨hx, hb, -⟩ := C
  exact fun H locs ls hl hP hS => lv_astore hx hb hd hl (Nat.le_of_ble_eq_true hn) hl' (fun ls hl => kk H locs ls hl hP hS)
theorem z_iinc (C : Zc X cc own nL rm w) {i : Nat} {n : Int} {x v : Int32} {lv' : List (Nat × Value)} (hd : decode cc pc = .ok (.iinc i n, 3)) (j : Nat) (hj : lv[j]? = some (i, .int x)) (hv : x + Int32.ofInt n = v) (hn : Nat.blt i nL = true) (hl' : z_s1 i (.int v) lv = lv') (kk : Zj X nL w M (pc + 3) lv' st) : Zj X nL w M pc lv st := by
  obtain ⟨p, l, e, R, s, m, args, below, meth, c, A, Q⟩ := X
  obtain ⟨hx, hb, -⟩ := C
  exact fun H locs ls hl hP hS => lv_iinc hx hb hd hl hj hv (Nat.le_of_ble_eq_true hn) hl' (fun ls hl => kk H locs ls hl hP hS)
theorem z_iadd (C : Zc X cc own nL rm w) {x y : Int32} (hd : decode cc pc = .ok (.iadd, 1)) (kk : Zj X nL w M (pc + 1) lv (.int (x + y) :: st)) : Zj X nL w M pc lv (.int y :: .int x :: st) := by
  obtain ⟨p, l, e, R, s, m, args, below, meth, c, A, Q⟩ := X
  obtain ⟨hx, hb, -⟩ := C
  exact fun H locs ls hl hP hS => lv_iadd hx hb hd (kk H locs ls hl hP hS)
theorem z_isub (C : Zc X cc own nL rm w) {x y : Int32} (hd : decode cc pc = .ok (.isub, 1)) (kk : Zj X nL w M (pc + 1) lv (.int (x - y) :: st)) : Zj X nL w M pc lv (.int y :: .int x :: st) := by
  obtain ⟨p, l, e, R, s, m, args, below, meth, c, A, Q⟩ := X
  obtain ⟨hx, hb, -⟩ := C
  exact fun H locs ls hl hP hS => lv_isub hx hb hd (kk H locs ls hl hP hS)
theorem z_imul (C : Zc X cc own nL rm w) {x y : Int32} (hd : decode cc pc = .ok (.imul, 1)) (kk : Zj X nL w M (pc + 1) lv (.int (x * y) :: st)) : Zj X nL w M pc lv (.int y :: .int x :: st) := by
  obtain ⟨p, l, e, R, s, m, args, below, meth, c, A, Q⟩ := X
  obtain ⟨hx, hb, -⟩ := C
  exact fun H locs ls hl hP hS => lv_imul hx hb hd (kk H locs ls hl hP hS)
theorem z_iand (C : Zc X cc own nL rm w) {x y : Int32} (hd : decode cc pc = .ok (.iand, 1)) (kk : Zj X nL w M (pc + 1) lv (.int (x &&& y) :: st)) : Zj X nL w M pc lv (.int y :: .int x :: st) := by
  obtain ⟨p, l, e, R, s, m, args, below, meth, c, A, Q⟩ := X
  obtain ⟨hx, hb, -⟩ := C
  exact fun H locs ls hl hP hS => lv_iand hx hb hd (kk H locs ls hl hP hS)
theorem z_ior (C : Zc X cc own nL rm w) {x y : Int32} (hd : decode cc pc = .ok (.ior, 1)) (kk : Zj X nL w M (pc + 1) lv (.int (x ||| y) :: st)) : Zj X nL w M pc lv (.int y :: .int x :: st) := by
  obtain ⟨p, l, e, R, s, m, args, below, meth, c, A, Q⟩ := X
  obtain ⟨hx, hb, -⟩ := C
  exact fun H locs ls hl hP hS => lv_ior hx hb hd (kk H locs ls hl hP hS)
theorem z_ixor (C : Zc X cc own nL rm w) {x y : Int32} (hd : decode cc pc = .ok (.ixor, 1)) (kk : Zj X nL w M (pc + 1) lv (.int (x ^^^ y) :: st)) : Zj X nL w M pc lv (.int y :: .int x :: st) := by
  obtain ⟨p, l, e, R, s, m, args, below, meth, c, A, Q⟩ := X
  obtain ⟨hx, hb, -⟩ := C
  exact fun H locs ls hl hP hS => lv_ixor hx hb hd (kk H locs ls hl hP hS)
theorem z_idiv (C : Zc X cc own nL rm w) {x y : Int32} (hd : decode cc pc = .ok (.idiv, 1)) (hne : ¬ y = 0) (kk : Zj X nL w M (pc + 1) lv (.int (x / y) :: st)) : Zj X nL w M pc lv (.int y :: .int x :: st) := by
  obtain ⟨p, l, e, R, s, m, args, below, meth, c, A, Q⟩ := X
  obtain ⟨hx, hb, -⟩ := C
  exact fun H locs ls hl hP hS => lv_idiv hx hb hd hne (kk H locs ls hl hP hS)
theorem z_irem (C : Zc X cc own nL rm w) {x y : Int32} (hd : decode cc pc = .ok (.irem, 1)) (hne : ¬ y = 0) (kk : Zj X nL w M (pc + 1) lv (.int (x - x / y * y) :: st)) : Zj X nL w M pc lv (.int y :: .int x :: st) := by
  obtain ⟨p, l, e, R, s, m, args, below, meth, c, A, Q⟩ := X
  obtain ⟨hx, hb, -⟩ := C
  exact fun H locs ls hl hP hS => lv_irem hx hb hd hne (kk H locs ls hl hP hS)
theorem z_ladd (C : Zc X cc own nL rm w) {x y : Int64} (hd : decode cc pc = .ok (.ladd, 1)) (kk : Zj X nL w M (pc + 1) lv (.long (x + y) :: st)) : Zj X nL w M pc lv (.long y :: .long x :: st) := by
  obtain ⟨p, l, e, R, s, m, args, below, meth, c, A, Q⟩ := X
  obtain ⟨hx, hb, -⟩ := C
  exact fun H locs ls hl hP hS => lv_ladd hx hb hd (kk H locs ls hl hP hS)
theorem z_lsub (C : Zc X cc own nL rm w) {x y : Int64} (hd : decode cc pc = .ok (.lsub, 1)) (kk : Zj X nL w M (pc + 1) lv (.long (x - y) :: st)) : Zj X nL w M pc lv (.long y :: .long x :: st) := by
  obtain ⟨p, l, e, R, s, m, args, below, meth, c, A, Q⟩ := X
  obtain ⟨hx, hb, -⟩ := C
  exact fun H locs ls hl hP hS => lv_lsub hx hb hd (kk H locs ls hl hP hS)
theorem z_lmul (C : Zc X cc own nL rm w) {x y : Int64} (hd : decode cc pc = .ok (.lmul, 1)) (kk : Zj X nL w M (pc + 1) lv (.long (x * y) :: st)) : Zj X nL w M pc lv (.long y :: .long x :: st) := by
  obtain ⟨p, l, e, R, s, m, args, below, meth, c, A, Q⟩ := X
  obtain ⟨hx, hb, -⟩ := C
  exact fun H locs ls hl hP hS => lv_lmul hx hb hd (kk H locs ls hl hP hS)
theorem z_ldiv (C : Zc X cc own nL rm w) {x y : Int64} (hd : decode cc pc = .ok (.ldiv, 1)) (hne : ¬ y = 0) (kk : Zj X nL w M (pc + 1) lv (.long (x / y) :: st)) : Zj X nL w M pc lv (.long y :: .long x :: st) := by
  obtain ⟨p, l, e, R, s, m, args, below, meth, c, A, Q⟩ := X
  obtain ⟨hx, hb, -⟩ := C
  exact fun H locs ls hl hP hS => lv_ldiv hx hb hd hne (kk H locs ls hl hP hS)
theorem z_lrem (C : Zc X cc own nL rm w) {x y : Int64} (hd : decode cc pc = .ok (.lrem, 1)) (hne : ¬ y = 0) (kk : Zj X nL w M (pc + 1) lv (.long (x - x / y * y) :: st)) : Zj X nL w M pc lv (.long y :: .long x :: st) := by
  obtain ⟨p, l, e, R, s, m, args, below, meth, c, A, Q⟩ := X
  obtain ⟨hx, hb, -⟩ := C
  exact fun H locs ls hl hP hS => lv_lrem hx hb hd hne (kk H locs ls hl hP hS)
theorem z_ishl (C : Zc X cc own nL rm w) {x y : Int32} (hd : decode cc pc = .ok (.ishl, 1)) (kk : Zj X nL w M (pc + 1) lv (.int (x <<< (y &&& 31)) :: st)) : Zj X nL w M pc lv (.int y :: .int x :: st) := by
  obtain ⟨p, l, e, R, s, m, args, below, meth, c, A, Q⟩ := X
  obtain ⟨hx, hb, -⟩ := C
  exact fun H locs ls hl hP hS => lv_ishl hx hb hd (kk H locs ls hl hP hS)
theorem z_ishr (C : Zc X cc own nL rm w) {x y : Int32} (hd : decode cc pc = .ok (.ishr, 1)) (kk : Zj X nL w M (pc + 1) lv (.int (x >>> (y &&& 31)) :: st)) : Zj X nL w M pc lv (.int y :: .int x :: st) := by
  obtain ⟨p, l, e, R, s, m, args, below, meth, c, A, Q⟩ := X
  obtain ⟨hx, hb, -⟩ := C
  exact fun H locs ls hl hP hS => lv_ishr hx hb hd (kk H locs ls hl hP hS)
def ushr32 (x y : Int32) : Int32 := (x.toUInt32 >>> (y.toUInt32 &&& Int32.toUInt32 31)).toInt32
theorem z_iushr (C : Zc X cc own nL rm w) {x y : Int32} (hd : decode cc pc = .ok (.iushr, 1)) (kk : Zj X nL w M (pc + 1) lv (.int (ushr32 x y) :: st)) : Zj X nL w M pc lv (.int y :: .int x :: st) := by
  obtain ⟨p, l, e, R, s, m, args, below, meth, c, A, Q⟩ := X
  obtain ⟨hx, hb, -⟩ := C
  exact fun H locs ls hl hP hS => lv_iushr hx hb hd rfl (kk H locs ls hl hP hS)
theorem z_lshl (C : Zc X cc own nL rm w) {x : Int64} {y : Int32} (hd : decode cc pc = .ok (.lshl, 1)) (kk : Zj X nL w M (pc + 1) lv (.long (x <<< (y.toInt64 &&& 63)) :: st)) : Zj X nL w M pc lv (.int y :: .long x :: st) := by
  obtain ⟨p, l, e, R, s, m, args, below, meth, c, A, Q⟩ := X
  obtain ⟨hx, hb, -⟩ := C
  exact fun H locs ls hl hP hS => lv_lshl hx hb hd rfl (kk H locs ls hl hP hS)
theorem z_i2l (C : Zc X cc own nL rm w) {x : Int32} (hd : decode cc pc = .ok (.i2l, 1)) (kk : Zj X nL w M (pc + 1) lv (.long x.toInt64 :: st)) : Zj X nL w M pc lv (.int x :: st) := by
  obtain ⟨p, l, e, R, s, m, args, below, meth, c, A, Q⟩ := X
  obtain ⟨hx, hb, -⟩ := C
  exact fun H locs ls hl hP hS => lv_i2l hx hb hd rfl (kk H locs ls hl hP hS)
theorem z_i2b (C : Zc X cc own nL rm w) {x : Int32} (hd : decode cc pc = .ok (.i2b, 1)) (kk : Zj X nL w M (pc + 1) lv (.int x.toInt8.toInt32 :: st)) : Zj X nL w M pc lv (.int x :: st) := by
  obtain ⟨p, l, e, R, s, m, args, below, meth, c, A, Q⟩ := X
  obtain ⟨hx, hb, -⟩ := C
  exact fun H locs ls hl hP hS => lv_i2b hx hb hd rfl (kk H locs ls hl hP hS)
theorem z_i2s (C : Zc X cc own nL rm w) {x : Int32} (hd : decode cc pc = .ok (.i2s, 1)) (kk : Zj X nL w M (pc + 1) lv (.int x.toInt16.toInt32 :: st)) : Zj X nL w M pc lv (.int x :: st) := by
  obtain ⟨p, l, e, R, s, m, args, below, meth, c, A, Q⟩ := X
  obtain ⟨hx, hb, -⟩ := C
  exact fun H locs ls hl hP hS => lv_i2s hx hb hd rfl (kk H locs ls hl hP hS)
theorem z_lcmp (C : Zc X cc own nL rm w) {x y : Int64} (hd : decode cc pc = .ok (.lcmp, 1)) (kk : Zj X nL w M (pc + 1) lv (.int (lg_cmp x y) :: st)) : Zj X nL w M pc lv (.long y :: .long x :: st) := by
  obtain ⟨p, l, e, R, s, m, args, below, meth, c, A, Q⟩ := X
  obtain ⟨hx, hb, -⟩ := C
  exact fun H locs ls hl hP hS => W.lcmp hx hb hd (kk H locs ls hl hP hS)
theorem z_dup (C : Zc X cc own nL rm w) {va : Value} (hd : decode cc pc = .ok (.dup, 1)) (hva : va.category = 1) (kk : Zj X nL w M (pc + 1) lv (va :: va :: st)) : Zj X nL w M pc lv (va :: st) := by
  obtain ⟨p, l, e, R, s, m, args, below, meth, c, A, Q⟩ := X
  obtain ⟨hx, hb, -⟩ := C
  exact fun H locs ls hl hP hS => lv_dup hx hb hd hva (kk H locs ls hl hP hS)
theorem z_pop (C : Zc X cc own nL rm w) {va : Value} (hd : decode cc pc = .ok (.pop, 1)) (hva : va.category = 1) (kk : Zj X nL w M (pc + 1) lv st) : Zj X nL w M pc lv (va :: st) := by
  obtain ⟨p, l, e, R, s, m, args, below, meth, c, A, Q⟩ := X
  obtain ⟨hx, hb, -⟩ := C
  exact fun H locs ls hl hP hS => lv_pop hx hb hd hva (kk H locs ls hl hP hS)
theorem z_dup2 (C : Zc X cc own nL rm w) {va vb : Value} (hd : decode cc pc = .ok (.dup2, 1)) (hva : va.category = 1) (hvb : vb.category = 1) (kk : Zj X nL w M (pc + 1) lv (va :: vb :: va :: vb :: st)) : Zj X nL w M pc lv (va :: vb :: st) := by
  obtain ⟨p, l, e, R, s, m, args, below, meth, c, A, Q⟩ := X
  obtain ⟨hx, hb, -⟩ := C
  exact fun H locs ls hl hP hS => lv_dup2_11 hx hb hd hva hvb (kk H locs ls hl hP hS)
theorem z_goto (C : Zc X cc own nL rm w) {off : Int} (tgt : Nat) (hd : decode cc pc = .ok (.goto off, 3)) (ht : (pc : Int) + off = (tgt : Int)) (kk : Zj X nL w M tgt lv st) : Zj X nL w M pc lv st := by
  obtain ⟨p, l, e, R, s, m, args, below, meth, c, A, Q⟩ := X
  obtain ⟨hx, hb, -⟩ := C
  exact fun H locs ls hl hP hS => lv_goto hx hb hd ht (kk H locs ls hl hP hS)
theorem z_if_eq (C : Zc X cc own nL rm w) {x : Int32} {off : Int} (tgt : Nat) (hd : decode cc pc = .ok (.ifCond .eq off, 3)) (ht : (pc : Int) + off = (tgt : Int)) (kt : x = 0 → Zj X nL w M tgt lv st) (kf : ¬ x = 0 → Zj X nL w M (pc + 3) lv st) : Zj X nL w M pc lv (.int x :: st) := by
  obtain ⟨p, l, e, R, s, m, args, below, meth, c, A, Q⟩ := X
  obtain ⟨hx, hb, -⟩ := C
  exact fun H locs ls hl hP hS => lv_if_eq hx hb hd ht (fun h => kt h H locs ls hl hP hS) (fun h => kf h H locs ls hl hP hS)
theorem z_ic_eq (C : Zc X cc own nL rm w) {x y : Int32} {off : Int} (tgt : Nat) (hd : decode cc pc = .ok (.if_icmp .eq off, 3)) (ht : (pc : Int) + off = (tgt : Int)) (kt : x = y → Zj X nL w M tgt lv st) (kf : ¬ x = y → Zj X nL w M (pc + 3) lv st) : Zj X nL w M pc lv (.int y :: .int x :: st) := by
  obtain ⟨p, l, e, R, s, m, args, below, meth, c, A, Q⟩ := X
  obtain ⟨hx, hb, -⟩ := C
  exact fun H locs ls hl hP hS => lv_icmp_eq hx hb hd ht (fun h => kt h H locs ls hl hP hS) (fun h => kf h H locs ls hl hP hS)
theorem z_if_ne (C : Zc X cc own nL rm w) {x : Int32} {off : Int} (tgt : Nat) (hd : decode cc pc = .ok (.ifCond .ne off, 3)) (ht : (pc : Int) + off = (tgt : Int)) (kt : ¬ x = 0 → Zj X nL w M tgt lv st) (kf : x = 0 → Zj X nL w M (pc + 3) lv st) : Zj X nL w M pc lv (.int x :: st) := by
  obtain ⟨p, l, e, R, s, m, args, below, meth, c, A, Q⟩ := X
  obtain ⟨hx, hb, -⟩ := C
  exact fun H locs ls hl hP hS => lv_if_ne hx hb hd ht (fun h => kt h H locs ls hl hP hS) (fun h => kf h H locs ls hl hP hS)
theorem z_ic_ne (C : Zc X cc own nL rm w) {x y : Int32} {off : Int} (tgt : Nat) (hd : decode cc pc = .ok (.if_icmp .ne off, 3)) (ht : (pc : Int) + off = (tgt : Int)) (kt : ¬ x = y → Zj X nL w M tgt lv st) (kf : x = y → Zj X nL w M (pc + 3) lv st) : Zj X nL w M pc lv (.int y :: .int x :: st) := by
  obtain ⟨p, l, e, R, s, m, args, below, meth, c, A, Q⟩ := X
  obtain ⟨hx, hb, -⟩ := C
  exact fun H locs ls hl hP hS => lv_icmp_ne hx hb hd ht (fun h => kt h H locs ls hl hP hS) (fun h => kf h H locs ls hl hP hS)
theorem z_if_lt (C : Zc X cc own nL rm w) {x : Int32} {off : Int} (tgt : Nat) (hd : decode cc pc = .ok (.ifCond .lt off, 3)) (ht : (pc : Int) + off = (tgt : Int)) (kt : x < 0 → Zj X nL w M tgt lv st) (kf : ¬ x < 0 → Zj X nL w M (pc + 3) lv st) : Zj X nL w M pc lv (.int x :: st) := by
  obtain ⟨p, l, e, R, s, m, args, below, meth, c, A, Q⟩ := X
  obtain ⟨hx, hb, -⟩ := C
  exact fun H locs ls hl hP hS => lv_if_lt hx hb hd ht (fun h => kt h H locs ls hl hP hS) (fun h => kf h H locs ls hl hP hS)
theorem z_ic_lt (C : Zc X cc own nL rm w) {x y : Int32} {off : Int} (tgt : Nat) (hd : decode cc pc = .ok (.if_icmp .lt off, 3)) (ht : (pc : Int) + off = (tgt : Int)) (kt : x < y → Zj X nL w M tgt lv st) (kf : ¬ x < y → Zj X nL w M (pc + 3) lv st) : Zj X nL w M pc lv (.int y :: .int x :: st) := by
  obtain ⟨p, l, e, R, s, m, args, below, meth, c, A, Q⟩ := X
  obtain ⟨hx, hb, -⟩ := C
  exact fun H locs ls hl hP hS => lv_icmp_lt hx hb hd ht (fun h => kt h H locs ls hl hP hS) (fun h => kf h H locs ls hl hP hS)
theorem z_if_ge (C : Zc X cc own nL rm w) {x : Int32} {off : Int} (tgt : Nat) (hd : decode cc pc = .ok (.ifCond .ge off, 3)) (ht : (pc : Int) + off = (tgt : Int)) (kt : 0 ≤ x → Zj X nL w M tgt lv st) (kf : ¬ 0 ≤ x → Zj X nL w M (pc + 3) lv st) : Zj X nL w M pc lv (.int x :: st) := by
  obtain ⟨p, l, e, R, s, m, args, below, meth, c, A, Q⟩ := X
  obtain ⟨hx, hb, -⟩ := C
  exact fun H locs ls hl hP hS => lv_if_ge hx hb hd ht (fun h => kt h H locs ls hl hP hS) (fun h => kf h H locs ls hl hP hS)
theorem z_ic_ge (C : Zc X cc own nL rm w) {x y : Int32} {off : Int} (tgt : Nat) (hd : decode cc pc = .ok (.if_icmp .ge off, 3)) (ht : (pc : Int) + off = (tgt : Int)) (kt : y ≤ x → Zj X nL w M tgt lv st) (kf : ¬ y ≤ x → Zj X nL w M (pc + 3) lv st) : Zj X nL w M pc lv (.int y :: .int x :: st) := by
  obtain ⟨p, l, e, R, s, m, args, below, meth, c, A, Q⟩ := X
  obtain ⟨hx, hb, -⟩ := C
  exact fun H locs ls hl hP hS => lv_icmp_ge hx hb hd ht (fun h => kt h H locs ls hl hP hS) (fun h => kf h H locs ls hl hP hS)
theorem z_if_gt (C : Zc X cc own nL rm w) {x : Int32} {off : Int} (tgt : Nat) (hd : decode cc pc = .ok (.ifCond .gt off, 3)) (ht : (pc : Int) + off = (tgt : Int)) (kt : 0 < x → Zj X nL w M tgt lv st) (kf : ¬ 0 < x → Zj X nL w M (pc + 3) lv st) : Zj X nL w M pc lv (.int x :: st) := by
  obtain ⟨p, l, e, R, s, m, args, below, meth, c, A, Q⟩ := X
  obtain ⟨hx, hb, -⟩ := C
  exact fun H locs ls hl hP hS => lv_if_gt hx hb hd ht (fun h => kt h H locs ls hl hP hS) (fun h => kf h H locs ls hl hP hS)
theorem z_ic_gt (C : Zc X cc own nL rm w) {x y : Int32} {off : Int} (tgt : Nat) (hd : decode cc pc = .ok (.if_icmp .gt off, 3)) (ht : (pc : Int) + off = (tgt : Int)) (kt : y < x → Zj X nL w M tgt lv st) (kf : ¬ y < x → Zj X nL w M (pc + 3) lv st) : Zj X nL w M pc lv (.int y :: .int x :: st) := by
  obtain ⟨p, l, e, R, s, m, args, below, meth, c, A, Q⟩ := X
  obtain ⟨hx, hb, -⟩ := C
  exact fun H locs ls hl hP hS => lv_icmp_gt hx hb hd ht (fun h => kt h H locs ls hl hP hS) (fun h => kf h H locs ls hl hP hS)
theorem z_if_le (C : Zc X cc own nL rm w) {x : Int32} {off : Int} (tgt : Nat) (hd : decode cc pc = .ok (.ifCond .le off, 3)) (ht : (pc : Int) + off = (tgt : Int)) (kt : x ≤ 0 → Zj X nL w M tgt lv st) (kf : ¬ x ≤ 0 → Zj X nL w M (pc + 3) lv st) : Zj X nL w M pc lv (.int x :: st) := by
  obtain ⟨p, l, e, R, s, m, args, below, meth, c, A, Q⟩ := X
  obtain ⟨hx, hb, -⟩ := C
  exact fun H locs ls hl hP hS => lv_if_le hx hb hd ht (fun h => kt h H locs ls hl hP hS) (fun h => kf h H locs ls hl hP hS)
theorem z_ic_le (C : Zc X cc own nL rm w) {x y : Int32} {off : Int} (tgt : Nat) (hd : decode cc pc = .ok (.if_icmp .le off, 3)) (ht : (pc : Int) + off = (tgt : Int)) (kt : x ≤ y → Zj X nL w M tgt lv st) (kf : ¬ x ≤ y → Zj X nL w M (pc + 3) lv st) : Zj X nL w M pc lv (.int y :: .int x :: st) := by
  obtain ⟨p, l, e, R, s, m, args, below, meth, c, A, Q⟩ := X
  obtain ⟨hx, hb, -⟩ := C
  exact fun H locs ls hl hP hS => lv_icmp_le hx hb hd ht (fun h => kt h H locs ls hl hP hS) (fun h => kf h H locs ls hl hP hS)
/-- fewer or other locals, by places -/
theorem z_sub (ks : List Nat) {lv' : List (Nat × Value)} (h : lv_pick lv ks = lv') (kk : Zj X nL w M pc lv' st) : Zj X nL w M pc lv st := by
  obtain ⟨p, l, e, R, s, m, args, below, meth, c, A, Q⟩ := X
  exact fun H locs ls hl hP hS => kk H locs ls (lv_sub hl ks h) hP hS
/-- a switch by a table from 0 on -/
theorem z_table (C : Zc X cc own nL rm w) {x : Int32} {dflt hi : Int} {offs : Array Int} {len : Nat} (tgts : List Nat) (td : Nat) (hd : decode cc pc = .ok (.tableswitch dflt 0 hi offs, len)) (ho : offs.toList = tgts.map (fun t : Nat => (t : Int) - (pc : Int))) (hh : hi = (tgts.length : Int) - 1) (hq : dflt = (td : Int) - (pc : Int)) (hn : tgts.length < 1000)
    (kin : ∀ (k t : Nat), tgts[k]? = some t → x = nI k → Zj X nL w M t lv st) (kout : (∀ k, k < tgts.length → ¬ x = nI k) → Zj X nL w M td lv st) : Zj X nL w M pc lv (.int x :: st) := by
  by_cases h : 0 ≤ x.toInt ∧ x.toInt < (tgts.length : Int)
  · have hk : x = nI x.toInt.toNat := by
      apply Int32.toInt_inj.mp
      rw [nI_toInt (by omega)]
      omega
    have hlt : x.toInt.toNat < tgts.length := by omega
    have h1 : tgts[x.toInt.toNat]? = some tgts[x.toInt.toNat] := List.getElem?_eq_getElem hlt
    have kk := kin _ _ h1 hk
    obtain ⟨p, l, e, R, s, m, args, below, meth, c, A, Q⟩ := X
    obtain ⟨hx, hb, -⟩ := C
    refine fun H locs ls hl hP hS => lv_tableIn (tgt := tgts[x.toInt.toNat]) (off := (tgts[x.toInt.toNat] : Int) - (pc : Int)) hx hb hd (by omega) (by omega) ?_ (by omega) (kk H locs ls hl hP hS)
    rw [← Array.getElem?_toList, ho, List.getElem?_map, show (x.toInt - 0).toNat = x.toInt.toNat by omega, h1]
    rfl
  · have kk := kout (fun k hk e => h (by rw [e, nI_toInt (by omega)]; omega))
    obtain ⟨p, l, e, R, s, m, args, below, meth, c, A, Q⟩ := X
    obtain ⟨hx, hb, -⟩ := C
    exact fun H locs ls hl hP hS => lv_tableOut (tgt := td) hx hb hd (by omega) (by omega) (kk H locs ls hl hP hS)
/-! the heap's rows -/
theorem z_get (C : Zc X cc own nL rm w) {ref Cn : String} {T : u_T} {N ci index a : Nat} (hin : ∀ q ∈ u_ws Cn T N, q ∈ zt) (q0 : Nat) {fs : List Value} (he : (w.2.2.2 M)[q0]? = some (a, .inr (ci, fs))) (hc : w.2.1[ci]? = some (Cn, T, N)) (k : Nat) (hk : Nat.blt k N = true) (hlink : Cond.fieldLink own index ref (T k).2.1 (T k).2.2.1 ∈ zt) (href : (T k).1 = ref) {v : Value} (hv : fs[k]? = some v) (hd : decode cc pc = .ok (.getfield index, 3))
    (kk : Zj X nL w M (pc + 3) lv (v :: st)) : Zj X nL w M pc lv (.ref a :: st) := by
  obtain ⟨p, l, e, R, s, m, args, below, meth, c, A, Q⟩ := X
  obtain ⟨hx, hb, hml, ho, ht, hK, hDa, hA, -⟩ := C
  subst href
  exact fun H locs ls hl hP hS => va_get hx hb ht hin ho hK hP q0 he hc k (Nat.le_of_ble_eq_true hk) (ht _ hlink) (fun _ h => h) hv hd (kk H locs ls hl hP hS)
theorem z_put (C : Zc X cc own nL rm w) {ref Cn : String} {T : u_T} {N ci index a : Nat} (hin : ∀ q ∈ u_ws Cn T N, q ∈ zt) (ty0 : Nat → FieldType) (hty : ∀ k, k < N → parseFieldDescriptor (T k).2.2.1 = some (ty0 k)) (hnm : ∀ a, a < N → ∀ b, b < N → a ≠ b → (T a).2.1 ≠ (T b).2.1) (q0 : Nat) {fs : List Value} (he : (w.2.2.2 M)[q0]? = some (a, .inr (ci, fs))) (hc : w.2.1[ci]? = some (Cn, T, N)) (k : Nat) (hk : Nat.blt k N = true) (hlink : Cond.fieldLink own index ref (T k).2.1 (T k).2.2.1 ∈ zt) (href : (T k).1 = ref) (hfin : (T k).2.2.2 = false) {ty : FieldType} {v : Value} (hty1 : parseFieldDescriptor (T k).2.2.1 = some ty) (hn : narrow ty v = v) (hfit : fits ty v = true) (hl0 : k < fs.length) (hd : decode cc pc = .ok (.putfield index, 3))
    {M2 : Mem} (hset : (w.2.2.2 M).set q0 (a, .inr (ci, fs.set k v)) = w.2.2.2 M2) (kk : Zj X nL w M2 (pc + 3) lv st) : Zj X nL w M pc lv (v :: .ref a :: st) := by
  obtain ⟨p, l, e, R, s, m, args, below, meth, c, A, Q⟩ := X
  obtain ⟨hx, hb, hml, ho, ht, hK, hDa, hA, -⟩ := C
  subst href
  exact fun H locs ls hl hP hS => va_put hx hb ht hin ty0 hty hnm ho hK hP (hDa M) hS q0 he hc k (Nat.le_of_ble_eq_true hk) (ht _ hlink) (fun _ h => h) hfin hty1 hn hfit hl0 hd (fun H locs hP hD hS => kk H locs ls hl (hset ▸ hP) hS)
theorem z_iald (C : Zc X cc own nL rm w) (q0 t0 : Nat) {a n : Nat} {cA : ClassId} {f : Nat → Int32} (ha : (w.2.2.2 M)[q0]? = some (a, .inl (cA, n, .inl f))) (ht : w.2.2.1[t0]? = some (cA, .int)) {i : Int32} (hi : vp_in i n) (hd : decode cc pc = .ok (.iaload, 1))
    (kk : Zj X nL w M (pc + 1) lv (.int (f i.toNatClampNeg) :: st)) : Zj X nL w M pc lv (.int i :: .ref a :: st) := by
  obtain ⟨p, l, e, R, s, m, args, below, meth, c, A, Q⟩ := X
  obtain ⟨hx, hb, hml, ho, -, hK, hDa, hA, -⟩ := C
  exact fun H locs ls hl hP hS => va_iald hx hb hK hP q0 t0 ha ht hi hd (kk H locs ls hl hP hS)
theorem z_iast (C : Zc X cc own nL rm w) (q0 t0 : Nat) {a n : Nat} {cA : ClassId} {f : Nat → Int32} (ha : (w.2.2.2 M)[q0]? = some (a, .inl (cA, n, .inl f))) (ht : w.2.2.1[t0]? = some (cA, .int)) {i x : Int32} (hi : vp_in i n) (hd : decode cc pc = .ok (.iastore, 1))
    {M2 : Mem} (hset : (w.2.2.2 M).set q0 (a, .inl (cA, n, .inl (upd f i.toNatClampNeg x))) = w.2.2.2 M2) (kk : Zj X nL w M2 (pc + 1) lv st) : Zj X nL w M pc lv (.int x :: .int i :: .ref a :: st) := by
  obtain ⟨p, l, e, R, s, m, args, below, meth, c, A, Q⟩ := X
  obtain ⟨hx, hb, hml, ho, -, hK, hDa, hA, -⟩ := C
  exact fun H locs ls hl hP hS => va_iast hx hb hK hP (hDa M) hS q0 t0 ha ht hi hd (fun H locs hP hD hS => kk H locs ls hl (hset ▸ hP) hS)
theorem z_alen (C : Zc X cc own nL rm w) (q0 t0 : Nat) {a : Nat} {cA : ClassId} {x : vp_A} {ty : FieldType} (ha : (w.2.2.2 M)[q0]? = some (a, .inl (cA, x))) (ht : w.2.2.1[t0]? = some (cA, ty)) {v : Int32} (hv : Int32.ofNat x.1 = v) (hd : decode cc pc = .ok (.arraylength, 1))
    (kk : Zj X nL w M (pc + 1) lv (.int v :: st)) : Zj X nL w M pc lv (.ref a :: st) := by
  obtain ⟨p, l, e, R, s, m, args, below, meth, c, A, Q⟩ := X
  obtain ⟨hx, hb, hml, ho, -, hK, hDa, hA, -⟩ := C
  exact fun H locs ls hl hP hS => va_alen hx hb hK hP q0 t0 ha ht hv hd (kk H locs ls hl hP hS)
theorem z_aald (C : Zc X cc own nL rm w) (q0 t0 : Nat) {a n : Nat} {cA : ClassId} {Cn : String} {f : Nat → Option Nat} (ha : (w.2.2.2 M)[q0]? = some (a, .inl (cA, n, .inr (.inr (.inr (.inr f)))))) (ht : w.2.2.1[t0]? = some (cA, .object Cn)) {i : Int32} (hi : vp_in i n) {v : Value} (hv : va_rf (f i.toNatClampNeg) = v) (hd : decode cc pc = .ok (.aaload, 1))
    (kk : Zj X nL w M (pc + 1) lv (v :: st)) : Zj X nL w M pc lv (.int i :: .ref a :: st) := by
  obtain ⟨p, l, e, R, s, m, args, below, meth, c, A, Q⟩ := X
  obtain ⟨hx, hb, hml, ho, -, hK, hDa, hA, -⟩ := C
  exact fun H locs ls hl hP hS => va_aldq hx hb hK hP q0 t0 ha ht hi hd (hv ▸ kk H locs ls hl hP hS)
theorem z_copy (C : Zc X cc own nL rm w) {index : Nat} (hlink : Cond.methodLink own index arraycopyName ∈ zt) (hnat : Cond.native arraycopyName ∈ zt) (hstat : Cond.static arraycopyName ∈ zt) (hini : Cond.initialized "java/lang/System" ∈ zt) (q0 q1 t0 : Nat) {a0 a n0 n1 : Nat} {c0 : ClassId} {f g : Nat → Int32} (ha0 : (w.2.2.2 M)[q0]? = some (a0, .inl (c0, n0, .inl f))) (ha1 : (w.2.2.2 M)[q1]? = some (a, .inl (c0, n1, .inl g))) (ht : w.2.2.1[t0]? = some (c0, .int))
    {sp dp n : Int32} (h1 : ¬ sp < 0) (h2 : ¬ dp < 0) (h3 : ¬ n < 0) (h4 : sp.toNatClampNeg + n.toNatClampNeg ≤ n0) (h5 : dp.toNatClampNeg + n.toNatClampNeg ≤ n1) (hfr : 1 ≤ rm.frames) (hlo : (st.map fun v => v.category).sum + (nativeFrameWords "java/lang/System" "arraycopy" 5 + 11) ≤ rm.locals) (hd : decode cc pc = .ok (.invokestatic index, 3))
    {M2 : Mem} (hset : (w.2.2.2 M).set q1 (a, .inl (c0, n1, .inl (va_cpy f g sp.toNatClampNeg dp.toNatClampNeg n.toNatClampNeg))) = w.2.2.2 M2) (kk : Zj X nL w M2 (pc + 3) lv st) : Zj X nL w M pc lv (.int n :: .int dp :: .ref a :: .int sp :: .ref a0 :: st) := by
  obtain ⟨p, l, e, R, s, m, args, below, meth, c, A, Q⟩ := X
  obtain ⟨hx, hb, hml, ho, htb, hK, hDa, hA, -, hR⟩ := C
  subst hR
  exact fun H locs ls hl hP hS => va_copyi hx hb (hml.trans hl.1.symm) ho (htb _ hlink) (htb _ hnat) (htb _ hstat) (htb _ hini) hK hP (hDa M) hS q0 q1 t0 t0 ha0 ha1 ht ht rfl h1 h2 h3 h4 h5 (fun _ _ => rfl) hfr hlo hd (fun H locs hP hD hS => kk H locs ls hl (hset ▸ hP) hS)
/-! returns -/
def Zat (w : ZW) (A : Nat → Prop) (M : Mem) (t : State) : Prop := va_P w.1 w.2.1 (w.2.2.2 M) t.heap ∧ va_K w.1 w.2.1 w.2.2.1 t ∧ va_D A (w.2.2.2 M)
def Zri (X : ZX) (w : ZW) (ret : Option FieldType) (post : Int32 → Mem → Prop) : Prop := match X with
  | (p, l, e, R, s, m, args, below, meth, c, A, Q) => meth.sig.returnType = ret ∧ Q = MQ below (va_Qi post (Zat w A) A) args s 0 0 A
def Zrl (X : ZX) (w : ZW) (post : Int64 → Mem → Prop) : Prop := match X with
  | (p, l, e, R, s, m, args, below, meth, c, A, Q) => meth.sig.returnType = some .long ∧ Q = MQ below (va_Ql post (Zat w A) A) args s 0 0 A
def Zrv (X : ZX) (w : ZW) (post : Mem → Prop) : Prop := match X with
  | (p, l, e, R, s, m, args, below, meth, c, A, Q) => meth.sig.returnType = none ∧ Q = MQ below (va_Qv post (Zat w A) A) args s 0 0 A
def Zrr (X : ZX) (w : ZW) (ret : Option FieldType) (post : Mem → Prop) (ra : Nat) : Prop := match X with
  | (p, l, e, R, s, m, args, below, meth, c, A, Q) => meth.sig.returnType = ret ∧ Q = MQ below (va_Qr post (fun u a t => a = ra ∧ Zat w A u t) A) args s 0 0 A
theorem z_iret (C : Zc X cc own nL rm w) {post : Int32 → Mem → Prop} (hr : Zri X w (some .int) post) {v : Int32} (hp : post v M) (hd : decode cc pc = .ok (.ireturn, 1)) : Zj X nL w M pc lv [.int v] := by
  obtain ⟨p, l, e, R, s, m, args, below, meth, c, A, Q⟩ := X
  obtain ⟨hx, hb, hml, ho, htb, hK, hDa, hA, hlk, hR⟩ := C
  obtain ⟨hr, rfl⟩ := hr
  exact fun H locs ls hl hP hS => W.iret hx hb hr (fun t ht hW => ⟨⟨v, M, rfl, hp, by rw [ht]; exact hP, va_K.moved hW.alike hK, hDa M⟩, hS.F ht⟩) hS.2.2 hd hlk
theorem z_zret (C : Zc X cc own nL rm w) {post : Int32 → Mem → Prop} (hr : Zri X w (some .boolean) post) {v : Int32} (hv : v = 0 ∨ v = 1) (hp : post v M) (hd : decode cc pc = .ok (.ireturn, 1)) : Zj X nL w M pc lv [.int v] := by
  obtain ⟨p, l, e, R, s, m, args, below, meth, c, A, Q⟩ := X
  obtain ⟨hx, hb, hml, ho, htb, hK, hDa, hA, hlk, hR⟩ := C
  obtain ⟨hr, rfl⟩ := hr
  have hn : narrow .boolean (.int v) = .int v := by rcases hv with rfl | rfl <;> rfl
  exact fun H locs ls hl hP hS => W.zret hx hb hr hn (fun t ht hW => ⟨⟨v, M, rfl, hp, by rw [ht]; exact hP, va_K.moved hW.alike hK, hDa M⟩, hS.F ht⟩) hS.2.2 hd hlk
theorem z_lret (C : Zc X cc own nL rm w) {post : Int64 → Mem → Prop} (hr : Zrl X w post) {v : Int64} (hp : post v M) (hd : decode cc pc = .ok (.lreturn, 1)) : Zj X nL w M pc lv [.long v] := by
  obtain ⟨p, l, e, R, s, m, args, below, meth, c, A, Q⟩ := X
  obtain ⟨hx, hb, hml, ho, htb, hK, hDa, hA, hlk, hR⟩ := C
  obtain ⟨hr, rfl⟩ := hr
  exact fun H locs ls hl hP hS => W.lret hx hb hr (fun t ht hW => ⟨⟨v, M, rfl, hp, by rw [ht]; exact hP, va_K.moved hW.alike hK, hDa M⟩, hS.F ht⟩) hS.2.2 hd hlk
theorem z_vret (C : Zc X cc own nL rm w) {post : Mem → Prop} (hr : Zrv X w post) (hp : post M) (hd : decode cc pc = .ok (.return_, 1)) : Zj X nL w M pc lv [] := by
  obtain ⟨p, l, e, R, s, m, args, below, meth, c, A, Q⟩ := X
  obtain ⟨hx, hb, hml, ho, htb, hK, hDa, hA, hlk, hR⟩ := C
  obtain ⟨hr, rfl⟩ := hr
  exact fun H locs ls hl hP hS => W.vret hx hb hr (fun t ht hW => ⟨⟨M, rfl, hp, by rw [ht]; exact hP, va_K.moved hW.alike hK, hDa M⟩, hS.F ht⟩) hS.2.2 hd hlk
end ZR
end
section
/-! calls and contracts -/
def zws (y : MethodName) (cy : ByteArray) (ml : Nat) (rt : Option FieldType) : List Cond := .code y cy ml rt :: zt
def Zpre (w : ZW) (av : List Value) (M : Mem) (sz : Nat) : Array Value → State → Prop := va_Pc av (fun U => U.heap.size = sz ∧ va_P w.1 w.2.1 (w.2.2.2 M) U.heap ∧ va_K w.1 w.2.1 w.2.2.1 U ∧ va_D (fun _ => True) (w.2.2.2 M))
/-- the addresses of a world don't hang on what its cells hold -/
def Zok (w : ZW) : Prop := ∀ (M M' : Mem) (k : Nat), ((w.2.2.2 M)[k]?).map Prod.fst = ((w.2.2.2 M')[k]?).map Prod.fst
def CtI (w : ZW) (y : MethodName) (cy : ByteArray) (ml : Nat) (rt : Option FieldType) (rmy : Room) (av : List Value) (M : Mem) (post : Int32 → Mem → Prop) : Prop := ∀ (l : Launch) (sz : Nat), Met l y (zws y cy ml rt) rmy (Zpre w av M sz) (va_Qi post (Zat w (va_A (w.2.2.2 M) sz)) (va_A (w.2.2.2 M) sz)) 0 0 (va_A (w.2.2.2 M) sz)
def CtL (w : ZW) (y : MethodName) (cy : ByteArray) (ml : Nat) (rt : Option FieldType) (rmy : Room) (av : List Value) (M : Mem) (post : Int64 → Mem → Prop) : Prop := ∀ (l : Launch) (sz : Nat), Met l y (zws y cy ml rt) rmy (Zpre w av M sz) (va_Ql post (Zat w (va_A (w.2.2.2 M) sz)) (va_A (w.2.2.2 M) sz)) 0 0 (va_A (w.2.2.2 M) sz)
def CtV (w : ZW) (y : MethodName) (cy : ByteArray) (ml : Nat) (rt : Option FieldType) (rmy : Room) (av : List Value) (M : Mem) (post : Mem → Prop) : Prop := ∀ (l : Launch) (sz : Nat), Met l y (zws y cy ml rt) rmy (Zpre w av M sz) (va_Qv post (Zat w (va_A (w.2.2.2 M) sz)) (va_A (w.2.2.2 M) sz)) 0 0 (va_A (w.2.2.2 M) sz)
def CtR (w : ZW) (y : MethodName) (cy : ByteArray) (ml : Nat) (rt : Option FieldType) (rmy : Room) (av : List Value) (M : Mem) (post : Mem → Prop) (ra : Nat) : Prop := ∀ (l : Launch) (sz : Nat), Met l y (zws y cy ml rt) rmy (Zpre w av M sz) (va_Qr post (fun u a t => a = ra ∧ Zat w (va_A (w.2.2.2 M) sz) u t) (va_A (w.2.2.2 M) sz)) 0 0 (va_A (w.2.2.2 M) sz)
/-- what the tables say of a method, virtual (v = true) or static -/
def Zm (v : Bool) (y : MethodName) (cy : ByteArray) (ml : Nat) (rt : Option FieldType) (n : Nat) (rmy : Room) : Prop :=
  Cond.code y cy ml rt ∈ zt ∧ Cond.initialized y.cls ∈ zt ∧ (v = true → Cond.instanceMethod y ∈ zt ∧ Cond.selects y.cls y y ∈ zt) ∧ (v = false → Cond.static y ∈ zt) ∧ (y.cls ≠ "java/lang/invoke/MethodHandle" ∧ y.cls ≠ "java/lang/invoke/VarHandle" ∧ (parseMethodDescriptor y.desc).map (fun d => d.parameters.length) = some n) ∧ rmy.cells = 0 ∧ rmy.slots = 0
theorem zm_goodS {y : MethodName} {cy : ByteArray} {ml : Nat} {rt : Option FieldType} {n idx : Nat} {rmy : Room} {own : String} (h : Zm false y cy ml rt n rmy) (hl : Cond.methodLink own idx y ∈ zt) : GoodIn zt (va_wsS own idx y (zws y cy ml rt)) := by
  obtain ⟨h1, h2, -, h4, -⟩ := h
  intro q hq
  have hz : q ∈ zt := by
    rcases List.mem_append.mp hq with h | h
    · simp only [List.mem_cons, List.not_mem_nil, or_false] at h
      rcases h with rfl | rfl | rfl
      · exact hl
      · exact h4 rfl
      · exact h2
    · rcases List.mem_cons.mp h with rfl | h
      · exact h1
      · exact h
  exact ⟨hz, good_of_word (zz_good q hz)⟩
theorem zm_goodV {y : MethodName} {cy : ByteArray} {ml : Nat} {rt : Option FieldType} {n idx : Nat} {rmy : Room} {own : String} (h : Zm true y cy ml rt n rmy) (hl : Cond.methodLink own idx y ∈ zt) : GoodIn zt (wsV own idx y.cls y (zws y cy ml rt)) := by
  obtain ⟨h1, h2, h3, -, -⟩ := h
  intro q hq
  have hz : q ∈ zt := by
    rcases List.mem_append.mp hq with h | h
    · simp only [List.mem_cons, List.not_mem_nil, or_false] at h
      rcases h with rfl | rfl | rfl | rfl
      · exact hl
      · exact (h3 rfl).1
      · exact (h3 rfl).2
      · exact h2
    · rcases List.mem_cons.mp h with rfl | h
      · exact h1
      · exact h
  exact ⟨hz, good_of_word (zz_good q hz)⟩
theorem zok_D {w : ZW} (hw : Zok w) {A : Nat → Prop} {M : Mem} (h : va_D A (w.2.2.2 M)) (M' : Mem) : va_D A (w.2.2.2 M') := by
  have key : ∀ (k : Nat) (q : Nat × va_E), (w.2.2.2 M')[k]? = some q → ∃ q', (w.2.2.2 M)[k]? = some q' ∧ q'.1 = q.1 := by
    intro k q hq
    have h1 := hw M M' k
    rw [hq] at h1
    cases h2 : (w.2.2.2 M)[k]? with
    | none => rw [h2] at h1; cases h1
    | some q' => rw [h2] at h1; exact ⟨q', rfl, Option.some.inj h1⟩
  refine ⟨fun i j p q hp hq e => ?_, fun k q hq => ?_⟩
  · obtain ⟨p', hp', ep⟩ := key i p hp
    obtain ⟨q', hq', eq⟩ := key j q hq
    exact h.1 i j p' q' hp' hq' (by rw [ep, eq, e])
  · obtain ⟨q', hq', e⟩ := key k q hq
    rw [← e]
    exact h.2 k q' hq'
theorem zok_A {w : ZW} (hw : Zok w) {M M' : Mem} {sz : Nat} : va_A (w.2.2.2 M) sz = va_A (w.2.2.2 M') sz := by
  have key : ∀ (M M' : Mem) (q : Nat), va_A (w.2.2.2 M) sz q → va_A (w.2.2.2 M') sz q := by
    intro M M' q h
    rcases h with ⟨k, e, h⟩ | h
    · have h1 := hw M M' k
      rw [h] at h1
      cases h2 : (w.2.2.2 M')[k]? with
      | none => rw [h2] at h1; cases h1
      | some q' =>
        rw [h2] at h1
        have h3 : q = q'.1 := Option.some.inj h1
        exact Or.inl ⟨k, q'.2, by rw [h2, h3]⟩
    · exact Or.inr h
  funext q
  exact propext ⟨key M M' q, key M' M q⟩
section ZS
variable {X : ZX} {cc : ByteArray} {own : String} {nL : Nat} {rm : Room} {w : ZW} {M : Mem} {pc : Nat} {lv : List (Nat × Value)} {st : List Value}
theorem zz_blind {av : List Value} {sz : Nat} : FrameBlind (Zpre w av M sz) := fun a U g mk q => by
  obtain ⟨q0, q1, qP, qK, qD⟩ := q
  exact ⟨q0, q1, qP, va_K.moved (u := U) (U := U.calling g mk a) (Vm.Alike.refl U.vm) qK, qD⟩
theorem zz_freeA {A : Nat → Prop} {s : State} {H : Heap} {locs : List Loc} (hD : va_D A (w.2.2.2 M)) (hS : va_S A s.heap H locs) (hA : ∀ q, s.heap.size ≤ q → A q) : ∀ q, va_A (w.2.2.2 M) H.size q → A q := by
  intro q h
  rcases h with ⟨k, e, h⟩ | h
  · exact hD.2 k (q, e) h
  · exact hA q (Nat.le_trans hS.1 h)
theorem z_callSi (C : Zc X cc own nL rm w) {y : MethodName} {cy : ByteArray} {ml n idx : Nat} {rt : Option FieldType} {rmy : Room} {As rest : List Value} {post : Int32 → Mem → Prop} (hm : Zm false y cy ml rt n rmy) (hl : Cond.methodLink own idx y ∈ zt) (hR : Nat.ble (rmy.frames + 1) rm.frames = true ∧ Nat.ble (8 + (ml + 11) + rmy.locals) rm.locals = true) (hM : CtI w y cy ml rt rmy As M post) (hn : As.length = n) (hst : st = As.reverse ++ rest) (hrm : Nat.ble (rest.map fun v => v.category).sum 8 = true) (hd : decode cc pc = .ok (.invokestatic idx, 3))
    (kk : ∀ (r : Int32) (M2 : Mem), post r M2 → Zj X nL w M2 (pc + 3) lv (.int r :: rest)) : Zj X nL w M pc lv st := by
  subst hst
  obtain ⟨p, l, e, R, s, m, args, below, meth, c, A, Q⟩ := X
  obtain ⟨hx, hb, hml, ho, htb, hK, hDa, hA, hlk, rfl⟩ := C
  intro H locs ls hl' hP hS
  have hF := zz_freeA (hDa M) hS hA
  refine va_calli (va_runS (As := As) (rest := rest) ⟨hx, hb, hml, ho, htb⟩ (hM l H.size) (va_cwS n htb (zm_goodS hm hl) rfl hm.2.2.2.2.2.1 hm.2.2.2.2.2.2 hm.2.2.2.2.1 ⟨Nat.le_of_ble_eq_true hR.1, Nat.le_of_ble_eq_true hR.2⟩) ⟨zz_blind, fun U hU hW => ⟨rfl, by rw [hU], by rw [hU]; exact hP, va_K.moved hW.alike hK, (hDa M).weaken (fun _ _ _ _ => trivial)⟩⟩ rfl hn hl'.1 rfl (lv_room (Nat.le_of_ble_eq_true hrm)) hd ⟨Nat.zero_le _, Nat.zero_le _⟩) hS (fun q _ h => hF q h) hF (fun r u t H1 locs ht hvm hw hB hz1 hk1 hS => ?_)
  exact kk r u hw H1 locs ls hl' (ht ▸ hB.1) hS
theorem z_callVi (C : Zc X cc own nL rm w) {y : MethodName} {cy : ByteArray} {ml n idx b : Nat} {rt : Option FieldType} {rmy : Room} {As rest : List Value} {post : Int32 → Mem → Prop} (hm : Zm true y cy ml rt n rmy) (hl : Cond.methodLink own idx y ∈ zt) (q0 : Nat) {ci N : Nat} {T : u_T} {fs : List Value} (he : (w.2.2.2 M)[q0]? = some (b, .inr (ci, fs))) (hc : w.2.1[ci]? = some (y.cls, T, N)) (hR : Nat.ble (rmy.frames + 1) rm.frames = true ∧ Nat.ble (8 + (ml + 11) + rmy.locals) rm.locals = true) (hM : CtI w y cy ml rt rmy (.ref b :: As) M post) (hn : As.length = n) (hst : st = As.reverse ++ .ref b :: rest) (hrm : Nat.ble (rest.map fun v => v.category).sum 8 = true) (hd : decode cc pc = .ok (.invokevirtual idx, 3))
    (kk : ∀ (r : Int32) (M2 : Mem), post r M2 → Zj X nL w M2 (pc + 3) lv (.int r :: rest)) : Zj X nL w M pc lv st := by
  subst hst
  obtain ⟨p, l, e, R, s, m, args, below, meth, c, A, Q⟩ := X
  obtain ⟨hx, hb, hml, ho, htb, hK, hDa, hA, hlk, rfl⟩ := C
  intro H locs ls hl' hP hS
  have hF := zz_freeA (hDa M) hS hA
  refine va_calli (va_runV (C := y.cls) (As := As) (rest := rest) ⟨hx, hb, hml, ho, htb⟩ (hM l H.size) (cwV n htb (zm_goodV hm hl) rfl hm.2.2.2.2.2.1 hm.2.2.2.2.2.2 ⟨rfl, hm.2.2.2.2.1⟩ ⟨Nat.le_of_ble_eq_true hR.1, Nat.le_of_ble_eq_true hR.2⟩) ⟨zz_blind, va_recv hK hP hc he, fun U hU hW => ⟨rfl, by rw [hU], by rw [hU]; exact hP, va_K.moved hW.alike hK, (hDa M).weaken (fun _ _ _ _ => trivial)⟩⟩ rfl hn hl'.1 rfl (lv_room (Nat.le_of_ble_eq_true hrm)) hd ⟨Nat.zero_le _, Nat.zero_le _⟩) hS (fun q _ h => hF q h) hF (fun r u t H1 locs ht hvm hw hB hz1 hk1 hS => ?_)
  exact kk r u hw H1 locs ls hl' (ht ▸ hB.1) hS
theorem z_callSl (C : Zc X cc own nL rm w) {y : MethodName} {cy : ByteArray} {ml n idx : Nat} {rt : Option FieldType} {rmy : Room} {As rest : List Value} {post : Int64 → Mem → Prop} (hm : Zm false y cy ml rt n rmy) (hl : Cond.methodLink own idx y ∈ zt) (hR : Nat.ble (rmy.frames + 1) rm.frames = true ∧ Nat.ble (8 + (ml + 11) + rmy.locals) rm.locals = true) (hM : CtL w y cy ml rt rmy As M post) (hn : As.length = n) (hst : st = As.reverse ++ rest) (hrm : Nat.ble (rest.map fun v => v.category).sum 8 = true) (hd : decode cc pc = .ok (.invokestatic idx, 3))
    (kk : ∀ (r : Int64) (M2 : Mem), post r M2 → Zj X nL w M2 (pc + 3) lv (.long r :: rest)) : Zj X nL w M pc lv st := by
  subst hst
  obtain ⟨p, l, e, R, s, m, args, below, meth, c, A, Q⟩ := X
  obtain ⟨hx, hb, hml, ho, htb, hK, hDa, hA, hlk, rfl⟩ := C
  intro H locs ls hl' hP hS
  have hF := zz_freeA (hDa M) hS hA
  refine va_calll (va_runS (As := As) (rest := rest) ⟨hx, hb, hml, ho, htb⟩ (hM l H.size) (va_cwS n htb (zm_goodS hm hl) rfl hm.2.2.2.2.2.1 hm.2.2.2.2.2.2 hm.2.2.2.2.1 ⟨Nat.le_of_ble_eq_true hR.1, Nat.le_of_ble_eq_true hR.2⟩) ⟨zz_blind, fun U hU hW => ⟨rfl, by rw [hU], by rw [hU]; exact hP, va_K.moved hW.alike hK, (hDa M).weaken (fun _ _ _ _ => trivial)⟩⟩ rfl hn hl'.1 rfl (lv_room (Nat.le_of_ble_eq_true hrm)) hd ⟨Nat.zero_le _, Nat.zero_le _⟩) hS (fun q _ h => hF q h) hF (fun r u t H1 locs ht hvm hw hB hz1 hk1 hS => ?_)
  exact kk r u hw H1 locs ls hl' (ht ▸ hB.1) hS
theorem z_callVl (C : Zc X cc own nL rm w) {y : MethodName} {cy : ByteArray} {ml n idx b : Nat} {rt : Option FieldType} {rmy : Room} {As rest : List Value} {post : Int64 → Mem → Prop} (hm : Zm true y cy ml rt n rmy) (hl : Cond.methodLink own idx y ∈ zt) (q0 : Nat) {ci N : Nat} {T : u_T} {fs : List Value} (he : (w.2.2.2 M)[q0]? = some (b, .inr (ci, fs))) (hc : w.2.1[ci]? = some (y.cls, T, N)) (hR : Nat.ble (rmy.frames + 1) rm.frames = true ∧ Nat.ble (8 + (ml + 11) + rmy.locals) rm.locals = true) (hM : CtL w y cy ml rt rmy (.ref b :: As) M post) (hn : As.length = n) (hst : st = As.reverse ++ .ref b :: rest) (hrm : Nat.ble (rest.map fun v => v.category).sum 8 = true) (hd : decode cc pc = .ok (.invokevirtual idx, 3))
    (kk : ∀ (r : Int64) (M2 : Mem), post r M2 → Zj X nL w M2 (pc + 3) lv (.long r :: rest)) : Zj X nL w M pc lv st := by
  subst hst
  obtain ⟨p, l, e, R, s, m, args, below, meth, c, A, Q⟩ := X
  obtain ⟨hx, hb, hml, ho, htb, hK, hDa, hA, hlk, rfl⟩ := C
  intro H locs ls hl' hP hS
  have hF := zz_freeA (hDa M) hS hA
  refine va_calll (va_runV (C := y.cls) (As := As) (rest := rest) ⟨hx, hb, hml, ho, htb⟩ (hM l H.size) (cwV n htb (zm_goodV hm hl) rfl hm.2.2.2.2.2.1 hm.2.2.2.2.2.2 ⟨rfl, hm.2.2.2.2.1⟩ ⟨Nat.le_of_ble_eq_true hR.1, Nat.le_of_ble_eq_true hR.2⟩) ⟨zz_blind, va_recv hK hP hc he, fun U hU hW => ⟨rfl, by rw [hU], by rw [hU]; exact hP, va_K.moved hW.alike hK, (hDa M).weaken (fun _ _ _ _ => trivial)⟩⟩ rfl hn hl'.1 rfl (lv_room (Nat.le_of_ble_eq_true hrm)) hd ⟨Nat.zero_le _, Nat.zero_le _⟩) hS (fun q _ h => hF q h) hF (fun r u t H1 locs ht hvm hw hB hz1 hk1 hS => ?_)
  exact kk r u hw H1 locs ls hl' (ht ▸ hB.1) hS
theorem z_callSv (C : Zc X cc own nL rm w) {y : MethodName} {cy : ByteArray} {ml n idx : Nat} {rt : Option FieldType} {rmy : Room} {As rest : List Value} {post : Mem → Prop} (hm : Zm false y cy ml rt n rmy) (hl : Cond.methodLink own idx y ∈ zt) (hR : Nat.ble (rmy.frames + 1) rm.frames = true ∧ Nat.ble (8 + (ml + 11) + rmy.locals) rm.locals = true) (hM : CtV w y cy ml rt rmy As M post) (hn : As.length = n) (hst : st = As.reverse ++ rest) (hrm : Nat.ble (rest.map fun v => v.category).sum 8 = true) (hd : decode cc pc = .ok (.invokestatic idx, 3))
    (kk : ∀ (M2 : Mem), post M2 → Zj X nL w M2 (pc + 3) lv rest) : Zj X nL w M pc lv st := by
  subst hst
  obtain ⟨p, l, e, R, s, m, args, below, meth, c, A, Q⟩ := X
  obtain ⟨hx, hb, hml, ho, htb, hK, hDa, hA, hlk, rfl⟩ := C
  intro H locs ls hl' hP hS
  have hF := zz_freeA (hDa M) hS hA
  refine va_callv (va_runS (As := As) (rest := rest) ⟨hx, hb, hml, ho, htb⟩ (hM l H.size) (va_cwS n htb (zm_goodS hm hl) rfl hm.2.2.2.2.2.1 hm.2.2.2.2.2.2 hm.2.2.2.2.1 ⟨Nat.le_of_ble_eq_true hR.1, Nat.le_of_ble_eq_true hR.2⟩) ⟨zz_blind, fun U hU hW => ⟨rfl, by rw [hU], by rw [hU]; exact hP, va_K.moved hW.alike hK, (hDa M).weaken (fun _ _ _ _ => trivial)⟩⟩ rfl hn hl'.1 rfl (lv_room (Nat.le_of_ble_eq_true hrm)) hd ⟨Nat.zero_le _, Nat.zero_le _⟩) hS (fun q _ h => hF q h) hF (fun u t H1 locs ht hvm hw hB hz1 hk1 hS => ?_)
  exact kk u hw H1 locs ls hl' (ht ▸ hB.1) hS
theorem z_callVv (C : Zc X cc own nL rm w) {y : MethodName} {cy : ByteArray} {ml n idx b : Nat} {rt : Option FieldType} {rmy : Room} {As rest : List Value} {post : Mem → Prop} (hm : Zm true y cy ml rt n rmy) (hl : Cond.methodLink own idx y ∈ zt) (q0 : Nat) {ci N : Nat} {T : u_T} {fs : List Value} (he : (w.2.2.2 M)[q0]? = some (b, .inr (ci, fs))) (hc : w.2.1[ci]? = some (y.cls, T, N)) (hR : Nat.ble (rmy.frames + 1) rm.frames = true ∧ Nat.ble (8 + (ml + 11) + rmy.locals) rm.locals = true) (hM : CtV w y cy ml rt rmy (.ref b :: As) M post) (hn : As.length = n) (hst : st = As.reverse ++ .ref b :: rest) (hrm : Nat.ble (rest.map fun v => v.category).sum 8 = true) (hd : decode cc pc = .ok (.invokevirtual idx, 3))
    (kk : ∀ (M2 : Mem), post M2 → Zj X nL w M2 (pc + 3) lv rest) : Zj X nL w M pc lv st := by
  subst hst
  obtain ⟨p, l, e, R, s, m, args, below, meth, c, A, Q⟩ := X
  obtain ⟨hx, hb, hml, ho, htb, hK, hDa, hA, hlk, rfl⟩ := C
  intro H locs ls hl' hP hS
  have hF := zz_freeA (hDa M) hS hA
  refine va_callv (va_runV (C := y.cls) (As := As) (rest := rest) ⟨hx, hb, hml, ho, htb⟩ (hM l H.size) (cwV n htb (zm_goodV hm hl) rfl hm.2.2.2.2.2.1 hm.2.2.2.2.2.2 ⟨rfl, hm.2.2.2.2.1⟩ ⟨Nat.le_of_ble_eq_true hR.1, Nat.le_of_ble_eq_true hR.2⟩) ⟨zz_blind, va_recv hK hP hc he, fun U hU hW => ⟨rfl, by rw [hU], by rw [hU]; exact hP, va_K.moved hW.alike hK, (hDa M).weaken (fun _ _ _ _ => trivial)⟩⟩ rfl hn hl'.1 rfl (lv_room (Nat.le_of_ble_eq_true hrm)) hd ⟨Nat.zero_le _, Nat.zero_le _⟩) hS (fun q _ h => hF q h) hF (fun u t H1 locs ht hvm hw hB hz1 hk1 hS => ?_)
  exact kk u hw H1 locs ls hl' (ht ▸ hB.1) hS
theorem z_callSr (C : Zc X cc own nL rm w) {y : MethodName} {cy : ByteArray} {ml n idx : Nat} {rt : Option FieldType} {rmy : Room} {As rest : List Value} {post : Mem → Prop} {ra : Nat} (hm : Zm false y cy ml rt n rmy) (hl : Cond.methodLink own idx y ∈ zt) (hR : Nat.ble (rmy.frames + 1) rm.frames = true ∧ Nat.ble (8 + (ml + 11) + rmy.locals) rm.locals = true) (hM : CtR w y cy ml rt rmy As M post ra) (hn : As.length = n) (hst : st = As.reverse ++ rest) (hrm : Nat.ble (rest.map fun v => v.category).sum 8 = true) (hd : decode cc pc = .ok (.invokestatic idx, 3))
    (kk : ∀ (M2 : Mem), post M2 → Zj X nL w M2 (pc + 3) lv (.ref ra :: rest)) : Zj X nL w M pc lv st := by
  subst hst
  obtain ⟨p, l, e, R, s, m, args, below, meth, c, A, Q⟩ := X
  obtain ⟨hx, hb, hml, ho, htb, hK, hDa, hA, hlk, rfl⟩ := C
  intro H locs ls hl' hP hS
  have hF := zz_freeA (hDa M) hS hA
  refine va_callr (va_runS (As := As) (rest := rest) ⟨hx, hb, hml, ho, htb⟩ (hM l H.size) (va_cwS n htb (zm_goodS hm hl) rfl hm.2.2.2.2.2.1 hm.2.2.2.2.2.2 hm.2.2.2.2.1 ⟨Nat.le_of_ble_eq_true hR.1, Nat.le_of_ble_eq_true hR.2⟩) ⟨zz_blind, fun U hU hW => ⟨rfl, by rw [hU], by rw [hU]; exact hP, va_K.moved hW.alike hK, (hDa M).weaken (fun _ _ _ _ => trivial)⟩⟩ rfl hn hl'.1 rfl (lv_room (Nat.le_of_ble_eq_true hrm)) hd ⟨Nat.zero_le _, Nat.zero_le _⟩) hS (fun q _ h => hF q h) hF (fun u ra2 t H1 locs ht hvm hw hB hz1 hk1 hS => ?_)
  obtain ⟨rfl, hB⟩ := hB
  exact kk u hw H1 locs ls hl' (ht ▸ hB.1) hS
theorem z_callVr (C : Zc X cc own nL rm w) {y : MethodName} {cy : ByteArray} {ml n idx b : Nat} {rt : Option FieldType} {rmy : Room} {As rest : List Value} {post : Mem → Prop} {ra : Nat} (hm : Zm true y cy ml rt n rmy) (hl : Cond.methodLink own idx y ∈ zt) (q0 : Nat) {ci N : Nat} {T : u_T} {fs : List Value} (he : (w.2.2.2 M)[q0]? = some (b, .inr (ci, fs))) (hc : w.2.1[ci]? = some (y.cls, T, N)) (hR : Nat.ble (rmy.frames + 1) rm.frames = true ∧ Nat.ble (8 + (ml + 11) + rmy.locals) rm.locals = true) (hM : CtR w y cy ml rt rmy (.ref b :: As) M post ra) (hn : As.length = n) (hst : st = As.reverse ++ .ref b :: rest) (hrm : Nat.ble (rest.map fun v => v.category).sum 8 = true) (hd : decode cc pc = .ok (.invokevirtual idx, 3))
    (kk : ∀ (M2 : Mem), post M2 → Zj X nL w M2 (pc + 3) lv (.ref ra :: rest)) : Zj X nL w M pc lv st := by
  subst hst
  obtain ⟨p, l, e, R, s, m, args, below, meth, c, A, Q⟩ := X
  obtain ⟨hx, hb, hml, ho, htb, hK, hDa, hA, hlk, rfl⟩ := C
  intro H locs ls hl' hP hS
  have hF := zz_freeA (hDa M) hS hA
  refine va_callr (va_runV (C := y.cls) (As := As) (rest := rest) ⟨hx, hb, hml, ho, htb⟩ (hM l H.size) (cwV n htb (zm_goodV hm hl) rfl hm.2.2.2.2.2.1 hm.2.2.2.2.2.2 ⟨rfl, hm.2.2.2.2.1⟩ ⟨Nat.le_of_ble_eq_true hR.1, Nat.le_of_ble_eq_true hR.2⟩) ⟨zz_blind, va_recv hK hP hc he, fun U hU hW => ⟨rfl, by rw [hU], by rw [hU]; exact hP, va_K.moved hW.alike hK, (hDa M).weaken (fun _ _ _ _ => trivial)⟩⟩ rfl hn hl'.1 rfl (lv_room (Nat.le_of_ble_eq_true hrm)) hd ⟨Nat.zero_le _, Nat.zero_le _⟩) hS (fun q _ h => hF q h) hF (fun u ra2 t H1 locs ht hvm hw hB hz1 hk1 hS => ?_)
  obtain ⟨rfl, hB⟩ := hB
  exact kk u hw H1 locs ls hl' (ht ▸ hB.1) hS
theorem z_rret (C : Zc X cc own nL rm w) {post : Mem → Prop} {a : Nat} {Cn : String} (hr : Zrr X w (some (.object Cn)) post a) (hp : post M) (hd : decode cc pc = .ok (.areturn, 1)) : Zj X nL w M pc lv [.ref a] := by
  obtain ⟨p, l, e, R, s, m, args, below, meth, c, A, Q⟩ := X
  obtain ⟨hx, hb, hml, ho, htb, hK, hDa, hA, hlk, hR⟩ := C
  obtain ⟨hr, rfl⟩ := hr
  exact fun H locs ls hl hP hS => W.aret (v := .ref a) hx hb hr (Or.inl ⟨Cn, rfl⟩) (Or.inr ⟨a, rfl⟩) (fun t ht hW => ⟨⟨M, a, rfl, hp, rfl, by rw [ht]; exact hP, va_K.moved hW.alike hK, hDa M⟩, hS.F ht⟩) hS.2.2 hd hlk
end ZS
theorem z_metI {w : ZW} (hw : Zok w) {y : MethodName} {cy : ByteArray} {ml : Nat} {rt : Option FieldType} {rmy : Room} {av : List Value} {M : Mem} {post : Int32 → Mem → Prop} (hy : plainName y.cls = true) (hlen : Nat.ble (lg_sl av).length ml = true)
    (body : ∀ X : ZX, Zc X cy y.cls ml rmy w → Zri X w rt post → Zj X ml w M 0 (lv_args 0 av) []) : CtI w y cy ml rt rmy av M post := by
  intro l sz
  refine Met.ofW (cc := cy) (maxL := ml) (ret := rt) hy rfl ?_
  intro p e s m args below meth c s₁ B hml hv
  obtain ⟨rfl, hsz, hP, hK, hD0⟩ := hv
  have hts := atoms_spec (ws := zws y cy ml rt) B.pre
  subst hsz
  have hD := hD0.self (sz := s.heap.size)
  have hl := lv_entry av (n := ml) (Nat.le_of_ble_eq_true hlen)
  rw [lg_entry_eq]
  refine body (p, l, e, rmy, s, m, av.toArray, below, meth, c, va_A (w.2.2.2 M) s.heap.size, _) ⟨B.exec, B.bytes, hml, findClass_of_methodNamed B.named, fun q hq => hts q (List.mem_cons_of_mem _ hq), hK, zok_D hw hD, fun q h => Or.inr h, B.notSynchronized, rfl⟩ ⟨B.returns, rfl⟩ s.heap [] _ hl hP va_S.rf
theorem z_metL {w : ZW} (hw : Zok w) {y : MethodName} {cy : ByteArray} {ml : Nat} {rmy : Room} {av : List Value} {M : Mem} {post : Int64 → Mem → Prop} (hy : plainName y.cls = true) (hlen : Nat.ble (lg_sl av).length ml = true)
    (body : ∀ X : ZX, Zc X cy y.cls ml rmy w → Zrl X w post → Zj X ml w M 0 (lv_args 0 av) []) : CtL w y cy ml (some .long) rmy av M post := by
  intro l sz
  refine Met.ofW (cc := cy) (maxL := ml) (ret := some .long) hy rfl ?_
  intro p e s m args below meth c s₁ B hml hv
  obtain ⟨rfl, hsz, hP, hK, hD0⟩ := hv
  have hts := atoms_spec (ws := zws y cy ml (some .long)) B.pre
  subst hsz
  have hD := hD0.self (sz := s.heap.size)
  have hl := lv_entry av (n := ml) (Nat.le_of_ble_eq_true hlen)
  rw [lg_entry_eq]
  refine body (p, l, e, rmy, s, m, av.toArray, below, meth, c, va_A (w.2.2.2 M) s.heap.size, _) ⟨B.exec, B.bytes, hml, findClass_of_methodNamed B.named, fun q hq => hts q (List.mem_cons_of_mem _ hq), hK, zok_D hw hD, fun q h => Or.inr h, B.notSynchronized, rfl⟩ ⟨B.returns, rfl⟩ s.heap [] _ hl hP va_S.rf
theorem z_metV {w : ZW} (hw : Zok w) {y : MethodName} {cy : ByteArray} {ml : Nat} {rmy : Room} {av : List Value} {M : Mem} {post : Mem → Prop} (hy : plainName y.cls = true) (hlen : Nat.ble (lg_sl av).length ml = true)
    (body : ∀ X : ZX, Zc X cy y.cls ml rmy w → Zrv X w post → Zj X ml w M 0 (lv_args 0 av) []) : CtV w y cy ml none rmy av M post := by
  intro l sz
  refine Met.ofW (cc := cy) (maxL := ml) (ret := none) hy rfl ?_
  intro p e s m args below meth c s₁ B hml hv
  obtain ⟨rfl, hsz, hP, hK, hD0⟩ := hv
  have hts := atoms_spec (ws := zws y cy ml none) B.pre
  subst hsz
  have hD := hD0.self (sz := s.heap.size)
  have hl := lv_entry av (n := ml) (Nat.le_of_ble_eq_true hlen)
  rw [lg_entry_eq]
  refine body (p, l, e, rmy, s, m, av.toArray, below, meth, c, va_A (w.2.2.2 M) s.heap.size, _) ⟨B.exec, B.bytes, hml, findClass_of_methodNamed B.named, fun q hq => hts q (List.mem_cons_of_mem _ hq), hK, zok_D hw hD, fun q h => Or.inr h, B.notSynchronized, rfl⟩ ⟨B.returns, rfl⟩ s.heap [] _ hl hP va_S.rf
theorem z_metR {w : ZW} (hw : Zok w) {y : MethodName} {cy : ByteArray} {ml : Nat} {rt : Option FieldType} {rmy : Room} {av : List Value} {M : Mem} {post : Mem → Prop} {ra : Nat} (hy : plainName y.cls = true) (hlen : Nat.ble (lg_sl av).length ml = true)
    (body : ∀ X : ZX, Zc X cy y.cls ml rmy w → Zrr X w rt post ra → Zj X ml w M 0 (lv_args 0 av) []) : CtR w y cy ml rt rmy av M post ra := by
  intro l sz
  refine Met.ofW (cc := cy) (maxL := ml) (ret := rt) hy rfl ?_
  intro p e s m args below meth c s₁ B hml hv
  obtain ⟨rfl, hsz, hP, hK, hD0⟩ := hv
  have hts := atoms_spec (ws := zws y cy ml rt) B.pre
  subst hsz
  have hD := hD0.self (sz := s.heap.size)
  have hl := lv_entry av (n := ml) (Nat.le_of_ble_eq_true hlen)
  rw [lg_entry_eq]
  refine body (p, l, e, rmy, s, m, av.toArray, below, meth, c, va_A (w.2.2.2 M) s.heap.size, _) ⟨B.exec, B.bytes, hml, findClass_of_methodNamed B.named, fun q hq => hts q (List.mem_cons_of_mem _ hq), hK, zok_D hw hD, fun q h => Or.inr h, B.notSynchronized, rfl⟩ ⟨B.returns, rfl⟩ s.heap [] _ hl hP va_S.rf
end
section
theorem i_vc : Claimed_1_1 ∧ Claimed_1_2 := sorry
end
