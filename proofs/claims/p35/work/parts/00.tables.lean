-- ===== PART A: goes FIRST, ahead of the names: the tables' words, and 'selects' of the private methods out of them =====
/-- a private method of a class that the tables say can be made, by its rows of tables_1 -/
def lw_okq (q : MethodName × Nat) : Prop := (q.1.cls ≠ "java/lang/invoke/MethodHandle" ∧ q.1.cls ≠ "java/lang/invoke/VarHandle") ∧ Cond.instantiable q.1.cls q.2 ∈ tables_1 ∧ Cond.privateMethod q.1 ∈ tables_1 ∧ Cond.instanceMethod q.1 ∈ tables_1
theorem lw_p0 : lw_okq (⟨"HeardNext", "addBytes", "(I)V"⟩, 17) := ⟨⟨by decide +kernel, by decide +kernel⟩, List.mem_of_getElem? (i := 22) (by decide +kernel), List.mem_of_getElem? (i := 376) (by decide +kernel), List.mem_of_getElem? (i := 377) (by decide +kernel)⟩
theorem lw_p1 : lw_okq (⟨"HeardNext$Tokens", "cutOne", "([BII)I"⟩, 4) := ⟨⟨by decide +kernel, by decide +kernel⟩, List.mem_of_getElem? (i := 110) (by decide +kernel), List.mem_of_getElem? (i := 400) (by decide +kernel), List.mem_of_getElem? (i := 401) (by decide +kernel)⟩
theorem lw_p2 : lw_okq (⟨"HeardNext$Tokens", "cutWord", "([BII)I"⟩, 4) := ⟨⟨by decide +kernel, by decide +kernel⟩, List.mem_of_getElem? (i := 110) (by decide +kernel), List.mem_of_getElem? (i := 404) (by decide +kernel), List.mem_of_getElem? (i := 405) (by decide +kernel)⟩
theorem lw_p3 : lw_okq (⟨"HeardNext$Tokens", "cutInt", "([BII)I"⟩, 4) := ⟨⟨by decide +kernel, by decide +kernel⟩, List.mem_of_getElem? (i := 110) (by decide +kernel), List.mem_of_getElem? (i := 460) (by decide +kernel), List.mem_of_getElem? (i := 461) (by decide +kernel)⟩
theorem lw_p4 : lw_okq (⟨"HeardNext$Reader", "kind", "()I"⟩, 9) := ⟨⟨by decide +kernel, by decide +kernel⟩, List.mem_of_getElem? (i := 104) (by decide +kernel), List.mem_of_getElem? (i := 526) (by decide +kernel), List.mem_of_getElem? (i := 527) (by decide +kernel)⟩
theorem lw_p5 : lw_okq (⟨"HeardNext$Reader", "readHouse", "()Z"⟩, 9) := ⟨⟨by decide +kernel, by decide +kernel⟩, List.mem_of_getElem? (i := 104) (by decide +kernel), List.mem_of_getElem? (i := 530) (by decide +kernel), List.mem_of_getElem? (i := 531) (by decide +kernel)⟩
theorem lw_p6 : lw_okq (⟨"HeardNext$Reader", "stop", "(I)Z"⟩, 9) := ⟨⟨by decide +kernel, by decide +kernel⟩, List.mem_of_getElem? (i := 104) (by decide +kernel), List.mem_of_getElem? (i := 534) (by decide +kernel), List.mem_of_getElem? (i := 535) (by decide +kernel)⟩
theorem lw_p7 : lw_okq (⟨"HeardNext$Reader", "step", "()Z"⟩, 9) := ⟨⟨by decide +kernel, by decide +kernel⟩, List.mem_of_getElem? (i := 104) (by decide +kernel), List.mem_of_getElem? (i := 538) (by decide +kernel), List.mem_of_getElem? (i := 539) (by decide +kernel)⟩
theorem lw_p8 : lw_okq (⟨"HeardNext$Reader", "takeName", "()Z"⟩, 9) := ⟨⟨by decide +kernel, by decide +kernel⟩, List.mem_of_getElem? (i := 104) (by decide +kernel), List.mem_of_getElem? (i := 542) (by decide +kernel), List.mem_of_getElem? (i := 543) (by decide +kernel)⟩
theorem lw_p9 : lw_okq (⟨"HeardNext$Reader", "noteLate", "(I)V"⟩, 9) := ⟨⟨by decide +kernel, by decide +kernel⟩, List.mem_of_getElem? (i := 104) (by decide +kernel), List.mem_of_getElem? (i := 546) (by decide +kernel), List.mem_of_getElem? (i := 547) (by decide +kernel)⟩
theorem lw_p10 : lw_okq (⟨"HeardNext$Reader", "takeNumber", "(II)Z"⟩, 9) := ⟨⟨by decide +kernel, by decide +kernel⟩, List.mem_of_getElem? (i := 104) (by decide +kernel), List.mem_of_getElem? (i := 550) (by decide +kernel), List.mem_of_getElem? (i := 551) (by decide +kernel)⟩
theorem lw_p11 : lw_okq (⟨"HeardNext$Reader", "take", "(I)Z"⟩, 9) := ⟨⟨by decide +kernel, by decide +kernel⟩, List.mem_of_getElem? (i := 104) (by decide +kernel), List.mem_of_getElem? (i := 557) (by decide +kernel), List.mem_of_getElem? (i := 558) (by decide +kernel)⟩
theorem lw_p12 : lw_okq (⟨"HeardNext$Reader", "readSend", "()Z"⟩, 9) := ⟨⟨by decide +kernel, by decide +kernel⟩, List.mem_of_getElem? (i := 104) (by decide +kernel), List.mem_of_getElem? (i := 565) (by decide +kernel), List.mem_of_getElem? (i := 566) (by decide +kernel)⟩
theorem lw_p13 : lw_okq (⟨"HeardNext$Reader", "readLaw", "(I)Z"⟩, 9) := ⟨⟨by decide +kernel, by decide +kernel⟩, List.mem_of_getElem? (i := 104) (by decide +kernel), List.mem_of_getElem? (i := 574) (by decide +kernel), List.mem_of_getElem? (i := 575) (by decide +kernel)⟩
theorem lw_p14 : lw_okq (⟨"HeardNext$Reader", "readSum", "(I)Z"⟩, 9) := ⟨⟨by decide +kernel, by decide +kernel⟩, List.mem_of_getElem? (i := 104) (by decide +kernel), List.mem_of_getElem? (i := 582) (by decide +kernel), List.mem_of_getElem? (i := 583) (by decide +kernel)⟩
theorem lw_p15 : lw_okq (⟨"HeardNext$Reader", "readProduct", "(I)Z"⟩, 9) := ⟨⟨by decide +kernel, by decide +kernel⟩, List.mem_of_getElem? (i := 104) (by decide +kernel), List.mem_of_getElem? (i := 586) (by decide +kernel), List.mem_of_getElem? (i := 587) (by decide +kernel)⟩
def lw_privs_1 : List (MethodName × Nat) := [(⟨"HeardNext", "addBytes", "(I)V"⟩, 17), (⟨"HeardNext$Tokens", "cutOne", "([BII)I"⟩, 4), (⟨"HeardNext$Tokens", "cutWord", "([BII)I"⟩, 4), (⟨"HeardNext$Tokens", "cutInt", "([BII)I"⟩, 4), (⟨"HeardNext$Reader", "kind", "()I"⟩, 9), (⟨"HeardNext$Reader", "readHouse", "()Z"⟩, 9), (⟨"HeardNext$Reader", "stop", "(I)Z"⟩, 9), (⟨"HeardNext$Reader", "step", "()Z"⟩, 9), (⟨"HeardNext$Reader", "takeName", "()Z"⟩, 9), (⟨"HeardNext$Reader", "noteLate", "(I)V"⟩, 9), (⟨"HeardNext$Reader", "takeNumber", "(II)Z"⟩, 9), (⟨"HeardNext$Reader", "take", "(I)Z"⟩, 9), (⟨"HeardNext$Reader", "readSend", "()Z"⟩, 9), (⟨"HeardNext$Reader", "readLaw", "(I)Z"⟩, 9), (⟨"HeardNext$Reader", "readSum", "(I)Z"⟩, 9), (⟨"HeardNext$Reader", "readProduct", "(I)Z"⟩, 9)]
theorem lw_r1 : ∀ q ∈ lw_privs_1, lw_okq q := List.forall_mem_cons.mpr ⟨lw_p0, List.forall_mem_cons.mpr ⟨lw_p1, List.forall_mem_cons.mpr ⟨lw_p2, List.forall_mem_cons.mpr ⟨lw_p3, List.forall_mem_cons.mpr ⟨lw_p4, List.forall_mem_cons.mpr ⟨lw_p5, List.forall_mem_cons.mpr ⟨lw_p6, List.forall_mem_cons.mpr ⟨lw_p7, List.forall_mem_cons.mpr ⟨lw_p8, List.forall_mem_cons.mpr ⟨lw_p9, List.forall_mem_cons.mpr ⟨lw_p10, List.forall_mem_cons.mpr ⟨lw_p11, List.forall_mem_cons.mpr ⟨lw_p12, List.forall_mem_cons.mpr ⟨lw_p13, List.forall_mem_cons.mpr ⟨lw_p14, List.forall_mem_cons.mpr ⟨lw_p15, fun _ h => absurd h List.not_mem_nil⟩⟩⟩⟩⟩⟩⟩⟩⟩⟩⟩⟩⟩⟩⟩⟩
theorem lw_p16 : lw_okq (⟨"HeardNext$Reader", "readUnit", "(I)Z"⟩, 9) := ⟨⟨by decide +kernel, by decide +kernel⟩, List.mem_of_getElem? (i := 104) (by decide +kernel), List.mem_of_getElem? (i := 590) (by decide +kernel), List.mem_of_getElem? (i := 591) (by decide +kernel)⟩
theorem lw_p17 : lw_okq (⟨"HeardNext$Reader", "readGrief", "()Z"⟩, 9) := ⟨⟨by decide +kernel, by decide +kernel⟩, List.mem_of_getElem? (i := 104) (by decide +kernel), List.mem_of_getElem? (i := 600) (by decide +kernel), List.mem_of_getElem? (i := 601) (by decide +kernel)⟩
theorem lw_p18 : lw_okq (⟨"HeardNext$Reader", "readSeed", "()Z"⟩, 9) := ⟨⟨by decide +kernel, by decide +kernel⟩, List.mem_of_getElem? (i := 104) (by decide +kernel), List.mem_of_getElem? (i := 604) (by decide +kernel), List.mem_of_getElem? (i := 605) (by decide +kernel)⟩
theorem lw_p19 : lw_okq (⟨"HeardNext", "beginAnew", "()V"⟩, 17) := ⟨⟨by decide +kernel, by decide +kernel⟩, List.mem_of_getElem? (i := 22) (by decide +kernel), List.mem_of_getElem? (i := 608) (by decide +kernel), List.mem_of_getElem? (i := 609) (by decide +kernel)⟩
theorem lw_p20 : lw_okq (⟨"HeardNext", "isHouse", "(I)Z"⟩, 17) := ⟨⟨by decide +kernel, by decide +kernel⟩, List.mem_of_getElem? (i := 22) (by decide +kernel), List.mem_of_getElem? (i := 620) (by decide +kernel), List.mem_of_getElem? (i := 621) (by decide +kernel)⟩
theorem lw_p21 : lw_okq (⟨"HeardNext", "lawNow", "(II)I"⟩, 17) := ⟨⟨by decide +kernel, by decide +kernel⟩, List.mem_of_getElem? (i := 22) (by decide +kernel), List.mem_of_getElem? (i := 628) (by decide +kernel), List.mem_of_getElem? (i := 629) (by decide +kernel)⟩
theorem lw_p22 : lw_okq (⟨"HeardNext$Air", "keeping", "(II)I"⟩, 6) := ⟨⟨by decide +kernel, by decide +kernel⟩, List.mem_of_getElem? (i := 237) (by decide +kernel), List.mem_of_getElem? (i := 673) (by decide +kernel), List.mem_of_getElem? (i := 674) (by decide +kernel)⟩
theorem lw_p23 : lw_okq (⟨"HeardNext", "beforeDoing", "()V"⟩, 17) := ⟨⟨by decide +kernel, by decide +kernel⟩, List.mem_of_getElem? (i := 22) (by decide +kernel), List.mem_of_getElem? (i := 687) (by decide +kernel), List.mem_of_getElem? (i := 688) (by decide +kernel)⟩
theorem lw_p24 : lw_okq (⟨"HeardNext", "comingTo", "(I)[I"⟩, 17) := ⟨⟨by decide +kernel, by decide +kernel⟩, List.mem_of_getElem? (i := 22) (by decide +kernel), List.mem_of_getElem? (i := 769) (by decide +kernel), List.mem_of_getElem? (i := 770) (by decide +kernel)⟩
theorem lw_p25 : lw_okq (⟨"HeardNext$Ways", "fill", "(ILHeardNext$Terrace;LHeardNext$Life;LHeardNext$Air;)V"⟩, 2) := ⟨⟨by decide +kernel, by decide +kernel⟩, List.mem_of_getElem? (i := 262) (by decide +kernel), List.mem_of_getElem? (i := 777) (by decide +kernel), List.mem_of_getElem? (i := 778) (by decide +kernel)⟩
theorem lw_p26 : lw_okq (⟨"HeardNext", "takeCode", "([II)I"⟩, 17) := ⟨⟨by decide +kernel, by decide +kernel⟩, List.mem_of_getElem? (i := 22) (by decide +kernel), List.mem_of_getElem? (i := 806) (by decide +kernel), List.mem_of_getElem? (i := 807) (by decide +kernel)⟩
theorem lw_p27 : lw_okq (⟨"HeardNext", "chooseTimes", "(I)I"⟩, 17) := ⟨⟨by decide +kernel, by decide +kernel⟩, List.mem_of_getElem? (i := 22) (by decide +kernel), List.mem_of_getElem? (i := 834) (by decide +kernel), List.mem_of_getElem? (i := 835) (by decide +kernel)⟩
theorem lw_p28 : lw_okq (⟨"HeardNext", "allComing", "(II)I"⟩, 17) := ⟨⟨by decide +kernel, by decide +kernel⟩, List.mem_of_getElem? (i := 22) (by decide +kernel), List.mem_of_getElem? (i := 842) (by decide +kernel), List.mem_of_getElem? (i := 843) (by decide +kernel)⟩
theorem lw_p29 : lw_okq (⟨"HeardNext", "chooseSoMany", "(II)Z"⟩, 17) := ⟨⟨by decide +kernel, by decide +kernel⟩, List.mem_of_getElem? (i := 22) (by decide +kernel), List.mem_of_getElem? (i := 847) (by decide +kernel), List.mem_of_getElem? (i := 848) (by decide +kernel)⟩
theorem lw_p30 : lw_okq (⟨"HeardNext", "addUpHeard", "(I)V"⟩, 17) := ⟨⟨by decide +kernel, by decide +kernel⟩, List.mem_of_getElem? (i := 22) (by decide +kernel), List.mem_of_getElem? (i := 863) (by decide +kernel), List.mem_of_getElem? (i := 864) (by decide +kernel)⟩
theorem lw_p31 : lw_okq (⟨"HeardNext", "dreamOn", "(IZI)V"⟩, 17) := ⟨⟨by decide +kernel, by decide +kernel⟩, List.mem_of_getElem? (i := 22) (by decide +kernel), List.mem_of_getElem? (i := 872) (by decide +kernel), List.mem_of_getElem? (i := 873) (by decide +kernel)⟩
def lw_privs_2 : List (MethodName × Nat) := [(⟨"HeardNext$Reader", "readUnit", "(I)Z"⟩, 9), (⟨"HeardNext$Reader", "readGrief", "()Z"⟩, 9), (⟨"HeardNext$Reader", "readSeed", "()Z"⟩, 9), (⟨"HeardNext", "beginAnew", "()V"⟩, 17), (⟨"HeardNext", "isHouse", "(I)Z"⟩, 17), (⟨"HeardNext", "lawNow", "(II)I"⟩, 17), (⟨"HeardNext$Air", "keeping", "(II)I"⟩, 6), (⟨"HeardNext", "beforeDoing", "()V"⟩, 17), (⟨"HeardNext", "comingTo", "(I)[I"⟩, 17), (⟨"HeardNext$Ways", "fill", "(ILHeardNext$Terrace;LHeardNext$Life;LHeardNext$Air;)V"⟩, 2), (⟨"HeardNext", "takeCode", "([II)I"⟩, 17), (⟨"HeardNext", "chooseTimes", "(I)I"⟩, 17), (⟨"HeardNext", "allComing", "(II)I"⟩, 17), (⟨"HeardNext", "chooseSoMany", "(II)Z"⟩, 17), (⟨"HeardNext", "addUpHeard", "(I)V"⟩, 17), (⟨"HeardNext", "dreamOn", "(IZI)V"⟩, 17)]
theorem lw_r2 : ∀ q ∈ lw_privs_2, lw_okq q := List.forall_mem_cons.mpr ⟨lw_p16, List.forall_mem_cons.mpr ⟨lw_p17, List.forall_mem_cons.mpr ⟨lw_p18, List.forall_mem_cons.mpr ⟨lw_p19, List.forall_mem_cons.mpr ⟨lw_p20, List.forall_mem_cons.mpr ⟨lw_p21, List.forall_mem_cons.mpr ⟨lw_p22, List.forall_mem_cons.mpr ⟨lw_p23, List.forall_mem_cons.mpr ⟨lw_p24, List.forall_mem_cons.mpr ⟨lw_p25, List.forall_mem_cons.mpr ⟨lw_p26, List.forall_mem_cons.mpr ⟨lw_p27, List.forall_mem_cons.mpr ⟨lw_p28, List.forall_mem_cons.mpr ⟨lw_p29, List.forall_mem_cons.mpr ⟨lw_p30, List.forall_mem_cons.mpr ⟨lw_p31, fun _ h => absurd h List.not_mem_nil⟩⟩⟩⟩⟩⟩⟩⟩⟩⟩⟩⟩⟩⟩⟩⟩
theorem lw_p32 : lw_okq (⟨"HeardNext", "contentBehindChange", "(II)I"⟩, 17) := ⟨⟨by decide +kernel, by decide +kernel⟩, List.mem_of_getElem? (i := 22) (by decide +kernel), List.mem_of_getElem? (i := 921) (by decide +kernel), List.mem_of_getElem? (i := 922) (by decide +kernel)⟩
theorem lw_p33 : lw_okq (⟨"HeardNext", "takeLeft", "(I)I"⟩, 17) := ⟨⟨by decide +kernel, by decide +kernel⟩, List.mem_of_getElem? (i := 22) (by decide +kernel), List.mem_of_getElem? (i := 949) (by decide +kernel), List.mem_of_getElem? (i := 950) (by decide +kernel)⟩
theorem lw_p34 : lw_okq (⟨"HeardNext", "mostAlike", "([II)I"⟩, 17) := ⟨⟨by decide +kernel, by decide +kernel⟩, List.mem_of_getElem? (i := 22) (by decide +kernel), List.mem_of_getElem? (i := 957) (by decide +kernel), List.mem_of_getElem? (i := 958) (by decide +kernel)⟩
theorem lw_p35 : lw_okq (⟨"HeardNext", "partsOf", "([I)I"⟩, 17) := ⟨⟨by decide +kernel, by decide +kernel⟩, List.mem_of_getElem? (i := 22) (by decide +kernel), List.mem_of_getElem? (i := 975) (by decide +kernel), List.mem_of_getElem? (i := 976) (by decide +kernel)⟩
theorem lw_p36 : lw_okq (⟨"HeardNextModel", "plain", "(I)V"⟩, 64) := ⟨⟨by decide +kernel, by decide +kernel⟩, List.mem_of_getElem? (i := 983) (by decide +kernel), List.mem_of_getElem? (i := 989) (by decide +kernel), List.mem_of_getElem? (i := 990) (by decide +kernel)⟩
theorem lw_p37 : lw_okq (⟨"HeardNextModel", "begins", "()V"⟩, 64) := ⟨⟨by decide +kernel, by decide +kernel⟩, List.mem_of_getElem? (i := 983) (by decide +kernel), List.mem_of_getElem? (i := 1000) (by decide +kernel), List.mem_of_getElem? (i := 1001) (by decide +kernel)⟩
theorem lw_p38 : lw_okq (⟨"HeardNextModel", "keepsRow", "()V"⟩, 64) := ⟨⟨by decide +kernel, by decide +kernel⟩, List.mem_of_getElem? (i := 983) (by decide +kernel), List.mem_of_getElem? (i := 1004) (by decide +kernel), List.mem_of_getElem? (i := 1005) (by decide +kernel)⟩
theorem lw_p39 : lw_okq (⟨"HeardNextModel", "put", "(I)V"⟩, 64) := ⟨⟨by decide +kernel, by decide +kernel⟩, List.mem_of_getElem? (i := 983) (by decide +kernel), List.mem_of_getElem? (i := 1205) (by decide +kernel), List.mem_of_getElem? (i := 1206) (by decide +kernel)⟩
theorem lw_p40 : lw_okq (⟨"HeardNextModel", "cut", "()V"⟩, 64) := ⟨⟨by decide +kernel, by decide +kernel⟩, List.mem_of_getElem? (i := 983) (by decide +kernel), List.mem_of_getElem? (i := 1217) (by decide +kernel), List.mem_of_getElem? (i := 1218) (by decide +kernel)⟩
theorem lw_p41 : lw_okq (⟨"HeardNextModel", "byteAt", "(I)I"⟩, 64) := ⟨⟨by decide +kernel, by decide +kernel⟩, List.mem_of_getElem? (i := 983) (by decide +kernel), List.mem_of_getElem? (i := 1221) (by decide +kernel), List.mem_of_getElem? (i := 1222) (by decide +kernel)⟩
theorem lw_p42 : lw_okq (⟨"HeardNextModel", "token", "(IIIJ)V"⟩, 64) := ⟨⟨by decide +kernel, by decide +kernel⟩, List.mem_of_getElem? (i := 983) (by decide +kernel), List.mem_of_getElem? (i := 1225) (by decide +kernel), List.mem_of_getElem? (i := 1226) (by decide +kernel)⟩
theorem lw_p43 : lw_okq (⟨"HeardNextModel", "sign", "(III)I"⟩, 64) := ⟨⟨by decide +kernel, by decide +kernel⟩, List.mem_of_getElem? (i := 983) (by decide +kernel), List.mem_of_getElem? (i := 1235) (by decide +kernel), List.mem_of_getElem? (i := 1236) (by decide +kernel)⟩
theorem lw_p44 : lw_okq (⟨"HeardNextModel", "is", "(I)Z"⟩, 64) := ⟨⟨by decide +kernel, by decide +kernel⟩, List.mem_of_getElem? (i := 983) (by decide +kernel), List.mem_of_getElem? (i := 1239) (by decide +kernel), List.mem_of_getElem? (i := 1240) (by decide +kernel)⟩
theorem lw_p45 : lw_okq (⟨"HeardNextModel", "tellOne", "()V"⟩, 64) := ⟨⟨by decide +kernel, by decide +kernel⟩, List.mem_of_getElem? (i := 983) (by decide +kernel), List.mem_of_getElem? (i := 1243) (by decide +kernel), List.mem_of_getElem? (i := 1244) (by decide +kernel)⟩
theorem lw_p46 : lw_okq (⟨"HeardNextModel", "roomFor", "(II)V"⟩, 64) := ⟨⟨by decide +kernel, by decide +kernel⟩, List.mem_of_getElem? (i := 983) (by decide +kernel), List.mem_of_getElem? (i := 1247) (by decide +kernel), List.mem_of_getElem? (i := 1248) (by decide +kernel)⟩
theorem lw_p47 : lw_okq (⟨"HeardNextModel", "fail", "(I)V"⟩, 64) := ⟨⟨by decide +kernel, by decide +kernel⟩, List.mem_of_getElem? (i := 983) (by decide +kernel), List.mem_of_getElem? (i := 1251) (by decide +kernel), List.mem_of_getElem? (i := 1252) (by decide +kernel)⟩
def lw_privs_3 : List (MethodName × Nat) := [(⟨"HeardNext", "contentBehindChange", "(II)I"⟩, 17), (⟨"HeardNext", "takeLeft", "(I)I"⟩, 17), (⟨"HeardNext", "mostAlike", "([II)I"⟩, 17), (⟨"HeardNext", "partsOf", "([I)I"⟩, 17), (⟨"HeardNextModel", "plain", "(I)V"⟩, 64), (⟨"HeardNextModel", "begins", "()V"⟩, 64), (⟨"HeardNextModel", "keepsRow", "()V"⟩, 64), (⟨"HeardNextModel", "put", "(I)V"⟩, 64), (⟨"HeardNextModel", "cut", "()V"⟩, 64), (⟨"HeardNextModel", "byteAt", "(I)I"⟩, 64), (⟨"HeardNextModel", "token", "(IIIJ)V"⟩, 64), (⟨"HeardNextModel", "sign", "(III)I"⟩, 64), (⟨"HeardNextModel", "is", "(I)Z"⟩, 64), (⟨"HeardNextModel", "tellOne", "()V"⟩, 64), (⟨"HeardNextModel", "roomFor", "(II)V"⟩, 64), (⟨"HeardNextModel", "fail", "(I)V"⟩, 64)]
theorem lw_r3 : ∀ q ∈ lw_privs_3, lw_okq q := List.forall_mem_cons.mpr ⟨lw_p32, List.forall_mem_cons.mpr ⟨lw_p33, List.forall_mem_cons.mpr ⟨lw_p34, List.forall_mem_cons.mpr ⟨lw_p35, List.forall_mem_cons.mpr ⟨lw_p36, List.forall_mem_cons.mpr ⟨lw_p37, List.forall_mem_cons.mpr ⟨lw_p38, List.forall_mem_cons.mpr ⟨lw_p39, List.forall_mem_cons.mpr ⟨lw_p40, List.forall_mem_cons.mpr ⟨lw_p41, List.forall_mem_cons.mpr ⟨lw_p42, List.forall_mem_cons.mpr ⟨lw_p43, List.forall_mem_cons.mpr ⟨lw_p44, List.forall_mem_cons.mpr ⟨lw_p45, List.forall_mem_cons.mpr ⟨lw_p46, List.forall_mem_cons.mpr ⟨lw_p47, fun _ h => absurd h List.not_mem_nil⟩⟩⟩⟩⟩⟩⟩⟩⟩⟩⟩⟩⟩⟩⟩⟩
theorem lw_p48 : lw_okq (⟨"HeardNextModel", "goesOn", "()V"⟩, 64) := ⟨⟨by decide +kernel, by decide +kernel⟩, List.mem_of_getElem? (i := 983) (by decide +kernel), List.mem_of_getElem? (i := 1255) (by decide +kernel), List.mem_of_getElem? (i := 1256) (by decide +kernel)⟩
theorem lw_p49 : lw_okq (⟨"HeardNextModel", "tellHouse", "()V"⟩, 64) := ⟨⟨by decide +kernel, by decide +kernel⟩, List.mem_of_getElem? (i := 983) (by decide +kernel), List.mem_of_getElem? (i := 1259) (by decide +kernel), List.mem_of_getElem? (i := 1260) (by decide +kernel)⟩
theorem lw_p50 : lw_okq (⟨"HeardNextModel", "must", "(I)V"⟩, 64) := ⟨⟨by decide +kernel, by decide +kernel⟩, List.mem_of_getElem? (i := 983) (by decide +kernel), List.mem_of_getElem? (i := 1263) (by decide +kernel), List.mem_of_getElem? (i := 1264) (by decide +kernel)⟩
theorem lw_p51 : lw_okq (⟨"HeardNextModel", "wrong", "(II)V"⟩, 64) := ⟨⟨by decide +kernel, by decide +kernel⟩, List.mem_of_getElem? (i := 983) (by decide +kernel), List.mem_of_getElem? (i := 1267) (by decide +kernel), List.mem_of_getElem? (i := 1268) (by decide +kernel)⟩
theorem lw_p52 : lw_okq (⟨"HeardNextModel", "bounded", "(II)I"⟩, 64) := ⟨⟨by decide +kernel, by decide +kernel⟩, List.mem_of_getElem? (i := 983) (by decide +kernel), List.mem_of_getElem? (i := 1271) (by decide +kernel), List.mem_of_getElem? (i := 1272) (by decide +kernel)⟩
theorem lw_p53 : lw_okq (⟨"HeardNextModel", "toldInt", "(II)I"⟩, 64) := ⟨⟨by decide +kernel, by decide +kernel⟩, List.mem_of_getElem? (i := 983) (by decide +kernel), List.mem_of_getElem? (i := 1275) (by decide +kernel), List.mem_of_getElem? (i := 1276) (by decide +kernel)⟩
theorem lw_p54 : lw_okq (⟨"HeardNextModel", "tellLaw", "(I)V"⟩, 64) := ⟨⟨by decide +kernel, by decide +kernel⟩, List.mem_of_getElem? (i := 983) (by decide +kernel), List.mem_of_getElem? (i := 1279) (by decide +kernel), List.mem_of_getElem? (i := 1280) (by decide +kernel)⟩
theorem lw_p55 : lw_okq (⟨"HeardNextModel", "expression", "()V"⟩, 64) := ⟨⟨by decide +kernel, by decide +kernel⟩, List.mem_of_getElem? (i := 983) (by decide +kernel), List.mem_of_getElem? (i := 1283) (by decide +kernel), List.mem_of_getElem? (i := 1284) (by decide +kernel)⟩
theorem lw_p56 : lw_okq (⟨"HeardNextModel", "unit", "()V"⟩, 64) := ⟨⟨by decide +kernel, by decide +kernel⟩, List.mem_of_getElem? (i := 983) (by decide +kernel), List.mem_of_getElem? (i := 1287) (by decide +kernel), List.mem_of_getElem? (i := 1288) (by decide +kernel)⟩
theorem lw_p57 : lw_okq (⟨"HeardNextModel", "emit", "(II)V"⟩, 64) := ⟨⟨by decide +kernel, by decide +kernel⟩, List.mem_of_getElem? (i := 983) (by decide +kernel), List.mem_of_getElem? (i := 1291) (by decide +kernel), List.mem_of_getElem? (i := 1292) (by decide +kernel)⟩
theorem lw_p58 : lw_okq (⟨"HeardNextModel", "comesOut", "(Z)V"⟩, 64) := ⟨⟨by decide +kernel, by decide +kernel⟩, List.mem_of_getElem? (i := 983) (by decide +kernel), List.mem_of_getElem? (i := 1295) (by decide +kernel), List.mem_of_getElem? (i := 1296) (by decide +kernel)⟩
theorem lw_p59 : lw_okq (⟨"HeardNextModel", "term", "()V"⟩, 64) := ⟨⟨by decide +kernel, by decide +kernel⟩, List.mem_of_getElem? (i := 983) (by decide +kernel), List.mem_of_getElem? (i := 1299) (by decide +kernel), List.mem_of_getElem? (i := 1300) (by decide +kernel)⟩
theorem lw_p60 : lw_okq (⟨"HeardNextModel", "isHouse", "(I)Z"⟩, 64) := ⟨⟨by decide +kernel, by decide +kernel⟩, List.mem_of_getElem? (i := 983) (by decide +kernel), List.mem_of_getElem? (i := 1311) (by decide +kernel), List.mem_of_getElem? (i := 1312) (by decide +kernel)⟩
theorem lw_p61 : lw_okq (⟨"HeardNextModel", "copies", "()V"⟩, 64) := ⟨⟨by decide +kernel, by decide +kernel⟩, List.mem_of_getElem? (i := 983) (by decide +kernel), List.mem_of_getElem? (i := 1318) (by decide +kernel), List.mem_of_getElem? (i := 1319) (by decide +kernel)⟩
theorem lw_p62 : lw_okq (⟨"HeardNextModel", "turnsOf", "(III)I"⟩, 64) := ⟨⟨by decide +kernel, by decide +kernel⟩, List.mem_of_getElem? (i := 983) (by decide +kernel), List.mem_of_getElem? (i := 1325) (by decide +kernel), List.mem_of_getElem? (i := 1326) (by decide +kernel)⟩
theorem lw_p63 : lw_okq (⟨"HeardNextModel", "looks", "(IIII)V"⟩, 64) := ⟨⟨by decide +kernel, by decide +kernel⟩, List.mem_of_getElem? (i := 983) (by decide +kernel), List.mem_of_getElem? (i := 1329) (by decide +kernel), List.mem_of_getElem? (i := 1330) (by decide +kernel)⟩
def lw_privs_4 : List (MethodName × Nat) := [(⟨"HeardNextModel", "goesOn", "()V"⟩, 64), (⟨"HeardNextModel", "tellHouse", "()V"⟩, 64), (⟨"HeardNextModel", "must", "(I)V"⟩, 64), (⟨"HeardNextModel", "wrong", "(II)V"⟩, 64), (⟨"HeardNextModel", "bounded", "(II)I"⟩, 64), (⟨"HeardNextModel", "toldInt", "(II)I"⟩, 64), (⟨"HeardNextModel", "tellLaw", "(I)V"⟩, 64), (⟨"HeardNextModel", "expression", "()V"⟩, 64), (⟨"HeardNextModel", "unit", "()V"⟩, 64), (⟨"HeardNextModel", "emit", "(II)V"⟩, 64), (⟨"HeardNextModel", "comesOut", "(Z)V"⟩, 64), (⟨"HeardNextModel", "term", "()V"⟩, 64), (⟨"HeardNextModel", "isHouse", "(I)Z"⟩, 64), (⟨"HeardNextModel", "copies", "()V"⟩, 64), (⟨"HeardNextModel", "turnsOf", "(III)I"⟩, 64), (⟨"HeardNextModel", "looks", "(IIII)V"⟩, 64)]
theorem lw_r4 : ∀ q ∈ lw_privs_4, lw_okq q := List.forall_mem_cons.mpr ⟨lw_p48, List.forall_mem_cons.mpr ⟨lw_p49, List.forall_mem_cons.mpr ⟨lw_p50, List.forall_mem_cons.mpr ⟨lw_p51, List.forall_mem_cons.mpr ⟨lw_p52, List.forall_mem_cons.mpr ⟨lw_p53, List.forall_mem_cons.mpr ⟨lw_p54, List.forall_mem_cons.mpr ⟨lw_p55, List.forall_mem_cons.mpr ⟨lw_p56, List.forall_mem_cons.mpr ⟨lw_p57, List.forall_mem_cons.mpr ⟨lw_p58, List.forall_mem_cons.mpr ⟨lw_p59, List.forall_mem_cons.mpr ⟨lw_p60, List.forall_mem_cons.mpr ⟨lw_p61, List.forall_mem_cons.mpr ⟨lw_p62, List.forall_mem_cons.mpr ⟨lw_p63, fun _ h => absurd h List.not_mem_nil⟩⟩⟩⟩⟩⟩⟩⟩⟩⟩⟩⟩⟩⟩⟩⟩
theorem lw_p64 : lw_okq (⟨"HeardNextModel", "lawTells", "(II)I"⟩, 64) := ⟨⟨by decide +kernel, by decide +kernel⟩, List.mem_of_getElem? (i := 983) (by decide +kernel), List.mem_of_getElem? (i := 1333) (by decide +kernel), List.mem_of_getElem? (i := 1334) (by decide +kernel)⟩
theorem lw_p65 : lw_okq (⟨"HeardNextModel", "termOf", "(II)I"⟩, 64) := ⟨⟨by decide +kernel, by decide +kernel⟩, List.mem_of_getElem? (i := 983) (by decide +kernel), List.mem_of_getElem? (i := 1337) (by decide +kernel), List.mem_of_getElem? (i := 1338) (by decide +kernel)⟩
theorem lw_p66 : lw_okq (⟨"HeardNextModel", "humsOf", "(II)I"⟩, 64) := ⟨⟨by decide +kernel, by decide +kernel⟩, List.mem_of_getElem? (i := 983) (by decide +kernel), List.mem_of_getElem? (i := 1344) (by decide +kernel), List.mem_of_getElem? (i := 1345) (by decide +kernel)⟩
theorem lw_p67 : lw_okq (⟨"HeardNextModel", "diesOf", "(I)I"⟩, 64) := ⟨⟨by decide +kernel, by decide +kernel⟩, List.mem_of_getElem? (i := 983) (by decide +kernel), List.mem_of_getElem? (i := 1348) (by decide +kernel), List.mem_of_getElem? (i := 1349) (by decide +kernel)⟩
theorem lw_p68 : lw_okq (⟨"HeardNextModel", "passes", "(III)I"⟩, 64) := ⟨⟨by decide +kernel, by decide +kernel⟩, List.mem_of_getElem? (i := 983) (by decide +kernel), List.mem_of_getElem? (i := 1359) (by decide +kernel), List.mem_of_getElem? (i := 1360) (by decide +kernel)⟩
theorem lw_p69 : lw_okq (⟨"HeardNextModel", "isKept", "(IIII)Z"⟩, 64) := ⟨⟨by decide +kernel, by decide +kernel⟩, List.mem_of_getElem? (i := 983) (by decide +kernel), List.mem_of_getElem? (i := 1363) (by decide +kernel), List.mem_of_getElem? (i := 1364) (by decide +kernel)⟩
theorem lw_p70 : lw_okq (⟨"HeardNextModel", "records", "()V"⟩, 64) := ⟨⟨by decide +kernel, by decide +kernel⟩, List.mem_of_getElem? (i := 983) (by decide +kernel), List.mem_of_getElem? (i := 1371) (by decide +kernel), List.mem_of_getElem? (i := 1372) (by decide +kernel)⟩
theorem lw_p71 : lw_okq (⟨"HeardNextModel", "changes", "(II)V"⟩, 64) := ⟨⟨by decide +kernel, by decide +kernel⟩, List.mem_of_getElem? (i := 983) (by decide +kernel), List.mem_of_getElem? (i := 1387) (by decide +kernel), List.mem_of_getElem? (i := 1388) (by decide +kernel)⟩
theorem lw_p72 : lw_okq (⟨"HeardNextModel", "goes", "(I)V"⟩, 64) := ⟨⟨by decide +kernel, by decide +kernel⟩, List.mem_of_getElem? (i := 983) (by decide +kernel), List.mem_of_getElem? (i := 1398) (by decide +kernel), List.mem_of_getElem? (i := 1399) (by decide +kernel)⟩
theorem lw_p73 : lw_okq (⟨"HeardNextModel", "hourGoes", "()V"⟩, 64) := ⟨⟨by decide +kernel, by decide +kernel⟩, List.mem_of_getElem? (i := 983) (by decide +kernel), List.mem_of_getElem? (i := 1402) (by decide +kernel), List.mem_of_getElem? (i := 1403) (by decide +kernel)⟩
theorem lw_p74 : lw_okq (⟨"HeardNextModel", "hears", "(I)Z"⟩, 64) := ⟨⟨by decide +kernel, by decide +kernel⟩, List.mem_of_getElem? (i := 983) (by decide +kernel), List.mem_of_getElem? (i := 1406) (by decide +kernel), List.mem_of_getElem? (i := 1407) (by decide +kernel)⟩
theorem lw_p75 : lw_okq (⟨"HeardNextModel", "sentNow", "()I"⟩, 64) := ⟨⟨by decide +kernel, by decide +kernel⟩, List.mem_of_getElem? (i := 983) (by decide +kernel), List.mem_of_getElem? (i := 1410) (by decide +kernel), List.mem_of_getElem? (i := 1411) (by decide +kernel)⟩
theorem lw_p76 : lw_okq (⟨"HeardNextModel", "lotOf", "(I)I"⟩, 64) := ⟨⟨by decide +kernel, by decide +kernel⟩, List.mem_of_getElem? (i := 983) (by decide +kernel), List.mem_of_getElem? (i := 1414) (by decide +kernel), List.mem_of_getElem? (i := 1415) (by decide +kernel)⟩
theorem lw_p77 : lw_okq (⟨"HeardNextModel", "comesNow", "(II)I"⟩, 64) := ⟨⟨by decide +kernel, by decide +kernel⟩, List.mem_of_getElem? (i := 983) (by decide +kernel), List.mem_of_getElem? (i := 1430) (by decide +kernel), List.mem_of_getElem? (i := 1431) (by decide +kernel)⟩
theorem lw_p78 : lw_okq (⟨"HeardNextModel", "comesAt", "(III)I"⟩, 64) := ⟨⟨by decide +kernel, by decide +kernel⟩, List.mem_of_getElem? (i := 983) (by decide +kernel), List.mem_of_getElem? (i := 1434) (by decide +kernel), List.mem_of_getElem? (i := 1435) (by decide +kernel)⟩
theorem lw_p79 : lw_okq (⟨"HeardNextModel", "breakTo", "(I)I"⟩, 64) := ⟨⟨by decide +kernel, by decide +kernel⟩, List.mem_of_getElem? (i := 983) (by decide +kernel), List.mem_of_getElem? (i := 1438) (by decide +kernel), List.mem_of_getElem? (i := 1439) (by decide +kernel)⟩
def lw_privs_5 : List (MethodName × Nat) := [(⟨"HeardNextModel", "lawTells", "(II)I"⟩, 64), (⟨"HeardNextModel", "termOf", "(II)I"⟩, 64), (⟨"HeardNextModel", "humsOf", "(II)I"⟩, 64), (⟨"HeardNextModel", "diesOf", "(I)I"⟩, 64), (⟨"HeardNextModel", "passes", "(III)I"⟩, 64), (⟨"HeardNextModel", "isKept", "(IIII)Z"⟩, 64), (⟨"HeardNextModel", "records", "()V"⟩, 64), (⟨"HeardNextModel", "changes", "(II)V"⟩, 64), (⟨"HeardNextModel", "goes", "(I)V"⟩, 64), (⟨"HeardNextModel", "hourGoes", "()V"⟩, 64), (⟨"HeardNextModel", "hears", "(I)Z"⟩, 64), (⟨"HeardNextModel", "sentNow", "()I"⟩, 64), (⟨"HeardNextModel", "lotOf", "(I)I"⟩, 64), (⟨"HeardNextModel", "comesNow", "(II)I"⟩, 64), (⟨"HeardNextModel", "comesAt", "(III)I"⟩, 64), (⟨"HeardNextModel", "breakTo", "(I)I"⟩, 64)]
theorem lw_r5 : ∀ q ∈ lw_privs_5, lw_okq q := List.forall_mem_cons.mpr ⟨lw_p64, List.forall_mem_cons.mpr ⟨lw_p65, List.forall_mem_cons.mpr ⟨lw_p66, List.forall_mem_cons.mpr ⟨lw_p67, List.forall_mem_cons.mpr ⟨lw_p68, List.forall_mem_cons.mpr ⟨lw_p69, List.forall_mem_cons.mpr ⟨lw_p70, List.forall_mem_cons.mpr ⟨lw_p71, List.forall_mem_cons.mpr ⟨lw_p72, List.forall_mem_cons.mpr ⟨lw_p73, List.forall_mem_cons.mpr ⟨lw_p74, List.forall_mem_cons.mpr ⟨lw_p75, List.forall_mem_cons.mpr ⟨lw_p76, List.forall_mem_cons.mpr ⟨lw_p77, List.forall_mem_cons.mpr ⟨lw_p78, List.forall_mem_cons.mpr ⟨lw_p79, fun _ h => absurd h List.not_mem_nil⟩⟩⟩⟩⟩⟩⟩⟩⟩⟩⟩⟩⟩⟩⟩⟩
theorem lw_p80 : lw_okq (⟨"HeardNextModel", "fillsComes", "(I)V"⟩, 64) := ⟨⟨by decide +kernel, by decide +kernel⟩, List.mem_of_getElem? (i := 983) (by decide +kernel), List.mem_of_getElem? (i := 1450) (by decide +kernel), List.mem_of_getElem? (i := 1451) (by decide +kernel)⟩
theorem lw_p81 : lw_okq (⟨"HeardNextModel", "fillsAll", "(I)V"⟩, 64) := ⟨⟨by decide +kernel, by decide +kernel⟩, List.mem_of_getElem? (i := 983) (by decide +kernel), List.mem_of_getElem? (i := 1486) (by decide +kernel), List.mem_of_getElem? (i := 1487) (by decide +kernel)⟩
theorem lw_p82 : lw_okq (⟨"HeardNextModel", "findsTimes", "(I)I"⟩, 64) := ⟨⟨by decide +kernel, by decide +kernel⟩, List.mem_of_getElem? (i := 983) (by decide +kernel), List.mem_of_getElem? (i := 1490) (by decide +kernel), List.mem_of_getElem? (i := 1491) (by decide +kernel)⟩
theorem lw_p83 : lw_okq (⟨"HeardNextModel", "copiesStill", "()V"⟩, 64) := ⟨⟨by decide +kernel, by decide +kernel⟩, List.mem_of_getElem? (i := 983) (by decide +kernel), List.mem_of_getElem? (i := 1509) (by decide +kernel), List.mem_of_getElem? (i := 1510) (by decide +kernel)⟩
theorem lw_p84 : lw_okq (⟨"HeardNextModel", "hadAllMany", "()I"⟩, 64) := ⟨⟨by decide +kernel, by decide +kernel⟩, List.mem_of_getElem? (i := 983) (by decide +kernel), List.mem_of_getElem? (i := 1529) (by decide +kernel), List.mem_of_getElem? (i := 1530) (by decide +kernel)⟩
theorem lw_p85 : lw_okq (⟨"HeardNextModel", "hadAll", "(I)Z"⟩, 64) := ⟨⟨by decide +kernel, by decide +kernel⟩, List.mem_of_getElem? (i := 983) (by decide +kernel), List.mem_of_getElem? (i := 1533) (by decide +kernel), List.mem_of_getElem? (i := 1534) (by decide +kernel)⟩
theorem lw_p86 : lw_okq (⟨"HeardNextModel", "griefBits", "()I"⟩, 64) := ⟨⟨by decide +kernel, by decide +kernel⟩, List.mem_of_getElem? (i := 983) (by decide +kernel), List.mem_of_getElem? (i := 1545) (by decide +kernel), List.mem_of_getElem? (i := 1546) (by decide +kernel)⟩
theorem lw_p87 : lw_okq (⟨"HeardNextModel", "fillsSent", "(I)I"⟩, 64) := ⟨⟨by decide +kernel, by decide +kernel⟩, List.mem_of_getElem? (i := 983) (by decide +kernel), List.mem_of_getElem? (i := 1581) (by decide +kernel), List.mem_of_getElem? (i := 1582) (by decide +kernel)⟩
theorem lw_p88 : lw_okq (⟨"HeardNextModel", "worstAt", "(I)I"⟩, 64) := ⟨⟨by decide +kernel, by decide +kernel⟩, List.mem_of_getElem? (i := 983) (by decide +kernel), List.mem_of_getElem? (i := 1589) (by decide +kernel), List.mem_of_getElem? (i := 1590) (by decide +kernel)⟩
theorem lw_p89 : lw_okq (⟨"HeardNextModel", "bitsOf", "(II)I"⟩, 64) := ⟨⟨by decide +kernel, by decide +kernel⟩, List.mem_of_getElem? (i := 983) (by decide +kernel), List.mem_of_getElem? (i := 1605) (by decide +kernel), List.mem_of_getElem? (i := 1606) (by decide +kernel)⟩
def lw_privs_6 : List (MethodName × Nat) := [(⟨"HeardNextModel", "fillsComes", "(I)V"⟩, 64), (⟨"HeardNextModel", "fillsAll", "(I)V"⟩, 64), (⟨"HeardNextModel", "findsTimes", "(I)I"⟩, 64), (⟨"HeardNextModel", "copiesStill", "()V"⟩, 64), (⟨"HeardNextModel", "hadAllMany", "()I"⟩, 64), (⟨"HeardNextModel", "hadAll", "(I)Z"⟩, 64), (⟨"HeardNextModel", "griefBits", "()I"⟩, 64), (⟨"HeardNextModel", "fillsSent", "(I)I"⟩, 64), (⟨"HeardNextModel", "worstAt", "(I)I"⟩, 64), (⟨"HeardNextModel", "bitsOf", "(II)I"⟩, 64)]
theorem lw_r6 : ∀ q ∈ lw_privs_6, lw_okq q := List.forall_mem_cons.mpr ⟨lw_p80, List.forall_mem_cons.mpr ⟨lw_p81, List.forall_mem_cons.mpr ⟨lw_p82, List.forall_mem_cons.mpr ⟨lw_p83, List.forall_mem_cons.mpr ⟨lw_p84, List.forall_mem_cons.mpr ⟨lw_p85, List.forall_mem_cons.mpr ⟨lw_p86, List.forall_mem_cons.mpr ⟨lw_p87, List.forall_mem_cons.mpr ⟨lw_p88, List.forall_mem_cons.mpr ⟨lw_p89, fun _ h => absurd h List.not_mem_nil⟩⟩⟩⟩⟩⟩⟩⟩⟩⟩
def lw_privs : List (MethodName × Nat) := lw_privs_1 ++ (lw_privs_2 ++ (lw_privs_3 ++ (lw_privs_4 ++ (lw_privs_5 ++ (lw_privs_6)))))
def lw_tbl : List Cond := k2_sels lw_privs ++ tables_1
theorem lw_privs_ok : ∀ q ∈ lw_privs, lw_okq q := by
  show ∀ q ∈ lw_privs_1 ++ (lw_privs_2 ++ (lw_privs_3 ++ (lw_privs_4 ++ (lw_privs_5 ++ (lw_privs_6))))), lw_okq q
  exact List.forall_mem_append.mpr ⟨lw_r1, List.forall_mem_append.mpr ⟨lw_r2, List.forall_mem_append.mpr ⟨lw_r3, List.forall_mem_append.mpr ⟨lw_r4, List.forall_mem_append.mpr ⟨lw_r5, lw_r6⟩⟩⟩⟩⟩
def RX0 : String := "HeardNext$Air"
def TX0 : u_T := fun k => match k with
  | 0 => ("HeardNext$Air", "vars", "[I", true)
  | 1 => ("HeardNext$Air", "known", "[I", true)
  | 2 => ("HeardNext$Air", "kept", "[I", true)
  | 3 => ("HeardNext$Air", "turn", "[I", true)
  | 4 => ("HeardNext$Air", "hum", "I", false)
  | _ => ("HeardNext$Air", "laws", "LHeardNext$Laws;", false)
def tyX0 : Nat → FieldType := fun k => match k with
  | 0 => .array .int
  | 1 => .array .int
  | 2 => .array .int
  | 3 => .array .int
  | 4 => .int
  | _ => .object "HeardNext$Laws"
abbrev wsX00 : List Cond := u_ws RX0 TX0 6
theorem nmX0 : ∀ a, a < 6 → ∀ b, b < 6 → a ≠ b → (TX0 a).2.1 ≠ (TX0 b).2.1 := by decide +kernel
theorem tyX0_ok : ∀ k, k < 6 → parseFieldDescriptor (TX0 k).2.2.1 = some (tyX0 k) := by decide +kernel
def RX1 : String := "HeardNext$Laws"
def TX1 : u_T := fun k => match k with
  | 0 => ("HeardNext$Laws", "steps", "[I", true)
  | 1 => ("HeardNext$Laws", "first", "[I", true)
  | 2 => ("HeardNext$Laws", "looks", "[I", true)
  | 3 => ("HeardNext$Laws", "pile", "[I", true)
  | 4 => ("HeardNext$Laws", "size", "I", false)
  | _ => ("HeardNext$Laws", "looked", "I", false)
def tyX1 : Nat → FieldType := fun k => match k with
  | 0 => .array .int
  | 1 => .array .int
  | 2 => .array .int
  | 3 => .array .int
  | 4 => .int
  | _ => .int
abbrev wsX10 : List Cond := u_ws RX1 TX1 6
theorem nmX1 : ∀ a, a < 6 → ∀ b, b < 6 → a ≠ b → (TX1 a).2.1 ≠ (TX1 b).2.1 := by decide +kernel
theorem tyX1_ok : ∀ k, k < 6 → parseFieldDescriptor (TX1 k).2.2.1 = some (tyX1 k) := by decide +kernel
def RX2 : String := "HeardNext$Life"
def TX2 : u_T := fun k => match k with
  | 0 => ("HeardNext$Life", "wanted", "[I", true)
  | 1 => ("HeardNext$Life", "age", "[I", true)
  | 2 => ("HeardNext$Life", "had", "[I", true)
  | 3 => ("HeardNext$Life", "who", "[I", true)
  | 4 => ("HeardNext$Life", "heard", "[I", true)
  | 5 => ("HeardNext$Life", "grief", "[I", true)
  | 6 => ("HeardNext$Life", "houses", "I", false)
  | 7 => ("HeardNext$Life", "hour", "I", false)
  | 8 => ("HeardNext$Life", "byHand", "I", false)
  | 9 => ("HeardNext$Life", "on", "I", false)
  | _ => ("HeardNext$Life", "deaths", "I", false)
def tyX2 : Nat → FieldType := fun k => match k with
  | 0 => .array .int
  | 1 => .array .int
  | 2 => .array .int
  | 3 => .array .int
  | 4 => .array .int
  | 5 => .array .int
  | 6 => .int
  | 7 => .int
  | 8 => .int
  | 9 => .int
  | _ => .int
abbrev wsX20 : List Cond := u_ws RX2 TX2 11
theorem nmX2 : ∀ a, a < 11 → ∀ b, b < 11 → a ≠ b → (TX2 a).2.1 ≠ (TX2 b).2.1 := by decide +kernel
theorem tyX2_ok : ∀ k, k < 11 → parseFieldDescriptor (TX2 k).2.2.1 = some (tyX2 k) := by decide +kernel
def RX3 : String := "HeardNext$Past"
def TX3 : u_T := fun k => match k with
  | 0 => ("HeardNext$Past", "lives", "[LHeardNext$Life;", true)
  | 1 => ("HeardNext$Past", "first", "I", false)
  | _ => ("HeardNext$Past", "size", "I", false)
def tyX3 : Nat → FieldType := fun k => match k with
  | 0 => .array (.object "HeardNext$Life")
  | 1 => .int
  | _ => .int
abbrev wsX30 : List Cond := u_ws RX3 TX3 3
theorem nmX3 : ∀ a, a < 3 → ∀ b, b < 3 → a ≠ b → (TX3 a).2.1 ≠ (TX3 b).2.1 := by decide +kernel
theorem tyX3_ok : ∀ k, k < 3 → parseFieldDescriptor (TX3 k).2.2.1 = some (tyX3 k) := by decide +kernel
def RX4 : String := "HeardNext$Reader"
def TX4 : u_T := fun k => match k with
  | 0 => ("HeardNext$Reader", "tokens", "LHeardNext$Tokens;", true)
  | 1 => ("HeardNext$Reader", "names", "[J", true)
  | 2 => ("HeardNext$Reader", "terrace", "LHeardNext$Terrace;", false)
  | 3 => ("HeardNext$Reader", "next", "I", false)
  | 4 => ("HeardNext$Reader", "number", "I", false)
  | 5 => ("HeardNext$Reader", "fault", "I", false)
  | 6 => ("HeardNext$Reader", "faultPlace", "I", false)
  | 7 => ("HeardNext$Reader", "lateFault", "I", false)
  | _ => ("HeardNext$Reader", "latePlace", "I", false)
def tyX4 : Nat → FieldType := fun k => match k with
  | 0 => .object "HeardNext$Tokens"
  | 1 => .array .long
  | 2 => .object "HeardNext$Terrace"
  | 3 => .int
  | 4 => .int
  | 5 => .int
  | 6 => .int
  | 7 => .int
  | _ => .int
abbrev wsX40 : List Cond := u_ws RX4 TX4 9
theorem nmX4 : ∀ a, a < 9 → ∀ b, b < 9 → a ≠ b → (TX4 a).2.1 ≠ (TX4 b).2.1 := by decide +kernel
theorem tyX4_ok : ∀ k, k < 9 → parseFieldDescriptor (TX4 k).2.2.1 = some (tyX4 k) := by decide +kernel
def RX5 : String := "HeardNext$Terrace"
def TX5 : u_T := fun k => match k with
  | 0 => ("HeardNext$Terrace", "wanted", "[I", true)
  | 1 => ("HeardNext$Terrace", "age", "[I", true)
  | 2 => ("HeardNext$Terrace", "programmeAt", "[I", true)
  | 3 => ("HeardNext$Terrace", "laws", "LHeardNext$Laws;", true)
  | 4 => ("HeardNext$Terrace", "houses", "I", false)
  | 5 => ("HeardNext$Terrace", "sends", "I", false)
  | 6 => ("HeardNext$Terrace", "grief", "I", false)
  | _ => ("HeardNext$Terrace", "seed", "I", false)
def tyX5 : Nat → FieldType := fun k => match k with
  | 0 => .array .int
  | 1 => .array .int
  | 2 => .array .int
  | 3 => .object "HeardNext$Laws"
  | 4 => .int
  | 5 => .int
  | 6 => .int
  | _ => .int
abbrev wsX50 : List Cond := u_ws RX5 TX5 8
theorem nmX5 : ∀ a, a < 8 → ∀ b, b < 8 → a ≠ b → (TX5 a).2.1 ≠ (TX5 b).2.1 := by decide +kernel
theorem tyX5_ok : ∀ k, k < 8 → parseFieldDescriptor (TX5 k).2.2.1 = some (tyX5 k) := by decide +kernel
def RX6 : String := "HeardNext$Tokens"
def TX6 : u_T := fun k => match k with
  | 0 => ("HeardNext$Tokens", "kind", "[I", true)
  | 1 => ("HeardNext$Tokens", "value", "[J", true)
  | 2 => ("HeardNext$Tokens", "start", "[I", true)
  | _ => ("HeardNext$Tokens", "size", "I", false)
def tyX6 : Nat → FieldType := fun k => match k with
  | 0 => .array .int
  | 1 => .array .long
  | 2 => .array .int
  | _ => .int
abbrev wsX60 : List Cond := u_ws RX6 TX6 4
theorem nmX6 : ∀ a, a < 4 → ∀ b, b < 4 → a ≠ b → (TX6 a).2.1 ≠ (TX6 b).2.1 := by decide +kernel
theorem tyX6_ok : ∀ k, k < 4 → parseFieldDescriptor (TX6 k).2.2.1 = some (tyX6 k) := by decide +kernel
def RX7 : String := "HeardNext$Told"
def TX7 : u_T := fun k => match k with
  | 0 => ("HeardNext$Told", "house", "[I", true)
  | 1 => ("HeardNext$Told", "programme", "[I", true)
  | _ => ("HeardNext$Told", "size", "I", false)
def tyX7 : Nat → FieldType := fun k => match k with
  | 0 => .array .int
  | 1 => .array .int
  | _ => .int
abbrev wsX70 : List Cond := u_ws RX7 TX7 3
theorem nmX7 : ∀ a, a < 3 → ∀ b, b < 3 → a ≠ b → (TX7 a).2.1 ≠ (TX7 b).2.1 := by decide +kernel
theorem tyX7_ok : ∀ k, k < 3 → parseFieldDescriptor (TX7 k).2.2.1 = some (tyX7 k) := by decide +kernel
def RX8 : String := "HeardNext$Ways"
def TX8 : u_T := fun k => match k with
  | 0 => ("HeardNext$Ways", "rows", "[[I", true)
  | _ => ("HeardNext$Ways", "filled", "I", false)
def tyX8 : Nat → FieldType := fun k => match k with
  | 0 => .array (.array .int)
  | _ => .int
abbrev wsX80 : List Cond := u_ws RX8 TX8 2
theorem nmX8 : ∀ a, a < 2 → ∀ b, b < 2 → a ≠ b → (TX8 a).2.1 ≠ (TX8 b).2.1 := by decide +kernel
theorem tyX8_ok : ∀ k, k < 2 → parseFieldDescriptor (TX8 k).2.2.1 = some (tyX8 k) := by decide +kernel
def RX9 : String := "HeardNext"
def TX9 : u_T := fun k => match k with
  | 0 => ("HeardNext", "tape", "[B", true)
  | 1 => ("HeardNext", "tapeLength", "I", false)
  | 2 => ("HeardNext", "faultPlace", "I", false)
  | 3 => ("HeardNext", "terrace", "LHeardNext$Terrace;", false)
  | 4 => ("HeardNext", "draft", "LHeardNext$Terrace;", false)
  | 5 => ("HeardNext", "reader", "LHeardNext$Reader;", true)
  | 6 => ("HeardNext", "life", "LHeardNext$Life;", true)
  | 7 => ("HeardNext", "dream", "LHeardNext$Life;", true)
  | 8 => ("HeardNext", "past", "LHeardNext$Past;", true)
  | 9 => ("HeardNext", "slots", "[LHeardNext$Life;", true)
  | 10 => ("HeardNext", "held", "I", false)
  | 11 => ("HeardNext", "air", "LHeardNext$Air;", true)
  | 12 => ("HeardNext", "ways", "LHeardNext$Ways;", true)
  | 13 => ("HeardNext", "told", "LHeardNext$Told;", true)
  | 14 => ("HeardNext", "taken", "[I", true)
  | 15 => ("HeardNext", "sums", "[I", true)
  | _ => ("HeardNext", "chosen", "[I", true)
def tyX9 : Nat → FieldType := fun k => match k with
  | 0 => .array .byte
  | 1 => .int
  | 2 => .int
  | 3 => .object "HeardNext$Terrace"
  | 4 => .object "HeardNext$Terrace"
  | 5 => .object "HeardNext$Reader"
  | 6 => .object "HeardNext$Life"
  | 7 => .object "HeardNext$Life"
  | 8 => .object "HeardNext$Past"
  | 9 => .array (.object "HeardNext$Life")
  | 10 => .int
  | 11 => .object "HeardNext$Air"
  | 12 => .object "HeardNext$Ways"
  | 13 => .object "HeardNext$Told"
  | 14 => .array .int
  | 15 => .array .int
  | _ => .array .int
abbrev wsX90 : List Cond := u_ws RX9 TX9 17
theorem nmX9 : ∀ a, a < 17 → ∀ b, b < 17 → a ≠ b → (TX9 a).2.1 ≠ (TX9 b).2.1 := by decide +kernel
theorem tyX9_ok : ∀ k, k < 17 → parseFieldDescriptor (TX9 k).2.2.1 = some (tyX9 k) := by decide +kernel
def RX10 : String := "HeardNextModel"
def TX10 : u_T := fun k => match k with
  | 0 => ("HeardNextModel", "thrown", "I", false)
  | 1 => ("HeardNextModel", "tape", "[B", true)
  | 2 => ("HeardNextModel", "taped", "I", false)
  | 3 => ("HeardNextModel", "text", "[B", true)
  | 4 => ("HeardNextModel", "size", "I", false)
  | 5 => ("HeardNextModel", "tKind", "[I", true)
  | 6 => ("HeardNextModel", "tPlace", "[I", true)
  | 7 => ("HeardNextModel", "tValue", "[I", true)
  | 8 => ("HeardNextModel", "tName", "[J", true)
  | 9 => ("HeardNextModel", "keys", "[J", true)
  | 10 => ("HeardNextModel", "tokens", "I", false)
  | 11 => ("HeardNextModel", "t", "I", false)
  | 12 => ("HeardNextModel", "open", "I", false)
  | 13 => ("HeardNextModel", "fault", "I", false)
  | 14 => ("HeardNextModel", "faultPlace", "I", false)
  | 15 => ("HeardNextModel", "worst", "I", false)
  | 16 => ("HeardNextModel", "worstPlace", "I", false)
  | 17 => ("HeardNextModel", "place", "I", false)
  | 18 => ("HeardNextModel", "live", "I", false)
  | 19 => ("HeardNextModel", "side", "I", false)
  | 20 => ("HeardNextModel", "names", "I", false)
  | 21 => ("HeardNextModel", "nameOf", "[J", true)
  | 22 => ("HeardNextModel", "houses", "[I", true)
  | 23 => ("HeardNextModel", "wantsTold", "[I", true)
  | 24 => ("HeardNextModel", "ageTold", "[I", true)
  | 25 => ("HeardNextModel", "sendsMany", "[I", true)
  | 26 => ("HeardNextModel", "sendsAt", "[I", true)
  | 27 => ("HeardNextModel", "grief", "[I", true)
  | 28 => ("HeardNextModel", "seed", "[I", true)
  | 29 => ("HeardNextModel", "lawFirst", "[I", true)
  | 30 => ("HeardNextModel", "lawLast", "[I", true)
  | 31 => ("HeardNextModel", "branches", "I", false)
  | 32 => ("HeardNextModel", "hasTest", "[Z", true)
  | 33 => ("HeardNextModel", "testFrom", "[I", true)
  | 34 => ("HeardNextModel", "testMid", "[I", true)
  | 35 => ("HeardNextModel", "testTo", "[I", true)
  | 36 => ("HeardNextModel", "termTo", "[I", true)
  | 37 => ("HeardNextModel", "codes", "I", false)
  | 38 => ("HeardNextModel", "codeKind", "[I", true)
  | 39 => ("HeardNextModel", "codeInt", "[I", true)
  | 40 => ("HeardNextModel", "waits", "[I", true)
  | 41 => ("HeardNextModel", "waiting", "I", false)
  | 42 => ("HeardNextModel", "variables", "[I", true)
  | 43 => ("HeardNextModel", "pile", "[I", true)
  | 44 => ("HeardNextModel", "isBroken", "Z", false)
  | 45 => ("HeardNextModel", "now", "[I", true)
  | 46 => ("HeardNextModel", "row", "[I", true)
  | 47 => ("HeardNextModel", "lots", "I", false)
  | 48 => ("HeardNextModel", "isStill", "Z", false)
  | 49 => ("HeardNextModel", "heardThen", "[I", true)
  | 50 => ("HeardNextModel", "diesNow", "[Z", true)
  | 51 => ("HeardNextModel", "undos", "I", false)
  | 52 => ("HeardNextModel", "history", "[I", true)
  | 53 => ("HeardNextModel", "comesOf", "[I", true)
  | 54 => ("HeardNextModel", "isSo", "[Z", true)
  | 55 => ("HeardNextModel", "taken", "[I", true)
  | 56 => ("HeardNextModel", "allAt", "[I", true)
  | 57 => ("HeardNextModel", "timesAt", "[I", true)
  | 58 => ("HeardNextModel", "partsOf", "[I", true)
  | 59 => ("HeardNextModel", "tolds", "I", false)
  | 60 => ("HeardNextModel", "toldHouse", "[I", true)
  | 61 => ("HeardNextModel", "toldWhat", "[I", true)
  | 62 => ("HeardNextModel", "isHeld", "[Z", true)
  | _ => ("HeardNextModel", "heldRows", "[I", true)
def tyX10 : Nat → FieldType := fun k => match k with
  | 0 => .int
  | 1 => .array .byte
  | 2 => .int
  | 3 => .array .byte
  | 4 => .int
  | 5 => .array .int
  | 6 => .array .int
  | 7 => .array .int
  | 8 => .array .long
  | 9 => .array .long
  | 10 => .int
  | 11 => .int
  | 12 => .int
  | 13 => .int
  | 14 => .int
  | 15 => .int
  | 16 => .int
  | 17 => .int
  | 18 => .int
  | 19 => .int
  | 20 => .int
  | 21 => .array .long
  | 22 => .array .int
  | 23 => .array .int
  | 24 => .array .int
  | 25 => .array .int
  | 26 => .array .int
  | 27 => .array .int
  | 28 => .array .int
  | 29 => .array .int
  | 30 => .array .int
  | 31 => .int
  | 32 => .array .boolean
  | 33 => .array .int
  | 34 => .array .int
  | 35 => .array .int
  | 36 => .array .int
  | 37 => .int
  | 38 => .array .int
  | 39 => .array .int
  | 40 => .array .int
  | 41 => .int
  | 42 => .array .int
  | 43 => .array .int
  | 44 => .boolean
  | 45 => .array .int
  | 46 => .array .int
  | 47 => .int
  | 48 => .boolean
  | 49 => .array .int
  | 50 => .array .boolean
  | 51 => .int
  | 52 => .array .int
  | 53 => .array .int
  | 54 => .array .boolean
  | 55 => .array .int
  | 56 => .array .int
  | 57 => .array .int
  | 58 => .array .int
  | 59 => .int
  | 60 => .array .int
  | 61 => .array .int
  | 62 => .array .boolean
  | _ => .array .int
abbrev wsX100 : List Cond := u_ws RX10 TX10 64
theorem nmX10 : ∀ a, a < 64 → ∀ b, b < 64 → a ≠ b → (TX10 a).2.1 ≠ (TX10 b).2.1 := by decide +kernel
theorem tyX10_ok : ∀ k, k < 64 → parseFieldDescriptor (TX10 k).2.2.1 = some (tyX10 k) := by decide +kernel
abbrev vwCl : List vw_C := [(RX0, TX0, 6), (RX1, TX1, 6), (RX2, TX2, 11), (RX3, TX3, 3), (RX4, TX4, 9), (RX5, TX5, 8), (RX6, TX6, 4), (RX7, TX7, 3), (RX8, TX8, 2), (RX9, TX9, 17), (RX10, TX10, 64)]
