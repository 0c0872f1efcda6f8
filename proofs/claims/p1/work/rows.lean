section
-- ===== PART A: goes FIRST, ahead of the names: the tables' words, and 'selects' of the private methods out of them =====
/-- a private method of a class that the tables say can be made, by its rows of tables_1 -/
def lw_okq (q : MethodName × Nat) : Prop := (q.1.cls ≠ "java/lang/invoke/MethodHandle" ∧ q.1.cls ≠ "java/lang/invoke/VarHandle") ∧ Cond.instantiable q.1.cls q.2 ∈ tables_1 ∧ Cond.privateMethod q.1 ∈ tables_1 ∧ Cond.instanceMethod q.1 ∈ tables_1
theorem lw_p0 : lw_okq (⟨"HeardNext", "addBytes", "(I)V"⟩, 17) := ⟨⟨by decide +kernel, by decide +kernel⟩, List.mem_of_getElem? (i := 22) (by decide +kernel), List.mem_of_getElem? (i := 376) (by decide +kernel), List.mem_of_getElem? (i := 377) (by decide +kernel)⟩
theorem lw_p1 : lw_okq (⟨"HeardNext$Tokens", "cutOne", "([BII)I"⟩, 4) := ⟨⟨by decide +kernel, by decide +kernel⟩, List.mem_of_getElem? (i := 110) (by decide +kernel), List.mem_of_getElem? (i := 400) (by decide +kernel), List.mem_of_getElem? (i := 401) (by decide +kernel)⟩
theorem lw_p2 : lw_okq (⟨"HeardNext$Tokens", "cutWord", "([BII)I"⟩, 4) := ⟨⟨by decide +kernel, by decide +kernel⟩, List.mem_of_getElem? (i := 110) (by decide +kernel), List.mem_of_getElem? (i := 404) (by decide +kernel), List.mem_of_getElem? (i := 405) (by decide +kernel)⟩
theorem lw_p3 : lw_okq (⟨"HeardNext$Tokens", "cutInt", "([BII)I"⟩, 4) := ⟨⟨by decide +kernel, by decide +kernel⟩, List.mem_of_getElem? (i := 110) (by decide +kernel), List.mem_of_getElem? (i := 460) (by decide +kernel), List.mem_of_getElem? (i := 461) (by decide +kernel)⟩
theorem lw_p4 : lw_okq (⟨"HeardNext$Reader", "kind", "()I"⟩, 9) := ⟨⟨by decide +kernel, by decide +kernel⟩, List.mem_of_getElem? (i := 104) (by decide +kernel), List.mem_of_getElem? (i := 526) (by decide +kernel), List.mem_of_getElem? (i := 527) (by decide +kernel)⟩
theorem lw_p5 : lw_okq (⟨"HeardNext$Reader", "readHouse", "()Z"⟩, 9) := ⟨⟨by decide +kernel, by decide +kernel⟩, List.mem_of_getElem? (i := 104) (by decide +kernel), List.mem_of_getElem? (i := 530) (by decide +kernel), List.mem_of_getElem? (i := 531) (by decide +kernel)⟩
theorem lw_p6 : lw_okq (⟨"HeardNext$Reader", "stop", "(I)Z"⟩, 9) := ⟨⟨by decide +kernel, by decide +kernel⟩, List.mem_of_getElem? (i := 104) (by decide +kernel), List.mem_of_getElem? (i := 534) (by decide +kernel), List.mem_of_getElem? (i := 535) (by decide +kernel)⟩
theorem lw_p7 : lw_okq (⟨"HeardNext$Reader", "step", "()Z"⟩, 9) := ⟨⟨by decide +kernel, by decide +kernel⟩, List.mem_of_getElem? (i := 104) (by decide +kernel), List.mem_of_getElem? (i := 538) (by decide +kernel), List.mem_of_getElem? (i := 539) (by decide +kernel)⟩
theorem lw_p8 : lw_okq (⟨"HeardNext$Reader", "takeName", "()Z"⟩, 9) := ⟨⟨by decide +kernel, by decide +kernel⟩, List.mem_of_getElem? (i := 104) (by decide +kernel), List.mem_of_getElem? (i := 542) (by decide +kernel), List.mem_of_getElem? (i := 543) (by decide +kernel)⟩
theorem lw_p9 : lw_okq (⟨"HeardNext$Reader", "noteLate", "(I)V"⟩, 9) := ⟨⟨by decide +kernel, by decide +kernel⟩, List.mem_of_getElem? (i := 104) (by decide +kernel), List.mem_of_getElem? (i := 546) (by decide +kernel), List.mem_of_getElem? (i := 547) (by decide +kernel)⟩
theorem lw_p10 : lw_okq (⟨"HeardNext$Reader", "takeNumber", "(II)Z"⟩, 9) := ⟨⟨by decide +kernel, by decide +kernel⟩, List.mem_of_getElem? (i := 104) (by decide +kernel), List.mem_of_getElem? (i := 550) (by decide +kernel), List.mem_of_getElem? (i := 551) (by decide +kernel)⟩
theorem lw_p11 : lw_okq (⟨"HeardNext$Reader", "take", "(I)Z"⟩, 9) := ⟨⟨by decide +kernel, by decide +kernel⟩, List.mem_of_getElem? (i := 104) (by decide +kernel), List.mem_of_getElem? (i := 557) (by decide +kernel), List.mem_of_getElem? (i := 558) (by decide +kernel)⟩
theorem lw_p12 : lw_okq (⟨"HeardNext$Reader", "readSend", "()Z"⟩, 9) := ⟨⟨by decide +kernel, by decide +kernel⟩, List.mem_of_getElem? (i := 104) (by decide +kernel), List.mem_of_getElem? (i := 565) (by decide +kernel), List.mem_of_getElem? (i := 566) (by decide +kernel)⟩
theorem lw_p13 : lw_okq (⟨"HeardNext$Reader", "readLaw", "(I)Z"⟩, 9) := ⟨⟨by decide +kernel, by decide +kernel⟩, List.mem_of_getElem? (i := 104) (by decide +kernel), List.mem_of_getElem? (i := 574) (by decide +kernel), List.mem_of_getElem? (i := 575) (by decide +kernel)⟩
theorem lw_p14 : lw_okq (⟨"HeardNext$Reader", "readSum", "(I)Z"⟩, 9) := ⟨⟨by decide +kernel, by decide +kernel⟩, List.mem_of_getElem? (i := 104) (by decide +kernel), List.mem_of_getElem? (i := 582) (by decide +kernel), List.mem_of_getElem? (i := 583) (by decide +kernel)⟩
theorem lw_p15 : lw_okq (⟨"HeardNext$Reader", "readProduct", "(I)Z"⟩, 9) := ⟨⟨by decide +kernel, by decide +kernel⟩, List.mem_of_getElem? (i := 104) (by decide +kernel), List.mem_of_getElem? (i := 586) (by decide +kernel), List.mem_of_getElem? (i := 587) (by decide +kernel)⟩
def lw_privs_1 : List (MethodName × Nat) := [(⟨"HeardNext", "addBytes", "(I)V"⟩, 17), (⟨"HeardNext$Tokens", "cutOne", "([BII)I"⟩, 4), (⟨"HeardNext$Tokens", "cutWord", "([BII)I"⟩, 4), (⟨"HeardNext$Tokens", "cutInt", "([BII)I"⟩, 4), (⟨"HeardNext$Reader", "kind", "()I"⟩, 9), (⟨"HeardNext$Reader", "readHouse", "()Z"⟩, 9), (⟨"HeardNext$Reader", "stop", "(I)Z"⟩, 9), (⟨"HeardNext$Reader", "step", "()Z"⟩, 9), (⟨"HeardNext$Reader", "takeName", "()Z"⟩, 9), (⟨"HeardNext$Reader", "noteLate", "(I)V"⟩, 9), (⟨"HeardNext$Reader", "takeNumber", "(II)Z"⟩, 9), (⟨"HeardNext$Reader", "take", "(I)Z"⟩, 9), (⟨"HeardNext$Reader", "readSend", "()Z"⟩, 9), (⟨"HeardNext$Reader", "readLaw", "(I)Z"⟩, 9), (⟨"HeardNext$Reader", "readSum", "(I)Z"⟩, 9), (⟨"HeardNext$Reader", "readProduct", "(I)Z"⟩, 9)]
theorem lw_r1 : ∀ q ∈ lw_privs_1, lw_okq q := List.forall_mem_cons.mpr ⟨lw_p0, List.forall_mem_cons.mpr ⟨lw_p1, List.forall_mem_cons.mpr ⟨lw_p2, List.forall_mem_cons.mpr ⟨lw_p3, List.forall_mem_cons.mpr ⟨lw_p4, List.forall_mem_cons.mpr ⟨lw_p5, List.forall_mem_cons.mpr ⟨lw_p6, List.forall_mem_cons.mpr ⟨lw_p7, List.forall_mem_cons.mpr ⟨lw_p8, List.forall_mem_cons.mpr ⟨lw_p9, List.forall_mem_cons.mpr ⟨lw_p10, List.forall_mem_cons.mpr ⟨lw_p11, List.forall_mem_cons.mpr ⟨lw_p12, List.forall_mem_cons.mpr ⟨lw_p13, List.forall_mem_cons.mpr ⟨lw_p14, List.forall_mem_cons.mpr ⟨lw_p15, fun _ h => absurd h List.not_mem_nil⟩⟩⟩⟩⟩⟩⟩⟩⟩⟩⟩⟩⟩⟩⟩⟩
theorem lw_p16 : lw_okq (⟨"HeardNext$Reader", "readUnit", "(I)Z"⟩, 9) := ⟨⟨by decide +kernel, by decide +kernel⟩, List.mem_of_getElem? (i := 104) (by decide +kernel), List.mem_of_getElem? (i := 590) (by decide +kernel), List.mem_of_getElem? (i := 591) (by decide +kernel)⟩
theorem lw_p17 : lw_okq (⟨"HeardNext$Reader", "readGrief", "()Z"⟩, 9) := ⟨⟨by decide +kernel, by decide +kernel⟩, List.mem_of_getElem? (i := 104) (by decide +kernel), List.mem_of_getElem? (i := 600) (by decide +kernel), List.mem_of_getElem? (i := 601) (by decide +kernel)⟩
theorem lw_p18 : lw_okq (⟨"HeardNext$Reader", "readSeed", "()Z"⟩, 9) := ⟨⟨by decide +kernel, by decide +kernel⟩, List.mem_of_getElem? (i := 104) (by decide +kernel), List.mem_of_getElem? (i := 604) (by decide +kernel), List.mem_of_getElem? (i := 605) (by decide +kernel)⟩
theorem lw_p19 : lw_okq (⟨"HeardNext", "beginAnew", "()V"⟩, 17) := ⟨⟨by decide +kernel, by decide +kernel⟩, List.mem_of_getElem? (i := 22) (by decide +kernel), List.mem_of_getElem? (i := 608) (by decide +kernel), List.mem_of_getElem? (i := 609) (by decide +kernel)⟩
theorem lw_p20 : lw_okq (⟨"HeardNext", "isHouse", "(I)Z"⟩, 17) := ⟨⟨by decide +kernel, by decide +kernel⟩, List.mem_of_getElem? (i := 22) (by decide +kernel), List.mem_of_getElem? (i := 620) (by decide +kernel), List.mem_of_getElem? (i := 621) (by decide +kernel)⟩
theorem lw_p21 : lw_okq (⟨"HeardNext", "lawNow", "(II)I"⟩, 17) := ⟨⟨by decide +kernel, by decide +kernel⟩, List.mem_of_getElem? (i := 22) (by decide +kernel), List.mem_of_getElem? (i := 628) (by decide +kernel), List.mem_of_getElem? (i := 629) (by decide +kernel)⟩
theorem lw_p22 : lw_okq (⟨"HeardNext$Air", "keeping", "(II)I"⟩, 6) := ⟨⟨by decide +kernel, by decide +kernel⟩, List.mem_of_getElem? (i := 237) (by decide +kernel), List.mem_of_getElem? (i := 673) (by decide +kernel), List.mem_of_getElem? (i := 674) (by decide +kernel)⟩
theorem lw_p23 : lw_okq (⟨"HeardNext", "beforeDoing", "()V"⟩, 17) := ⟨⟨by decide +kernel, by decide +kernel⟩, List.mem_of_getElem? (i := 22) (by decide +kernel), List.mem_of_getElem? (i := 687) (by decide +kernel), List.mem_of_getElem? (i := 688) (by decide +kernel)⟩
theorem lw_p24 : lw_okq (⟨"HeardNext", "comingTo", "(I)[I"⟩, 17) := ⟨⟨by decide +kernel, by decide +kernel⟩, List.mem_of_getElem? (i := 22) (by decide +kernel), List.mem_of_getElem? (i := 769) (by decide +kernel), List.mem_of_getElem? (i := 770) (by decide +kernel)⟩
theorem lw_p25 : lw_okq (⟨"HeardNext$Ways", "fill", "(ILHeardNext$Terrace;LHeardNext$Life;LHeardNext$Air;)V"⟩, 2) := ⟨⟨by decide +kernel, by decide +kernel⟩, List.mem_of_getElem? (i := 262) (by decide +kernel), List.mem_of_getElem? (i := 777) (by decide +kernel), List.mem_of_getElem? (i := 778) (by decide +kernel)⟩
theorem lw_p26 : lw_okq (⟨"HeardNext", "takeCode", "([II)I"⟩, 17) := ⟨⟨by decide +kernel, by decide +kernel⟩, List.mem_of_getElem? (i := 22) (by decide +kernel), List.mem_of_getElem? (i := 806) (by decide +kernel), List.mem_of_getElem? (i := 807) (by decide +kernel)⟩
theorem lw_p27 : lw_okq (⟨"HeardNext", "chooseTimes", "(I)I"⟩, 17) := ⟨⟨by decide +kernel, by decide +kernel⟩, List.mem_of_getElem? (i := 22) (by decide +kernel), List.mem_of_getElem? (i := 834) (by decide +kernel), List.mem_of_getElem? (i := 835) (by decide +kernel)⟩
theorem lw_p28 : lw_okq (⟨"HeardNext", "allComing", "(II)I"⟩, 17) := ⟨⟨by decide +kernel, by decide +kernel⟩, List.mem_of_getElem? (i := 22) (by decide +kernel), List.mem_of_getElem? (i := 842) (by decide +kernel), List.mem_of_getElem? (i := 843) (by decide +kernel)⟩
theorem lw_p29 : lw_okq (⟨"HeardNext", "chooseSoMany", "(II)Z"⟩, 17) := ⟨⟨by decide +kernel, by decide +kernel⟩, List.mem_of_getElem? (i := 22) (by decide +kernel), List.mem_of_getElem? (i := 847) (by decide +kernel), List.mem_of_getElem? (i := 848) (by decide +kernel)⟩
theorem lw_p30 : lw_okq (⟨"HeardNext", "addUpHeard", "(I)V"⟩, 17) := ⟨⟨by decide +kernel, by decide +kernel⟩, List.mem_of_getElem? (i := 22) (by decide +kernel), List.mem_of_getElem? (i := 863) (by decide +kernel), List.mem_of_getElem? (i := 864) (by decide +kernel)⟩
theorem lw_p31 : lw_okq (⟨"HeardNext", "dreamOn", "(IZI)V"⟩, 17) := ⟨⟨by decide +kernel, by decide +kernel⟩, List.mem_of_getElem? (i := 22) (by decide +kernel), List.mem_of_getElem? (i := 872) (by decide +kernel), List.mem_of_getElem? (i := 873) (by decide +kernel)⟩
def lw_privs_2 : List (MethodName × Nat) := [(⟨"HeardNext$Reader", "readUnit", "(I)Z"⟩, 9), (⟨"HeardNext$Reader", "readGrief", "()Z"⟩, 9), (⟨"HeardNext$Reader", "readSeed", "()Z"⟩, 9), (⟨"HeardNext", "beginAnew", "()V"⟩, 17), (⟨"HeardNext", "isHouse", "(I)Z"⟩, 17), (⟨"HeardNext", "lawNow", "(II)I"⟩, 17), (⟨"HeardNext$Air", "keeping", "(II)I"⟩, 6), (⟨"HeardNext", "beforeDoing", "()V"⟩, 17), (⟨"HeardNext", "comingTo", "(I)[I"⟩, 17), (⟨"HeardNext$Ways", "fill", "(ILHeardNext$Terrace;LHeardNext$Life;LHeardNext$Air;)V"⟩, 2), (⟨"HeardNext", "takeCode", "([II)I"⟩, 17), (⟨"HeardNext", "chooseTimes", "(I)I"⟩, 17), (⟨"HeardNext", "allComing", "(II)I"⟩, 17), (⟨"HeardNext", "chooseSoMany", "(II)Z"⟩, 17), (⟨"HeardNext", "addUpHeard", "(I)V"⟩, 17), (⟨"HeardNext", "dreamOn", "(IZI)V"⟩, 17)]
theorem lw_r2 : ∀ q ∈ lw_privs_2, lw_okq q := List.forall_mem_cons.mpr ⟨lw_p16, List.forall_mem_cons.mpr ⟨lw_p17, List.forall_mem_cons.mpr ⟨lw_p18, List.forall_mem_cons.mpr ⟨lw_p19, List.forall_mem_cons.mpr ⟨lw_p20, List.forall_mem_cons.mpr ⟨lw_p21, List.forall_mem_cons.mpr ⟨lw_p22, List.forall_mem_cons.mpr ⟨lw_p23, List.forall_mem_cons.mpr ⟨lw_p24, List.forall_mem_cons.mpr ⟨lw_p25, List.forall_mem_cons.mpr ⟨lw_p26, List.forall_mem_cons.mpr ⟨lw_p27, List.forall_mem_cons.mpr ⟨lw_p28, List.forall_mem_cons.mpr ⟨lw_p29, List.forall_mem_cons.mpr ⟨lw_p30, List.forall_mem_cons.mpr ⟨lw_p31, fun _ h => absurd h List.not_mem_nil⟩⟩⟩⟩⟩⟩⟩⟩⟩⟩⟩⟩⟩⟩⟩⟩
theorem lw_p32 : lw_okq (⟨"HeardNext", "contentBehindChange", "(II)I"⟩, 17) := ⟨⟨by decide +kernel, by decide +kernel⟩, List.mem_of_getElem? (i := 22) (by decide +kernel), List.mem_of_getElem? (i := 921) (by decide +kernel), List.mem_of_getElem? (i := 922) (by decide +kernel)⟩
theorem lw_p33 : lw_okq (⟨"HeardNext", "takeLeft", "(I)I"⟩, 17) := ⟨⟨by decide +kernel, by decide +kernel⟩, List.mem_of_getElem? (i := 22) (by decide +kernel), List.mem_of_getElem? (i := 949) (by decide +kernel), List.mem_of_getElem? (i := 950) (by decide +kernel)⟩
theorem lw_p34 : lw_okq (⟨"HeardNext", "mostAlike", "([II)I"⟩, 17) := ⟨⟨by decide +kernel, by decide +kernel⟩, List.mem_of_getElem? (i := 22) (by decide +kernel), List.mem_of_getElem? (i := 957) (by decide +kernel), List.mem_of_getElem? (i := 958) (by decide +kernel)⟩
theorem lw_p35 : lw_okq (⟨"HeardNext", "partsOf", "([I)I"⟩, 17) := ⟨⟨by decide +kernel, by decide +kernel⟩, List.mem_of_getElem? (i := 22) (by decide +kernel), List.mem_of_getElem? (i := 975) (by decide +kernel), List.mem_of_getElem? (i := 976) (by decide +kernel)⟩
theorem lw_p36 : lw_okq (⟨"HeardNextModel", "plain", "(I)V"⟩, 64) := ⟨⟨by decide +kernel, by decide +kernel⟩, List.mem_of_getElem? (i := 983) (by decide +kernel), List.mem_of_getElem? (i := 989) (by decide +kernel), List.mem_of_getElem? (i := 990) (by decide +kernel)⟩
theorem lw_p37 : lw_okq (⟨"HeardNextModel", "begins", "()V"⟩, 64) := ⟨⟨by decide +kernel, by decide +kernel⟩, List.mem_of_getElem? (i := 983) (by decide +kernel), List.mem_of_getElem? (i := 1000) (by decide +kernel), List.mem_of_getElem? (i := 1001) (by decide +kernel)⟩
theorem lw_p38 : lw_okq (⟨"HeardNextModel", "keepsRow", "()V"⟩, 64) := ⟨⟨by decide +kernel, by decide +kernel⟩, List.mem_of_getElem? (i := 983) (by decide +kernel), List.mem_of_getElem? (i := 1004) (by decide +kernel), List.mem_of_getElem? (i := 1005) (by decide +kernel)⟩
theorem lw_p39 : lw_okq (⟨"HeardNextModel", "put", "(I)V"⟩, 64) := ⟨⟨by decide +kernel, by decide +kernel⟩, List.mem_of_getElem? (i := 983) (by decide +kernel), List.mem_of_getElem? (i := 1205) (by decide +kernel), List.mem_of_getElem? (i := 1206) (by decide +kernel)⟩
theorem lw_p40 : lw_okq (⟨"HeardNextModel", "cut", "()V"⟩, 64) := ⟨⟨by decide +kernel, by decide +kernel⟩, List.mem_of_getElem? (i := 983) (by decide +kernel), List.mem_of_getElem? (i := 1217) (by decide +kernel), List.mem_of_getElem? (i := 1218) (by decide +kernel)⟩
theorem lw_p41 : lw_okq (⟨"HeardNextModel", "byteAt", "(I)I"⟩, 64) := ⟨⟨by decide +kernel, by decide +kernel⟩, List.mem_of_getElem? (i := 983) (by decide +kernel), List.mem_of_getElem? (i := 1221) (by decide +kernel), List.mem_of_getElem? (i := 1222) (by decide +kernel)⟩
theorem lw_p42 : lw_okq (⟨"HeardNextModel", "token", "(IIIJ)V"⟩, 64) := ⟨⟨by decide +kernel, by decide +kernel⟩, List.mem_of_getElem? (i := 983) (by decide +kernel), List.mem_of_getElem? (i := 1225) (by decide +kernel), List.mem_of_getElem? (i := 1226) (by decide +kernel)⟩
theorem lw_p43 : lw_okq (⟨"HeardNextModel", "sign", "(III)I"⟩, 64) := ⟨⟨by decide +kernel, by decide +kernel⟩, List.mem_of_getElem? (i := 983) (by decide +kernel), List.mem_of_getElem? (i := 1235) (by decide +kernel), List.mem_of_getElem? (i := 1236) (by decide +kernel)⟩
theorem lw_p44 : lw_okq (⟨"HeardNextModel", "is", "(I)Z"⟩, 64) := ⟨⟨by decide +kernel, by decide +kernel⟩, List.mem_of_getElem? (i := 983) (by decide +kernel), List.mem_of_getElem? (i := 1239) (by decide +kernel), List.mem_of_getElem? (i := 1240) (by decide +kernel)⟩
theorem lw_p45 : lw_okq (⟨"HeardNextModel", "tellOne", "()V"⟩, 64) := ⟨⟨by decide +kernel, by decide +kernel⟩, List.mem_of_getElem? (i := 983) (by decide +kernel), List.mem_of_getElem? (i := 1243) (by decide +kernel), List.mem_of_getElem? (i := 1244) (by decide +kernel)⟩
theorem lw_p46 : lw_okq (⟨"HeardNextModel", "roomFor", "(II)V"⟩, 64) := ⟨⟨by decide +kernel, by decide +kernel⟩, List.mem_of_getElem? (i := 983) (by decide +kernel), List.mem_of_getElem? (i := 1247) (by decide +kernel), List.mem_of_getElem? (i := 1248) (by decide +kernel)⟩
theorem lw_p47 : lw_okq (⟨"HeardNextModel", "fail", "(I)V"⟩, 64) := ⟨⟨by decide +kernel, by decide +kernel⟩, List.mem_of_getElem? (i := 983) (by decide +kernel), List.mem_of_getElem? (i := 1251) (by decide +kernel), List.mem_of_getElem? (i := 1252) (by decide +kernel)⟩
def lw_privs_3 : List (MethodName × Nat) := [(⟨"HeardNext", "contentBehindChange", "(II)I"⟩, 17), (⟨"HeardNext", "takeLeft", "(I)I"⟩, 17), (⟨"HeardNext", "mostAlike", "([II)I"⟩, 17), (⟨"HeardNext", "partsOf", "([I)I"⟩, 17), (⟨"HeardNextModel", "plain", "(I)V"⟩, 64), (⟨"HeardNextModel", "begins", "()V"⟩, 64), (⟨"HeardNextModel", "keepsRow", "()V"⟩, 64), (⟨"HeardNextModel", "put", "(I)V"⟩, 64), (⟨"HeardNextModel", "cut", "()V"⟩, 64), (⟨"HeardNextModel", "byteAt", "(I)I"⟩, 64), (⟨"HeardNextModel", "token", "(IIIJ)V"⟩, 64), (⟨"HeardNextModel", "sign", "(III)I"⟩, 64), (⟨"HeardNextModel", "is", "(I)Z"⟩, 64), (⟨"HeardNextModel", "tellOne", "()V"⟩, 64), (⟨"HeardNextModel", "roomFor", "(II)V"⟩, 64), (⟨"HeardNextModel", "fail", "(I)V"⟩, 64)]
theorem lw_r3 : ∀ q ∈ lw_privs_3, lw_okq q := List.forall_mem_cons.mpr ⟨lw_p32, List.forall_mem_cons.mpr ⟨lw_p33, List.forall_mem_cons.mpr ⟨lw_p34, List.forall_mem_cons.mpr ⟨lw_p35, List.forall_mem_cons.mpr ⟨lw_p36, List.forall_mem_cons.mpr ⟨lw_p37, List.forall_mem_cons.mpr ⟨lw_p38, List.forall_mem_cons.mpr ⟨lw_p39, List.forall_mem_cons.mpr ⟨lw_p40, List.forall_mem_cons.mpr ⟨lw_p41, List.forall_mem_cons.mpr ⟨lw_p42, List.forall_mem_cons.mpr ⟨lw_p43, List.forall_mem_cons.mpr ⟨lw_p44, List.forall_mem_cons.mpr ⟨lw_p45, List.forall_mem_cons.mpr ⟨lw_p46, List.forall_mem_cons.mpr ⟨lw_p47, fun _ h => absurd h List.not_mem_nil⟩⟩⟩⟩⟩⟩⟩⟩⟩⟩⟩⟩⟩⟩⟩⟩
theorem lw_p48 : lw_okq (⟨"HeardNextModel", "goesOn", "()V"⟩, 64) := ⟨⟨by decide +kernel, by decide +kernel⟩, List.mem_of_getElem? (i := 983) (by decide +kernel), List.mem_of_getElem? (i := 1255) (by decide +kernel), List.mem_of_getElem? (i := 1256) (by decide +kernel)⟩
theorem lw_p49 : lw_okq (⟨"HeardNextModel", "tellHouse", "()V"⟩, 64) := ⟨⟨by decide +kernel, by decide +kernel⟩, List.mem_of_getElem? (i := 983) (by decide +kernel), List.mem_of_getElem? (i := 1259) (by decide +kernel), List.mem_of_getElem? (i := 1260) (by decide +kernel)⟩
theorem lw_p50 : lw_okq (⟨"HeardNextModel", "must", "(I)V"⟩, 64) := ⟨⟨by decide +kernel, by decide +kernel⟩, List.mem_of_getElem? (i := 983) (by decide +kernel), List.mem_of_getElem? (i := 1263) (by decide +kernel), List.mem_of_getElem? (i := 1264) (by decide +kernel)⟩
theorem lw_p51 : lw_okq (⟨"HeardNextModel", "wrong", "(II)V"⟩, 64) := ⟨⟨by decide +kernel, by decide +kernel⟩, List.mem_of_getElem? (i := 983) (by decide +kernel), List.mem_of_getElem? (i := 1267) (by decide +kernel), List.mem_of_getElem? (i := 1268) (by decide +kernel)⟩
theorem lw_p52 : lw_okq (⟨"HeardNextModel", "bounded", "(II)I"⟩, 64) := ⟨⟨by decide +kernel, by decide +kernel⟩, List.mem_of_getElem? (i := 983) (by decide +kernel), List.mem_of_getElem? (i := 1271) (by decide +kernel), List.mem_of_getElem? (i := 1272) (by decide +kernel)⟩
theorem lw_p53 : lw_okq (⟨"HeardNextModel", "toldInt", "(II)I"⟩, 64) := ⟨⟨by decide +kernel, by decide +kernel⟩, List.mem_of_getElem? (i := 983) (by decide +kernel), List.mem_of_getElem? (i := 1275) (by decide +kernel), List.mem_of_getElem? (i := 1276) (by decide +kernel)⟩
theorem lw_p54 : lw_okq (⟨"HeardNextModel", "tellLaw", "(I)V"⟩, 64) := ⟨⟨by decide +kernel, by decide +kernel⟩, List.mem_of_getElem? (i := 983) (by decide +kernel), List.mem_of_getElem? (i := 1279) (by decide +kernel), List.mem_of_getElem? (i := 1280) (by decide +kernel)⟩
theorem lw_p55 : lw_okq (⟨"HeardNextModel", "expression", "()V"⟩, 64) := ⟨⟨by decide +kernel, by decide +kernel⟩, List.mem_of_getElem? (i := 983) (by decide +kernel), List.mem_of_getElem? (i := 1283) (by decide +kernel), List.mem_of_getElem? (i := 1284) (by decide +kernel)⟩
theorem lw_p56 : lw_okq (⟨"HeardNextModel", "unit", "()V"⟩, 64) := ⟨⟨by decide +kernel, by decide +kernel⟩, List.mem_of_getElem? (i := 983) (by decide +kernel), List.mem_of_getElem? (i := 1287) (by decide +kernel), List.mem_of_getElem? (i := 1288) (by decide +kernel)⟩
theorem lw_p57 : lw_okq (⟨"HeardNextModel", "emit", "(II)V"⟩, 64) := ⟨⟨by decide +kernel, by decide +kernel⟩, List.mem_of_getElem? (i := 983) (by decide +kernel), List.mem_of_getElem? (i := 1291) (by decide +kernel), List.mem_of_getElem? (i := 1292) (by decide +kernel)⟩
theorem lw_p58 : lw_okq (⟨"HeardNextModel", "comesOut", "(Z)V"⟩, 64) := ⟨⟨by decide +kernel, by decide +kernel⟩, List.mem_of_getElem? (i := 983) (by decide +kernel), List.mem_of_getElem? (i := 1295) (by decide +kernel), List.mem_of_getElem? (i := 1296) (by decide +kernel)⟩
theorem lw_p59 : lw_okq (⟨"HeardNextModel", "term", "()V"⟩, 64) := ⟨⟨by decide +kernel, by decide +kernel⟩, List.mem_of_getElem? (i := 983) (by decide +kernel), List.mem_of_getElem? (i := 1299) (by decide +kernel), List.mem_of_getElem? (i := 1300) (by decide +kernel)⟩
theorem lw_p60 : lw_okq (⟨"HeardNextModel", "isHouse", "(I)Z"⟩, 64) := ⟨⟨by decide +kernel, by decide +kernel⟩, List.mem_of_getElem? (i := 983) (by decide +kernel), List.mem_of_getElem? (i := 1311) (by decide +kernel), List.mem_of_getElem? (i := 1312) (by decide +kernel)⟩
theorem lw_p61 : lw_okq (⟨"HeardNextModel", "copies", "()V"⟩, 64) := ⟨⟨by decide +kernel, by decide +kernel⟩, List.mem_of_getElem? (i := 983) (by decide +kernel), List.mem_of_getElem? (i := 1318) (by decide +kernel), List.mem_of_getElem? (i := 1319) (by decide +kernel)⟩
theorem lw_p62 : lw_okq (⟨"HeardNextModel", "turnsOf", "(III)I"⟩, 64) := ⟨⟨by decide +kernel, by decide +kernel⟩, List.mem_of_getElem? (i := 983) (by decide +kernel), List.mem_of_getElem? (i := 1325) (by decide +kernel), List.mem_of_getElem? (i := 1326) (by decide +kernel)⟩
theorem lw_p63 : lw_okq (⟨"HeardNextModel", "looks", "(IIII)V"⟩, 64) := ⟨⟨by decide +kernel, by decide +kernel⟩, List.mem_of_getElem? (i := 983) (by decide +kernel), List.mem_of_getElem? (i := 1329) (by decide +kernel), List.mem_of_getElem? (i := 1330) (by decide +kernel)⟩
def lw_privs_4 : List (MethodName × Nat) := [(⟨"HeardNextModel", "goesOn", "()V"⟩, 64), (⟨"HeardNextModel", "tellHouse", "()V"⟩, 64), (⟨"HeardNextModel", "must", "(I)V"⟩, 64), (⟨"HeardNextModel", "wrong", "(II)V"⟩, 64), (⟨"HeardNextModel", "bounded", "(II)I"⟩, 64), (⟨"HeardNextModel", "toldInt", "(II)I"⟩, 64), (⟨"HeardNextModel", "tellLaw", "(I)V"⟩, 64), (⟨"HeardNextModel", "expression", "()V"⟩, 64), (⟨"HeardNextModel", "unit", "()V"⟩, 64), (⟨"HeardNextModel", "emit", "(II)V"⟩, 64), (⟨"HeardNextModel", "comesOut", "(Z)V"⟩, 64), (⟨"HeardNextModel", "term", "()V"⟩, 64), (⟨"HeardNextModel", "isHouse", "(I)Z"⟩, 64), (⟨"HeardNextModel", "copies", "()V"⟩, 64), (⟨"HeardNextModel", "turnsOf", "(III)I"⟩, 64), (⟨"HeardNextModel", "looks", "(IIII)V"⟩, 64)]
theorem lw_r4 : ∀ q ∈ lw_privs_4, lw_okq q := List.forall_mem_cons.mpr ⟨lw_p48, List.forall_mem_cons.mpr ⟨lw_p49, List.forall_mem_cons.mpr ⟨lw_p50, List.forall_mem_cons.mpr ⟨lw_p51, List.forall_mem_cons.mpr ⟨lw_p52, List.forall_mem_cons.mpr ⟨lw_p53, List.forall_mem_cons.mpr ⟨lw_p54, List.forall_mem_cons.mpr ⟨lw_p55, List.forall_mem_cons.mpr ⟨lw_p56, List.forall_mem_cons.mpr ⟨lw_p57, List.forall_mem_cons.mpr ⟨lw_p58, List.forall_mem_cons.mpr ⟨lw_p59, List.forall_mem_cons.mpr ⟨lw_p60, List.forall_mem_cons.mpr ⟨lw_p61, List.forall_mem_cons.mpr ⟨lw_p62, List.forall_mem_cons.mpr ⟨lw_p63, fun _ h => absurd h List.not_mem_nil⟩⟩⟩⟩⟩⟩⟩⟩⟩⟩⟩⟩⟩⟩⟩⟩
theorem lw_p64 : lw_okq (⟨"HeardNextModel", "lawTells", "(II)I"⟩, 64) := ⟨⟨by decide +kernel, by decide +kernel⟩, List.mem_of_getElem? (i := 983) (by decide +kernel), List.mem_of_getElem? (i := 1333) (by decide +kernel), List.mem_of_getElem? (i := 1334) (by decide +kernel)⟩
theorem lw_p65 : lw_okq (⟨"HeardNextModel", "termOf", "(II)I"⟩, 64) := ⟨⟨by decide +kernel, by decide +kernel⟩, List.mem_of_getElem? (i := 983) (by decide +kernel), List.mem_of_getElem? (i := 1337) (by decide +kernel), List.mem_of_getElem? (i := 1338) (by decide +kernel)⟩
theorem lw_p66 : lw_okq (⟨"HeardNextModel", "humsOf", "(II)I"⟩, 64) := ⟨⟨by decide +kernel, by decide +kernel⟩, List.mem_of_getElem? (i := 983) (by decide +kernel), List.mem_of_getElem? (i := 1344) (by decide +kernel), List.mem_of_getElem? (i := 1345) (by decide +kernel)⟩
theorem lw_p67 : lw_okq (⟨"HeardNextModel", "diesOf", "(I)I"⟩, 64) := ⟨⟨by decide +kernel, by decide +kernel⟩, List.mem_of_getElem? (i := 983) (by decide +kernel), List.mem_of_getElem? (i := 1348) (by decide +kernel), List.mem_of_getElem? (i := 1349) (by decide +kernel)⟩
theorem lw_p68 : lw_okq (⟨"HeardNextModel", "passes", "(III)I"⟩, 64) := ⟨⟨by decide +kernel, by decide +kernel⟩, List.mem_of_getElem? (i := 983) (by decide +kernel), List.mem_of_getElem? (i := 1359) (by decide +kernel), List.mem_of_getElem? (i := 1360) (by decide +kernel)⟩
theorem lw_p69 : lw_okq (⟨"HeardNextModel", "isKept", "(IIII)Z"⟩, 64) := ⟨⟨by decide +kernel, by decide +kernel⟩, List.mem_of_getElem? (i := 983) (by decide +kernel), List.mem_of_getElem? (i := 1363) (by decide +kernel), List.mem_of_getElem? (i := 1364) (by decide +kernel)⟩
theorem lw_p70 : lw_okq (⟨"HeardNextModel", "records", "()V"⟩, 64) := ⟨⟨by decide +kernel, by decide +kernel⟩, List.mem_of_getElem? (i := 983) (by decide +kernel), List.mem_of_getElem? (i := 1371) (by decide +kernel), List.mem_of_getElem? (i := 1372) (by decide +kernel)⟩
theorem lw_p71 : lw_okq (⟨"HeardNextModel", "changes", "(II)V"⟩, 64) := ⟨⟨by decide +kernel, by decide +kernel⟩, List.mem_of_getElem? (i := 983) (by decide +kernel), List.mem_of_getElem? (i := 1387) (by decide +kernel), List.mem_of_getElem? (i := 1388) (by decide +kernel)⟩
theorem lw_p72 : lw_okq (⟨"HeardNextModel", "goes", "(I)V"⟩, 64) := ⟨⟨by decide +kernel, by decide +kernel⟩, List.mem_of_getElem? (i := 983) (by decide +kernel), List.mem_of_getElem? (i := 1398) (by decide +kernel), List.mem_of_getElem? (i := 1399) (by decide +kernel)⟩
theorem lw_p73 : lw_okq (⟨"HeardNextModel", "hourGoes", "()V"⟩, 64) := ⟨⟨by decide +kernel, by decide +kernel⟩, List.mem_of_getElem? (i := 983) (by decide +kernel), List.mem_of_getElem? (i := 1402) (by decide +kernel), List.mem_of_getElem? (i := 1403) (by decide +kernel)⟩
theorem lw_p74 : lw_okq (⟨"HeardNextModel", "hears", "(I)Z"⟩, 64) := ⟨⟨by decide +kernel, by decide +kernel⟩, List.mem_of_getElem? (i := 983) (by decide +kernel), List.mem_of_getElem? (i := 1406) (by decide +kernel), List.mem_of_getElem? (i := 1407) (by decide +kernel)⟩
theorem lw_p75 : lw_okq (⟨"HeardNextModel", "sentNow", "()I"⟩, 64) := ⟨⟨by decide +kernel, by decide +kernel⟩, List.mem_of_getElem? (i := 983) (by decide +kernel), List.mem_of_getElem? (i := 1410) (by decide +kernel), List.mem_of_getElem? (i := 1411) (by decide +kernel)⟩
theorem lw_p76 : lw_okq (⟨"HeardNextModel", "lotOf", "(I)I"⟩, 64) := ⟨⟨by decide +kernel, by decide +kernel⟩, List.mem_of_getElem? (i := 983) (by decide +kernel), List.mem_of_getElem? (i := 1414) (by decide +kernel), List.mem_of_getElem? (i := 1415) (by decide +kernel)⟩
theorem lw_p77 : lw_okq (⟨"HeardNextModel", "comesNow", "(II)I"⟩, 64) := ⟨⟨by decide +kernel, by decide +kernel⟩, List.mem_of_getElem? (i := 983) (by decide +kernel), List.mem_of_getElem? (i := 1430) (by decide +kernel), List.mem_of_getElem? (i := 1431) (by decide +kernel)⟩
theorem lw_p78 : lw_okq (⟨"HeardNextModel", "comesAt", "(III)I"⟩, 64) := ⟨⟨by decide +kernel, by decide +kernel⟩, List.mem_of_getElem? (i := 983) (by decide +kernel), List.mem_of_getElem? (i := 1434) (by decide +kernel), List.mem_of_getElem? (i := 1435) (by decide +kernel)⟩
theorem lw_p79 : lw_okq (⟨"HeardNextModel", "breakTo", "(I)I"⟩, 64) := ⟨⟨by decide +kernel, by decide +kernel⟩, List.mem_of_getElem? (i := 983) (by decide +kernel), List.mem_of_getElem? (i := 1438) (by decide +kernel), List.mem_of_getElem? (i := 1439) (by decide +kernel)⟩
def lw_privs_5 : List (MethodName × Nat) := [(⟨"HeardNextModel", "lawTells", "(II)I"⟩, 64), (⟨"HeardNextModel", "termOf", "(II)I"⟩, 64), (⟨"HeardNextModel", "humsOf", "(II)I"⟩, 64), (⟨"HeardNextModel", "diesOf", "(I)I"⟩, 64), (⟨"HeardNextModel", "passes", "(III)I"⟩, 64), (⟨"HeardNextModel", "isKept", "(IIII)Z"⟩, 64), (⟨"HeardNextModel", "records", "()V"⟩, 64), (⟨"HeardNextModel", "changes", "(II)V"⟩, 64), (⟨"HeardNextModel", "goes", "(I)V"⟩, 64), (⟨"HeardNextModel", "hourGoes", "()V"⟩, 64), (⟨"HeardNextModel", "hears", "(I)Z"⟩, 64), (⟨"HeardNextModel", "sentNow", "()I"⟩, 64), (⟨"HeardNextModel", "lotOf", "(I)I"⟩, 64), (⟨"HeardNextModel", "comesNow", "(II)I"⟩, 64), (⟨"HeardNextModel", "comesAt", "(III)I"⟩, 64), (⟨"HeardNextModel", "breakTo", "(I)I"⟩, 64)]
theorem lw_r5 : ∀ q ∈ lw_privs_5, lw_okq q := List.forall_mem_cons.mpr ⟨lw_p64, List.forall_mem_cons.mpr ⟨lw_p65, List.forall_mem_cons.mpr ⟨lw_p66, List.forall_mem_cons.mpr ⟨lw_p67, List.forall_mem_cons.mpr ⟨lw_p68, List.forall_mem_cons.mpr ⟨lw_p69, List.forall_mem_cons.mpr ⟨lw_p70, List.forall_mem_cons.mpr ⟨lw_p71, List.forall_mem_cons.mpr ⟨lw_p72, List.forall_mem_cons.mpr ⟨lw_p73, List.forall_mem_cons.mpr ⟨lw_p74, List.forall_mem_cons.mpr ⟨lw_p75, List.forall_mem_cons.mpr ⟨lw_p76, List.forall_mem_cons.mpr ⟨lw_p77, List.forall_mem_cons.mpr ⟨lw_p78, List.forall_mem_cons.mpr ⟨lw_p79, fun _ h => absurd h List.not_mem_nil⟩⟩⟩⟩⟩⟩⟩⟩⟩⟩⟩⟩⟩⟩⟩⟩
theorem lw_p80 : lw_okq (⟨"HeardNextModel", "fillsComes", "(I)V"⟩, 64) := ⟨⟨by decide +kernel, by decide +kernel⟩, List.mem_of_getElem? (i := 983) (by decide +kernel), List.mem_of_getElem? (i := 1450) (by decide +kernel), List.mem_of_getElem? (i := 1451) (by decide +kernel)⟩
theorem lw_p81 : lw_okq (⟨"HeardNextModel", "fillsAll", "(I)V"⟩, 64) := ⟨⟨by decide +kernel, by decide +kernel⟩, List.mem_of_getElem? (i := 983) (by decide +kernel), List.mem_of_getElem? (i := 1486) (by decide +kernel), List.mem_of_getElem? (i := 1487) (by decide +kernel)⟩
theorem lw_p82 : lw_okq (⟨"HeardNextModel", "findsTimes", "(I)I"⟩, 64) := ⟨⟨by decide +kernel, by decide +kernel⟩, List.mem_of_getElem? (i := 983) (by decide +kernel), List.mem_of_getElem? (i := 1490) (by decide +kernel), List.mem_of_getElem? (i := 1491) (by decide +kernel)⟩
theorem lw_p83 : lw_okq (⟨"HeardNextModel", "copiesStill", "()V"⟩, 64) := ⟨⟨by decide +kernel, by decide +kernel⟩, List.mem_of_getElem? (i := 983) (by decide +kernel), List.mem_of_getElem? (i := 1509) (by decide +kernel), List.mem_of_getElem? (i := 1510) (by decide +kernel)⟩
theorem lw_p84 : lw_okq (⟨"HeardNextModel", "hadAllMany", "()I"⟩, 64) := ⟨⟨by decide +kernel, by decide +kernel⟩, List.mem_of_getElem? (i := 983) (by decide +kernel), List.mem_of_getElem? (i := 1529) (by decide +kernel), List.mem_of_getElem? (i := 1530) (by decide +kernel)⟩
theorem lw_p85 : lw_okq (⟨"HeardNextModel", "hadAll", "(I)Z"⟩, 64) := ⟨⟨by decide +kernel, by decide +kernel⟩, List.mem_of_getElem? (i := 983) (by decide +kernel), List.mem_of_getElem? (i := 1533) (by decide +kernel), List.mem_of_getElem? (i := 1534) (by decide +kernel)⟩
theorem lw_p86 : lw_okq (⟨"HeardNextModel", "griefBits", "()I"⟩, 64) := ⟨⟨by decide +kernel, by decide +kernel⟩, List.mem_of_getElem? (i := 983) (by decide +kernel), List.mem_of_getElem? (i := 1545) (by decide +kernel), List.mem_of_getElem? (i := 1546) (by decide +kernel)⟩
theorem lw_p87 : lw_okq (⟨"HeardNextModel", "fillsSent", "(I)I"⟩, 64) := ⟨⟨by decide +kernel, by decide +kernel⟩, List.mem_of_getElem? (i := 983) (by decide +kernel), List.mem_of_getElem? (i := 1581) (by decide +kernel), List.mem_of_getElem? (i := 1582) (by decide +kernel)⟩
theorem lw_p88 : lw_okq (⟨"HeardNextModel", "worstAt", "(I)I"⟩, 64) := ⟨⟨by decide +kernel, by decide +kernel⟩, List.mem_of_getElem? (i := 983) (by decide +kernel), List.mem_of_getElem? (i := 1589) (by decide +kernel), List.mem_of_getElem? (i := 1590) (by decide +kernel)⟩
theorem lw_p89 : lw_okq (⟨"HeardNextModel", "bitsOf", "(II)I"⟩, 64) := ⟨⟨by decide +kernel, by decide +kernel⟩, List.mem_of_getElem? (i := 983) (by decide +kernel), List.mem_of_getElem? (i := 1605) (by decide +kernel), List.mem_of_getElem? (i := 1606) (by decide +kernel)⟩
def lw_privs_6 : List (MethodName × Nat) := [(⟨"HeardNextModel", "fillsComes", "(I)V"⟩, 64), (⟨"HeardNextModel", "fillsAll", "(I)V"⟩, 64), (⟨"HeardNextModel", "findsTimes", "(I)I"⟩, 64), (⟨"HeardNextModel", "copiesStill", "()V"⟩, 64), (⟨"HeardNextModel", "hadAllMany", "()I"⟩, 64), (⟨"HeardNextModel", "hadAll", "(I)Z"⟩, 64), (⟨"HeardNextModel", "griefBits", "()I"⟩, 64), (⟨"HeardNextModel", "fillsSent", "(I)I"⟩, 64), (⟨"HeardNextModel", "worstAt", "(I)I"⟩, 64), (⟨"HeardNextModel", "bitsOf", "(II)I"⟩, 64)]
theorem lw_r6 : ∀ q ∈ lw_privs_6, lw_okq q := List.forall_mem_cons.mpr ⟨lw_p80, List.forall_mem_cons.mpr ⟨lw_p81, List.forall_mem_cons.mpr ⟨lw_p82, List.forall_mem_cons.mpr ⟨lw_p83, List.forall_mem_cons.mpr ⟨lw_p84, List.forall_mem_cons.mpr ⟨lw_p85, List.forall_mem_cons.mpr ⟨lw_p86, List.forall_mem_cons.mpr ⟨lw_p87, List.forall_mem_cons.mpr ⟨lw_p88, List.forall_mem_cons.mpr ⟨lw_p89, fun _ h => absurd h List.not_mem_nil⟩⟩⟩⟩⟩⟩⟩⟩⟩⟩
def lw_privs : List (MethodName × Nat) := lw_privs_1 ++ (lw_privs_2 ++ (lw_privs_3 ++ (lw_privs_4 ++ (lw_privs_5 ++ (lw_privs_6)))))
def lw_tbl : List Cond := k2_sels lw_privs ++ tables_1
theorem lw_privs_ok : ∀ q ∈ lw_privs, lw_okq q := by
  show ∀ q ∈ lw_privs_1 ++ (lw_privs_2 ++ (lw_privs_3 ++ (lw_privs_4 ++ (lw_privs_5 ++ (lw_privs_6))))), lw_okq q
  exact List.forall_mem_append.mpr ⟨lw_r1, List.forall_mem_append.mpr ⟨lw_r2, List.forall_mem_append.mpr ⟨lw_r3, List.forall_mem_append.mpr ⟨lw_r4, List.forall_mem_append.mpr ⟨lw_r5, lw_r6⟩⟩⟩⟩⟩
def RX0 : String := "HeardNext$Air"
def TX0 : u_T := fun k => match k with
  | 0 => ("HeardNext$Air", "vars", "[I", true)
  | 1 => ("HeardNext$Air", "known", "[I", true)
  | 2 => ("HeardNext$Air", "kept", "[I", true)
  | 3 => ("HeardNext$Air", "turn", "[I", true)
  | 4 => ("HeardNext$Air", "hum", "I", false)
  | _ => ("HeardNext$Air", "laws", "LHeardNext$Laws;", false)
def tyX0 : Nat → FieldType := fun k => match k with
  | 0 => .array .int
  | 1 => .array .int
  | 2 => .array .int
  | 3 => .array .int
  | 4 => .int
  | _ => .object "HeardNext$Laws"
abbrev wsX00 : List Cond := u_ws RX0 TX0 6
theorem nmX0 : ∀ a, a < 6 → ∀ b, b < 6 → a ≠ b → (TX0 a).2.1 ≠ (TX0 b).2.1 := by decide +kernel
theorem tyX0_ok : ∀ k, k < 6 → parseFieldDescriptor (TX0 k).2.2.1 = some (tyX0 k) := by decide +kernel
def RX1 : String := "HeardNext$Laws"
def TX1 : u_T := fun k => match k with
  | 0 => ("HeardNext$Laws", "steps", "[I", true)
  | 1 => ("HeardNext$Laws", "first", "[I", true)
  | 2 => ("HeardNext$Laws", "looks", "[I", true)
  | 3 => ("HeardNext$Laws", "pile", "[I", true)
  | 4 => ("HeardNext$Laws", "size", "I", false)
  | _ => ("HeardNext$Laws", "looked", "I", false)
def tyX1 : Nat → FieldType := fun k => match k with
  | 0 => .array .int
  | 1 => .array .int
  | 2 => .array .int
  | 3 => .array .int
  | 4 => .int
  | _ => .int
abbrev wsX10 : List Cond := u_ws RX1 TX1 6
theorem nmX1 : ∀ a, a < 6 → ∀ b, b < 6 → a ≠ b → (TX1 a).2.1 ≠ (TX1 b).2.1 := by decide +kernel
theorem tyX1_ok : ∀ k, k < 6 → parseFieldDescriptor (TX1 k).2.2.1 = some (tyX1 k) := by decide +kernel
def RX2 : String := "HeardNext$Life"
def TX2 : u_T := fun k => match k with
  | 0 => ("HeardNext$Life", "wanted", "[I", true)
  | 1 => ("HeardNext$Life", "age", "[I", true)
  | 2 => ("HeardNext$Life", "had", "[I", true)
  | 3 => ("HeardNext$Life", "who", "[I", true)
  | 4 => ("HeardNext$Life", "heard", "[I", true)
  | 5 => ("HeardNext$Life", "grief", "[I", true)
  | 6 => ("HeardNext$Life", "houses", "I", false)
  | 7 => ("HeardNext$Life", "hour", "I", false)
  | 8 => ("HeardNext$Life", "byHand", "I", false)
  | 9 => ("HeardNext$Life", "on", "I", false)
  | _ => ("HeardNext$Life", "deaths", "I", false)
def tyX2 : Nat → FieldType := fun k => match k with
  | 0 => .array .int
  | 1 => .array .int
  | 2 => .array .int
  | 3 => .array .int
  | 4 => .array .int
  | 5 => .array .int
  | 6 => .int
  | 7 => .int
  | 8 => .int
  | 9 => .int
  | _ => .int
abbrev wsX20 : List Cond := u_ws RX2 TX2 11
theorem nmX2 : ∀ a, a < 11 → ∀ b, b < 11 → a ≠ b → (TX2 a).2.1 ≠ (TX2 b).2.1 := by decide +kernel
theorem tyX2_ok : ∀ k, k < 11 → parseFieldDescriptor (TX2 k).2.2.1 = some (tyX2 k) := by decide +kernel
def RX3 : String := "HeardNext$Past"
def TX3 : u_T := fun k => match k with
  | 0 => ("HeardNext$Past", "lives", "[LHeardNext$Life;", true)
  | 1 => ("HeardNext$Past", "first", "I", false)
  | _ => ("HeardNext$Past", "size", "I", false)
def tyX3 : Nat → FieldType := fun k => match k with
  | 0 => .array (.object "HeardNext$Life")
  | 1 => .int
  | _ => .int
abbrev wsX30 : List Cond := u_ws RX3 TX3 3
theorem nmX3 : ∀ a, a < 3 → ∀ b, b < 3 → a ≠ b → (TX3 a).2.1 ≠ (TX3 b).2.1 := by decide +kernel
theorem tyX3_ok : ∀ k, k < 3 → parseFieldDescriptor (TX3 k).2.2.1 = some (tyX3 k) := by decide +kernel
def RX4 : String := "HeardNext$Reader"
def TX4 : u_T := fun k => match k with
  | 0 => ("HeardNext$Reader", "tokens", "LHeardNext$Tokens;", true)
  | 1 => ("HeardNext$Reader", "names", "[J", true)
  | 2 => ("HeardNext$Reader", "terrace", "LHeardNext$Terrace;", false)
  | 3 => ("HeardNext$Reader", "next", "I", false)
  | 4 => ("HeardNext$Reader", "number", "I", false)
  | 5 => ("HeardNext$Reader", "fault", "I", false)
  | 6 => ("HeardNext$Reader", "faultPlace", "I", false)
  | 7 => ("HeardNext$Reader", "lateFault", "I", false)
  | _ => ("HeardNext$Reader", "latePlace", "I", false)
def tyX4 : Nat → FieldType := fun k => match k with
  | 0 => .object "HeardNext$Tokens"
  | 1 => .array .long
  | 2 => .object "HeardNext$Terrace"
  | 3 => .int
  | 4 => .int
  | 5 => .int
  | 6 => .int
  | 7 => .int
  | _ => .int
abbrev wsX40 : List Cond := u_ws RX4 TX4 9
theorem nmX4 : ∀ a, a < 9 → ∀ b, b < 9 → a ≠ b → (TX4 a).2.1 ≠ (TX4 b).2.1 := by decide +kernel
theorem tyX4_ok : ∀ k, k < 9 → parseFieldDescriptor (TX4 k).2.2.1 = some (tyX4 k) := by decide +kernel
def RX5 : String := "HeardNext$Terrace"
def TX5 : u_T := fun k => match k with
  | 0 => ("HeardNext$Terrace", "wanted", "[I", true)
  | 1 => ("HeardNext$Terrace", "age", "[I", true)
  | 2 => ("HeardNext$Terrace", "programmeAt", "[I", true)
  | 3 => ("HeardNext$Terrace", "laws", "LHeardNext$Laws;", true)
  | 4 => ("HeardNext$Terrace", "houses", "I", false)
  | 5 => ("HeardNext$Terrace", "sends", "I", false)
  | 6 => ("HeardNext$Terrace", "grief", "I", false)
  | _ => ("HeardNext$Terrace", "seed", "I", false)
def tyX5 : Nat → FieldType := fun k => match k with
  | 0 => .array .int
  | 1 => .array .int
  | 2 => .array .int
  | 3 => .object "HeardNext$Laws"
  | 4 => .int
  | 5 => .int
  | 6 => .int
  | _ => .int
abbrev wsX50 : List Cond := u_ws RX5 TX5 8
theorem nmX5 : ∀ a, a < 8 → ∀ b, b < 8 → a ≠ b → (TX5 a).2.1 ≠ (TX5 b).2.1 := by decide +kernel
theorem tyX5_ok : ∀ k, k < 8 → parseFieldDescriptor (TX5 k).2.2.1 = some (tyX5 k) := by decide +kernel
def RX6 : String := "HeardNext$Tokens"
def TX6 : u_T := fun k => match k with
  | 0 => ("HeardNext$Tokens", "kind", "[I", true)
  | 1 => ("HeardNext$Tokens", "value", "[J", true)
  | 2 => ("HeardNext$Tokens", "start", "[I", true)
  | _ => ("HeardNext$Tokens", "size", "I", false)
def tyX6 : Nat → FieldType := fun k => match k with
  | 0 => .array .int
  | 1 => .array .long
  | 2 => .array .int
  | _ => .int
abbrev wsX60 : List Cond := u_ws RX6 TX6 4
theorem nmX6 : ∀ a, a < 4 → ∀ b, b < 4 → a ≠ b → (TX6 a).2.1 ≠ (TX6 b).2.1 := by decide +kernel
theorem tyX6_ok : ∀ k, k < 4 → parseFieldDescriptor (TX6 k).2.2.1 = some (tyX6 k) := by decide +kernel
def RX7 : String := "HeardNext$Told"
def TX7 : u_T := fun k => match k with
  | 0 => ("HeardNext$Told", "house", "[I", true)
  | 1 => ("HeardNext$Told", "programme", "[I", true)
  | _ => ("HeardNext$Told", "size", "I", false)
def tyX7 : Nat → FieldType := fun k => match k with
  | 0 => .array .int
  | 1 => .array .int
  | _ => .int
abbrev wsX70 : List Cond := u_ws RX7 TX7 3
theorem nmX7 : ∀ a, a < 3 → ∀ b, b < 3 → a ≠ b → (TX7 a).2.1 ≠ (TX7 b).2.1 := by decide +kernel
theorem tyX7_ok : ∀ k, k < 3 → parseFieldDescriptor (TX7 k).2.2.1 = some (tyX7 k) := by decide +kernel
def RX8 : String := "HeardNext$Ways"
def TX8 : u_T := fun k => match k with
  | 0 => ("HeardNext$Ways", "rows", "[[I", true)
  | _ => ("HeardNext$Ways", "filled", "I", false)
def tyX8 : Nat → FieldType := fun k => match k with
  | 0 => .array (.array .int)
  | _ => .int
abbrev wsX80 : List Cond := u_ws RX8 TX8 2
theorem nmX8 : ∀ a, a < 2 → ∀ b, b < 2 → a ≠ b → (TX8 a).2.1 ≠ (TX8 b).2.1 := by decide +kernel
theorem tyX8_ok : ∀ k, k < 2 → parseFieldDescriptor (TX8 k).2.2.1 = some (tyX8 k) := by decide +kernel
def RX9 : String := "HeardNext"
def TX9 : u_T := fun k => match k with
  | 0 => ("HeardNext", "tape", "[B", true)
  | 1 => ("HeardNext", "tapeLength", "I", false)
  | 2 => ("HeardNext", "faultPlace", "I", false)
  | 3 => ("HeardNext", "terrace", "LHeardNext$Terrace;", false)
  | 4 => ("HeardNext", "draft", "LHeardNext$Terrace;", false)
  | 5 => ("HeardNext", "reader", "LHeardNext$Reader;", true)
  | 6 => ("HeardNext", "life", "LHeardNext$Life;", true)
  | 7 => ("HeardNext", "dream", "LHeardNext$Life;", true)
  | 8 => ("HeardNext", "past", "LHeardNext$Past;", true)
  | 9 => ("HeardNext", "slots", "[LHeardNext$Life;", true)
  | 10 => ("HeardNext", "held", "I", false)
  | 11 => ("HeardNext", "air", "LHeardNext$Air;", true)
  | 12 => ("HeardNext", "ways", "LHeardNext$Ways;", true)
  | 13 => ("HeardNext", "told", "LHeardNext$Told;", true)
  | 14 => ("HeardNext", "taken", "[I", true)
  | 15 => ("HeardNext", "sums", "[I", true)
  | _ => ("HeardNext", "chosen", "[I", true)
def tyX9 : Nat → FieldType := fun k => match k with
  | 0 => .array .byte
  | 1 => .int
  | 2 => .int
  | 3 => .object "HeardNext$Terrace"
  | 4 => .object "HeardNext$Terrace"
  | 5 => .object "HeardNext$Reader"
  | 6 => .object "HeardNext$Life"
  | 7 => .object "HeardNext$Life"
  | 8 => .object "HeardNext$Past"
  | 9 => .array (.object "HeardNext$Life")
  | 10 => .int
  | 11 => .object "HeardNext$Air"
  | 12 => .object "HeardNext$Ways"
  | 13 => .object "HeardNext$Told"
  | 14 => .array .int
  | 15 => .array .int
  | _ => .array .int
abbrev wsX90 : List Cond := u_ws RX9 TX9 17
theorem nmX9 : ∀ a, a < 17 → ∀ b, b < 17 → a ≠ b → (TX9 a).2.1 ≠ (TX9 b).2.1 := by decide +kernel
theorem tyX9_ok : ∀ k, k < 17 → parseFieldDescriptor (TX9 k).2.2.1 = some (tyX9 k) := by decide +kernel
def RX10 : String := "HeardNextModel"
def TX10 : u_T := fun k => match k with
  | 0 => ("HeardNextModel", "thrown", "I", false)
  | 1 => ("HeardNextModel", "tape", "[B", true)
  | 2 => ("HeardNextModel", "taped", "I", false)
  | 3 => ("HeardNextModel", "text", "[B", true)
  | 4 => ("HeardNextModel", "size", "I", false)
  | 5 => ("HeardNextModel", "tKind", "[I", true)
  | 6 => ("HeardNextModel", "tPlace", "[I", true)
  | 7 => ("HeardNextModel", "tValue", "[I", true)
  | 8 => ("HeardNextModel", "tName", "[J", true)
  | 9 => ("HeardNextModel", "keys", "[J", true)
  | 10 => ("HeardNextModel", "tokens", "I", false)
  | 11 => ("HeardNextModel", "t", "I", false)
  | 12 => ("HeardNextModel", "open", "I", false)
  | 13 => ("HeardNextModel", "fault", "I", false)
  | 14 => ("HeardNextModel", "faultPlace", "I", false)
  | 15 => ("HeardNextModel", "worst", "I", false)
  | 16 => ("HeardNextModel", "worstPlace", "I", false)
  | 17 => ("HeardNextModel", "place", "I", false)
  | 18 => ("HeardNextModel", "live", "I", false)
  | 19 => ("HeardNextModel", "side", "I", false)
  | 20 => ("HeardNextModel", "names", "I", false)
  | 21 => ("HeardNextModel", "nameOf", "[J", true)
  | 22 => ("HeardNextModel", "houses", "[I", true)
  | 23 => ("HeardNextModel", "wantsTold", "[I", true)
  | 24 => ("HeardNextModel", "ageTold", "[I", true)
  | 25 => ("HeardNextModel", "sendsMany", "[I", true)
  | 26 => ("HeardNextModel", "sendsAt", "[I", true)
  | 27 => ("HeardNextModel", "grief", "[I", true)
  | 28 => ("HeardNextModel", "seed", "[I", true)
  | 29 => ("HeardNextModel", "lawFirst", "[I", true)
  | 30 => ("HeardNextModel", "lawLast", "[I", true)
  | 31 => ("HeardNextModel", "branches", "I", false)
  | 32 => ("HeardNextModel", "hasTest", "[Z", true)
  | 33 => ("HeardNextModel", "testFrom", "[I", true)
  | 34 => ("HeardNextModel", "testMid", "[I", true)
  | 35 => ("HeardNextModel", "testTo", "[I", true)
  | 36 => ("HeardNextModel", "termTo", "[I", true)
  | 37 => ("HeardNextModel", "codes", "I", false)
  | 38 => ("HeardNextModel", "codeKind", "[I", true)
  | 39 => ("HeardNextModel", "codeInt", "[I", true)
  | 40 => ("HeardNextModel", "waits", "[I", true)
  | 41 => ("HeardNextModel", "waiting", "I", false)
  | 42 => ("HeardNextModel", "variables", "[I", true)
  | 43 => ("HeardNextModel", "pile", "[I", true)
  | 44 => ("HeardNextModel", "isBroken", "Z", false)
  | 45 => ("HeardNextModel", "now", "[I", true)
  | 46 => ("HeardNextModel", "row", "[I", true)
  | 47 => ("HeardNextModel", "lots", "I", false)
  | 48 => ("HeardNextModel", "isStill", "Z", false)
  | 49 => ("HeardNextModel", "heardThen", "[I", true)
  | 50 => ("HeardNextModel", "diesNow", "[Z", true)
  | 51 => ("HeardNextModel", "undos", "I", false)
  | 52 => ("HeardNextModel", "history", "[I", true)
  | 53 => ("HeardNextModel", "comesOf", "[I", true)
  | 54 => ("HeardNextModel", "isSo", "[Z", true)
  | 55 => ("HeardNextModel", "taken", "[I", true)
  | 56 => ("HeardNextModel", "allAt", "[I", true)
  | 57 => ("HeardNextModel", "timesAt", "[I", true)
  | 58 => ("HeardNextModel", "partsOf", "[I", true)
  | 59 => ("HeardNextModel", "tolds", "I", false)
  | 60 => ("HeardNextModel", "toldHouse", "[I", true)
  | 61 => ("HeardNextModel", "toldWhat", "[I", true)
  | 62 => ("HeardNextModel", "isHeld", "[Z", true)
  | _ => ("HeardNextModel", "heldRows", "[I", true)
def tyX10 : Nat → FieldType := fun k => match k with
  | 0 => .int
  | 1 => .array .byte
  | 2 => .int
  | 3 => .array .byte
  | 4 => .int
  | 5 => .array .int
  | 6 => .array .int
  | 7 => .array .int
  | 8 => .array .long
  | 9 => .array .long
  | 10 => .int
  | 11 => .int
  | 12 => .int
  | 13 => .int
  | 14 => .int
  | 15 => .int
  | 16 => .int
  | 17 => .int
  | 18 => .int
  | 19 => .int
  | 20 => .int
  | 21 => .array .long
  | 22 => .array .int
  | 23 => .array .int
  | 24 => .array .int
  | 25 => .array .int
  | 26 => .array .int
  | 27 => .array .int
  | 28 => .array .int
  | 29 => .array .int
  | 30 => .array .int
  | 31 => .int
  | 32 => .array .boolean
  | 33 => .array .int
  | 34 => .array .int
  | 35 => .array .int
  | 36 => .array .int
  | 37 => .int
  | 38 => .array .int
  | 39 => .array .int
  | 40 => .array .int
  | 41 => .int
  | 42 => .array .int
  | 43 => .array .int
  | 44 => .boolean
  | 45 => .array .int
  | 46 => .array .int
  | 47 => .int
  | 48 => .boolean
  | 49 => .array .int
  | 50 => .array .boolean
  | 51 => .int
  | 52 => .array .int
  | 53 => .array .int
  | 54 => .array .boolean
  | 55 => .array .int
  | 56 => .array .int
  | 57 => .array .int
  | 58 => .array .int
  | 59 => .int
  | 60 => .array .int
  | 61 => .array .int
  | 62 => .array .boolean
  | _ => .array .int
abbrev wsX100 : List Cond := u_ws RX10 TX10 64
theorem nmX10 : ∀ a, a < 64 → ∀ b, b < 64 → a ≠ b → (TX10 a).2.1 ≠ (TX10 b).2.1 := by decide +kernel
theorem tyX10_ok : ∀ k, k < 64 → parseFieldDescriptor (TX10 k).2.2.1 = some (tyX10 k) := by decide +kernel
abbrev vwCl : List vw_C := [(RX0, TX0, 6), (RX1, TX1, 6), (RX2, TX2, 11), (RX3, TX3, 3), (RX4, TX4, 9), (RX5, TX5, 8), (RX6, TX6, 4), (RX7, TX7, 3), (RX8, TX8, 2), (RX9, TX9, 17), (RX10, TX10, 64)]
end
section
/-! THE WORLD: the script at b, cells from the address B on, numbered from 1; a symbol (.float j) is the script's int j -/
abbrev hv_E : Type := (Nat × Nat × (Nat → Value)) ⊕ (Nat × (Nat → Value))
abbrev hv_H : Type := Nat → Option hv_E
abbrev hv_G : Type := (Nat × Nat × Nat) × (Nat → Int32) × va_G × (Nat → ClassId)
def hv_ad (G : hv_G) (i : Nat) : Nat := match i with
  | 0 => G.1.2.1
  | i + 1 => G.1.1 + i
def hv_v (G : hv_G) (v : Value) : Value := match v with
  | .ref i => .ref (hv_ad G i)
  | .float j => .int (G.2.1 j.toNat)
  | .int x => .int x
  | .long x => .long x
  | .null => .null
  | .double x => .double x
  | .retAddr x => .retAddr x
def hv_tyl : List FieldType := [.byte, .int, .long, .boolean, .object "HeardNext$Life", .array .int]
def hv_tys (G : hv_G) : List (ClassId × FieldType) := [(G.2.2.2 0, .byte), (G.2.2.2 1, .int), (G.2.2.2 2, .long), (G.2.2.2 3, .boolean), (G.2.2.2 4, .object "HeardNext$Life"), (G.2.2.2 5, .array .int)]
theorem hv_tys_at {G : hv_G} {t : Nat} {ty : FieldType} (h : hv_tyl[t]? = some ty) : (hv_tys G)[t]? = some (G.2.2.2 t, ty) := by
  match t, h with
  | 0, h => cases h; rfl
  | 1, h => cases h; rfl
  | 2, h => cases h; rfl
  | 3, h => cases h; rfl
  | 4, h => cases h; rfl
  | 5, h => cases h; rfl
  | t + 6, h => simp [hv_tyl] at h
def hv_at (G : hv_G) (i : Nat) (e : hv_E) (H : Heap) : Prop := match e with
  | .inl a => H[G.1.1 + i]? = some (arrV (G.2.2.2 a.1) a.2.1 (fun j => hv_v G (a.2.2 j)))
  | .inr o => ∃ r : vw_C, vwCl[o.1]? = some r ∧ t_OB (G.1.1 + i) (G.2.2.1.1 o.1) r.2.2 (G.2.2.1.2 o.1) H (fun k => hv_v G (o.2 k))
def hv_P (G : hv_G) (n : Nat) (hp : hv_H) (H : Heap) : Prop := H.size = G.1.1 + n ∧ ∀ (i : Nat) (e : hv_E), hp i = some e → hv_at G i e H
def hv_up (hp : hv_H) (i : Nat) (e : hv_E) : hv_H := fun j => if j = i then some e else hp j
def hv_uv (f : Nat → Value) (k : Nat) (v : Value) : Nat → Value := fun j => if j = k then v else f j
theorem hv_v_uv (G : hv_G) (f : Nat → Value) (k : Nat) (v : Value) : (fun j => hv_v G (hv_uv f k v j)) = updV (fun j => hv_v G (f j)) k (hv_v G v) := by
  funext j
  unfold hv_uv updV
  by_cases h : j = k <;> simp [h]
theorem hv_at.kept {G : hv_G} {i : Nat} {e : hv_E} {H H1 : Heap} (h : hv_at G i e H) (hq : H1[G.1.1 + i]? = H[G.1.1 + i]?) : hv_at G i e H1 := by
  match e, h with
  | .inl a, h => exact hq.trans h
  | .inr o, h =>
    obtain ⟨r, h1, h2⟩ := h
    exact ⟨r, h1, h2.kept hq⟩
theorem hv_at.lt {G : hv_G} {i : Nat} {e : hv_E} {H : Heap} (h : hv_at G i e H) : G.1.1 + i < H.size := by
  match e, h with
  | .inl a, h => exact (Array.getElem?_eq_some_iff.mp h).1
  | .inr o, h =>
    obtain ⟨r, h1, cell, h2, -⟩ := h
    exact (Array.getElem?_eq_some_iff.mp h2).1
theorem hv_P.set {G : hv_G} {n : Nat} {hp : hv_H} {i : Nat} {e : hv_E} {H H1 : Heap} (h : hv_P G n hp H) (he : hv_at G i e H1) (hz : H1.size = H.size) (oq : ∀ q : Nat, q ≠ G.1.1 + i → H1[q]? = H[q]?) : hv_P G n (hv_up hp i e) H1 := by
  refine ⟨hz.trans h.1, fun j x hj => ?_⟩
  unfold hv_up at hj
  by_cases hji : j = i
  · subst hji
    rw [if_pos rfl] at hj
    cases hj
    exact he
  · rw [if_neg hji] at hj
    exact (h.2 j x hj).kept (oq _ (by omega))
theorem hv_P.push {G : hv_G} {n : Nat} {hp : hv_H} {e : hv_E} {H H1 : Heap} (h : hv_P G n hp H) (he : hv_at G n e H1) (hz : H1.size = H.size + 1) (oq : ∀ q : Nat, q < H.size → H1[q]? = H[q]?) : hv_P G (n + 1) (hv_up hp n e) H1 := by
  refine ⟨by rw [hz, h.1]; omega, fun j x hj => ?_⟩
  unfold hv_up at hj
  by_cases hji : j = n
  · subst hji
    rw [if_pos rfl] at hj
    cases hj
    exact he
  · rw [if_neg hji] at hj
    exact (h.2 j x hj).kept (oq _ (h.2 j x hj).lt)
def hv_l (G : hv_G) (lv : List (Nat × Value)) : List (Nat × Value) := lv.map (fun q => (q.1, hv_v G q.2))
def hv_X (G : hv_G) (p : Program) (s : State) (m : MethodId) (args : Array Value) (c : Code) (Ts : List Cond) (own : String) (cc : ByteArray) (nL : Nat) : Prop :=
  p.tables.exec = Jvm.exec ∧ c.code = cc ∧ c.maxLocals = nL ∧ s.vm.findClass own = some m.cls ∧ (∀ w ∈ Ts, w.before args s = true) ∧ va_K G.2.2.1 vwCl (hv_tys G) s ∧ G.1.1 ≤ s.heap.size ∧ G.1.2.1 < G.1.1 ∧ va_X G.1.2.1 G.1.2.2 G.2.1 s s.heap
def hv_W (G : hv_G) (p : Program) (l : Launch) (e : Env) (R : Room) (s : State) (m : MethodId) (args : Array Value) (below : List Frame) (meth : Method) (c : Code) (nL : Nat) (Q : State → Prop) (n : Nat) (hp : hv_H) (cells slots pc : Nat) (lv : List (Nat × Value)) (st : List Value) : Prop :=
  ∀ (H : Heap) (locs : List Loc) (ls : Array Slot), hv_P G n hp H → (∀ q : Nat, q < G.1.1 → H[q]? = s.heap[q]?) → (∀ q ∈ locs, G.1.1 ≤ q.base) → lv_has ls nL (hv_l G lv) → W p l e R s m args below meth c H locs cells slots Q (F0 m pc ls (st.map (hv_v G)))
def hv_s1 (i : Nat) (v : Value) (lv : List (Nat × Value)) : List (Nat × Value) := (i, v) :: lv.filter (fun q => !(q.1 == i) && !(q.1 + 1 == i && q.2.category == 2))
def hv_s2 (i : Nat) (v : Value) (lv : List (Nat × Value)) : List (Nat × Value) := (i, v) :: lv.filter (fun q => !(q.1 == i) && (!(q.1 == i + 1) && !(q.1 + 1 == i && q.2.category == 2)))
theorem hv_cat (G : hv_G) (v : Value) : (hv_v G v).category = v.category := by cases v <;> rfl
theorem hv_l_s1 (G : hv_G) (i : Nat) (v : Value) (lv : List (Nat × Value)) : (i, hv_v G v) :: (hv_l G lv).filter (fun q => !(q.1 == i) && !(q.1 + 1 == i && q.2.category == 2)) = hv_l G (hv_s1 i v lv) := by
  unfold hv_l hv_s1
  rw [List.map_cons, List.filter_map]
  congr 3
  funext q
  simp only [Function.comp, hv_cat]
theorem hv_l_s2 (G : hv_G) (i : Nat) (v : Value) (lv : List (Nat × Value)) : (i, hv_v G v) :: (hv_l G lv).filter (fun q => !(q.1 == i) && (!(q.1 == i + 1) && !(q.1 + 1 == i && q.2.category == 2))) = hv_l G (hv_s2 i v lv) := by
  unfold hv_l hv_s2
  rw [List.map_cons, List.filter_map]
  congr 3
  funext q
  simp only [Function.comp, hv_cat]
theorem hv_l_at {G : hv_G} {ls : Array Slot} {nL : Nat} {lv : List (Nat × Value)} (h : lv_has ls nL (hv_l G lv)) {i : Nat} {v : Value} (hm : (i, v) ∈ lv) : ls[i]? = some (.val (hv_v G v)) := h.2.2 (i, hv_v G v) (List.mem_map.mpr ⟨(i, v), hm, rfl⟩)
theorem hv_cats (G : hv_G) (st : List Value) : ((st.map (hv_v G)).map fun v => v.category).sum = (st.map fun v => v.category).sum := by
  rw [List.map_map]
  congr 1
  apply List.map_congr_left
  intro v _
  exact hv_cat G v
section HW
variable {G : hv_G} {p : Program} {l : Launch} {e : Env} {R : Room} {s : State} {m : MethodId} {args : Array Value} {below : List Frame} {meth : Method} {c : Code} {nL : Nat} {Q : State → Prop} {n : Nat} {hp : hv_H} {cells slots pc : Nat} {lv : List (Nat × Value)} {st : List Value} {Ts : List Cond} {own : String} {cc : ByteArray}
theorem hw_iconst (X : hv_X G p s m args c Ts own cc nL) {z : Int} {v : Int32} (hd : decode cc pc = .ok (.iconst z, 1)) (hv : Int32.ofInt z = v) (k : hv_W G p l e R s m args below meth c nL Q n hp cells slots (pc + 1) lv (.int v :: st)) : hv_W G p l e R s m args below meth c nL Q n hp cells slots pc lv st := fun H locs ls h1 h2 h3 h4 => lv_iconst X.1 X.2.1 hd hv (k H locs ls h1 h2 h3 h4)
theorem hw_bipush (X : hv_X G p s m args c Ts own cc nL) {z : Int} {v : Int32} (hd : decode cc pc = .ok (.bipush z, 2)) (hv : (Int8.ofInt z).toInt32 = v) (k : hv_W G p l e R s m args below meth c nL Q n hp cells slots (pc + 2) lv (.int v :: st)) : hv_W G p l e R s m args below meth c nL Q n hp cells slots pc lv st := fun H locs ls h1 h2 h3 h4 => lv_bipush X.1 X.2.1 hd hv (k H locs ls h1 h2 h3 h4)
theorem hw_sipush (X : hv_X G p s m args c Ts own cc nL) {z : Int} {v : Int32} (hd : decode cc pc = .ok (.sipush z, 3)) (hv : (Int16.ofInt z).toInt32 = v) (k : hv_W G p l e R s m args below meth c nL Q n hp cells slots (pc + 3) lv (.int v :: st)) : hv_W G p l e R s m args below meth c nL Q n hp cells slots pc lv st := fun H locs ls h1 h2 h3 h4 => lv_sipush X.1 X.2.1 hd hv (k H locs ls h1 h2 h3 h4)
theorem hw_lconst (X : hv_X G p s m args c Ts own cc nL) {z : Fin 2} {v : Int64} (hd : decode cc pc = .ok (.lconst z, 1)) (hv : Int64.ofNat (z : Nat) = v) (k : hv_W G p l e R s m args below meth c nL Q n hp cells slots (pc + 1) lv (.long v :: st)) : hv_W G p l e R s m args below meth c nL Q n hp cells slots pc lv st := fun H locs ls h1 h2 h3 h4 => lv_lconst X.1 X.2.1 hd hv (k H locs ls h1 h2 h3 h4)
theorem hw_ldc (X : hv_X G p s m args c Ts own cc nL) {ix : Nat} {v : Int32} (hd : decode cc pc = .ok (.ldc ix, 2)) (hw : Cond.constant own ix v ∈ Ts) (k : hv_W G p l e R s m args below meth c nL Q n hp cells slots (pc + 2) lv (.int v :: st)) : hv_W G p l e R s m args below meth c nL Q n hp cells slots pc lv st := fun H locs ls h1 h2 h3 h4 => lv_ldc X.1 X.2.1 X.2.2.2.1 (X.2.2.2.2.1 _ hw) hd (k H locs ls h1 h2 h3 h4)
theorem hw_ldcw (X : hv_X G p s m args c Ts own cc nL) {ix : Nat} {v : Int32} (hd : decode cc pc = .ok (.ldc_w ix, 3)) (hw : Cond.constant own ix v ∈ Ts) (k : hv_W G p l e R s m args below meth c nL Q n hp cells slots (pc + 3) lv (.int v :: st)) : hv_W G p l e R s m args below meth c nL Q n hp cells slots pc lv st := fun H locs ls h1 h2 h3 h4 => lv_ldcw X.1 X.2.1 X.2.2.2.1 (X.2.2.2.2.1 _ hw) hd (k H locs ls h1 h2 h3 h4)
theorem hw_ldc2 (X : hv_X G p s m args c Ts own cc nL) {ix : Nat} {v : Int64} (hd : decode cc pc = .ok (.ldc2_w ix, 3)) (hw : Cond.constantLong own ix v ∈ Ts) (k : hv_W G p l e R s m args below meth c nL Q n hp cells slots (pc + 3) lv (.long v :: st)) : hv_W G p l e R s m args below meth c nL Q n hp cells slots pc lv st := fun H locs ls h1 h2 h3 h4 => lv_ldc2 X.1 X.2.1 X.2.2.2.1 (X.2.2.2.2.1 _ hw) hd (k H locs ls h1 h2 h3 h4)
theorem hw_iload_n (X : hv_X G p s m args c Ts own cc nL) {kf : Fin 4} {i : Nat} {x : Int32} (hd : decode cc pc = .ok (.iload_n kf, 1)) (hi : (kf : Nat) = i) (hm : (i, .int x) ∈ lv) (k : hv_W G p l e R s m args below meth c nL Q n hp cells slots (pc + 1) lv (.int x :: st)) : hv_W G p l e R s m args below meth c nL Q n hp cells slots pc lv st := fun H locs ls h1 h2 h3 h4 => lv_iload_n X.1 X.2.1 hd hi (hv_l_at h4 hm) (k H locs ls h1 h2 h3 h4)
theorem hw_iload_nS (X : hv_X G p s m args c Ts own cc nL) {kf : Fin 4} {i : Nat} {x : UInt32} (hd : decode cc pc = .ok (.iload_n kf, 1)) (hi : (kf : Nat) = i) (hm : (i, .float x) ∈ lv) (k : hv_W G p l e R s m args below meth c nL Q n hp cells slots (pc + 1) lv (.float x :: st)) : hv_W G p l e R s m args below meth c nL Q n hp cells slots pc lv st := fun H locs ls h1 h2 h3 h4 => lv_iload_n X.1 X.2.1 hd hi (hv_l_at h4 hm) (k H locs ls h1 h2 h3 h4)
theorem hw_iload (X : hv_X G p s m args c Ts own cc nL) {i : Nat} {x : Int32} (hd : decode cc pc = .ok (.iload i, 2)) (hm : (i, .int x) ∈ lv) (k : hv_W G p l e R s m args below meth c nL Q n hp cells slots (pc + 2) lv (.int x :: st)) : hv_W G p l e R s m args below meth c nL Q n hp cells slots pc lv st := fun H locs ls h1 h2 h3 h4 => lv_iload X.1 X.2.1 hd (hv_l_at h4 hm) (k H locs ls h1 h2 h3 h4)
theorem hw_iloadS (X : hv_X G p s m args c Ts own cc nL) {i : Nat} {x : UInt32} (hd : decode cc pc = .ok (.iload i, 2)) (hm : (i, .float x) ∈ lv) (k : hv_W G p l e R s m args below meth c nL Q n hp cells slots (pc + 2) lv (.float x :: st)) : hv_W G p l e R s m args below meth c nL Q n hp cells slots pc lv st := fun H locs ls h1 h2 h3 h4 => lv_iload X.1 X.2.1 hd (hv_l_at h4 hm) (k H locs ls h1 h2 h3 h4)
theorem hw_lload_n (X : hv_X G p s m args c Ts own cc nL) {kf : Fin 4} {i : Nat} {x : Int64} (hd : decode cc pc = .ok (.lload_n kf, 1)) (hi : (kf : Nat) = i) (hm : (i, .long x) ∈ lv) (k : hv_W G p l e R s m args below meth c nL Q n hp cells slots (pc + 1) lv (.long x :: st)) : hv_W G p l e R s m args below meth c nL Q n hp cells slots pc lv st := fun H locs ls h1 h2 h3 h4 => lv_lload_n X.1 X.2.1 hd hi (hv_l_at h4 hm) (k H locs ls h1 h2 h3 h4)
theorem hw_lload (X : hv_X G p s m args c Ts own cc nL) {i : Nat} {x : Int64} (hd : decode cc pc = .ok (.lload i, 2)) (hm : (i, .long x) ∈ lv) (k : hv_W G p l e R s m args below meth c nL Q n hp cells slots (pc + 2) lv (.long x :: st)) : hv_W G p l e R s m args below meth c nL Q n hp cells slots pc lv st := fun H locs ls h1 h2 h3 h4 => lv_lload X.1 X.2.1 hd (hv_l_at h4 hm) (k H locs ls h1 h2 h3 h4)
theorem hw_aload_n (X : hv_X G p s m args c Ts own cc nL) {kf : Fin 4} {i : Nat} {x : Nat} (hd : decode cc pc = .ok (.aload_n kf, 1)) (hi : (kf : Nat) = i) (hm : (i, .ref x) ∈ lv) (k : hv_W G p l e R s m args below meth c nL Q n hp cells slots (pc + 1) lv (.ref x :: st)) : hv_W G p l e R s m args below meth c nL Q n hp cells slots pc lv st := fun H locs ls h1 h2 h3 h4 => lv_aload_n X.1 X.2.1 hd hi (hv_l_at h4 hm) (k H locs ls h1 h2 h3 h4)
theorem hw_aload (X : hv_X G p s m args c Ts own cc nL) {i : Nat} {x : Nat} (hd : decode cc pc = .ok (.aload i, 2)) (hm : (i, .ref x) ∈ lv) (k : hv_W G p l e R s m args below meth c nL Q n hp cells slots (pc + 2) lv (.ref x :: st)) : hv_W G p l e R s m args below meth c nL Q n hp cells slots pc lv st := fun H locs ls h1 h2 h3 h4 => lv_aload X.1 X.2.1 hd (hv_l_at h4 hm) (k H locs ls h1 h2 h3 h4)
theorem hw_istore_n (X : hv_X G p s m args c Ts own cc nL) {kf : Fin 4} {i : Nat} {x : Int32} (hd : decode cc pc = .ok (.istore_n kf, 1)) (hi : (kf : Nat) = i) (hn : i < nL) (k : hv_W G p l e R s m args below meth c nL Q n hp cells slots (pc + 1) (hv_s1 i (.int x) lv) st) : hv_W G p l e R s m args below meth c nL Q n hp cells slots pc lv (.int x :: st) := fun H locs ls h1 h2 h3 h4 => lv_istore_n X.1 X.2.1 hd hi h4 hn (hv_l_s1 G i (.int x) lv) (fun ls h4 => k H locs ls h1 h2 h3 h4)
theorem hw_istore_nS (X : hv_X G p s m args c Ts own cc nL) {kf : Fin 4} {i : Nat} {x : UInt32} (hd : decode cc pc = .ok (.istore_n kf, 1)) (hi : (kf : Nat) = i) (hn : i < nL) (k : hv_W G p l e R s m args below meth c nL Q n hp cells slots (pc + 1) (hv_s1 i (.float x) lv) st) : hv_W G p l e R s m args below meth c nL Q n hp cells slots pc lv (.float x :: st) := fun H locs ls h1 h2 h3 h4 => lv_istore_n X.1 X.2.1 hd hi h4 hn (hv_l_s1 G i (.float x) lv) (fun ls h4 => k H locs ls h1 h2 h3 h4)
theorem hw_istore (X : hv_X G p s m args c Ts own cc nL) {i : Nat} {x : Int32} (hd : decode cc pc = .ok (.istore i, 2)) (hn : i < nL) (k : hv_W G p l e R s m args below meth c nL Q n hp cells slots (pc + 2) (hv_s1 i (.int x) lv) st) : hv_W G p l e R s m args below meth c nL Q n hp cells slots pc lv (.int x :: st) := fun H locs ls h1 h2 h3 h4 => lv_istore X.1 X.2.1 hd h4 hn (hv_l_s1 G i (.int x) lv) (fun ls h4 => k H locs ls h1 h2 h3 h4)
theorem hw_istoreS (X : hv_X G p s m args c Ts own cc nL) {i : Nat} {x : UInt32} (hd : decode cc pc = .ok (.istore i, 2)) (hn : i < nL) (k : hv_W G p l e R s m args below meth c nL Q n hp cells slots (pc + 2) (hv_s1 i (.float x) lv) st) : hv_W G p l e R s m args below meth c nL Q n hp cells slots pc lv (.float x :: st) := fun H locs ls h1 h2 h3 h4 => lv_istore X.1 X.2.1 hd h4 hn (hv_l_s1 G i (.float x) lv) (fun ls h4 => k H locs ls h1 h2 h3 h4)
theorem hw_lstore_n (X : hv_X G p s m args c Ts own cc nL) {kf : Fin 4} {i : Nat} {x : Int64} (hd : decode cc pc = .ok (.lstore_n kf, 1)) (hi : (kf : Nat) = i) (hn : i + 1 < nL) (k : hv_W G p l e R s m args below meth c nL Q n hp cells slots (pc + 1) (hv_s2 i (.long x) lv) st) : hv_W G p l e R s m args below meth c nL Q n hp cells slots pc lv (.long x :: st) := fun H locs ls h1 h2 h3 h4 => lv_lstore_n X.1 X.2.1 hd hi h4 hn (hv_l_s2 G i (.long x) lv) (fun ls h4 => k H locs ls h1 h2 h3 h4)
theorem hw_lstore (X : hv_X G p s m args c Ts own cc nL) {i : Nat} {x : Int64} (hd : decode cc pc = .ok (.lstore i, 2)) (hn : i + 1 < nL) (k : hv_W G p l e R s m args below meth c nL Q n hp cells slots (pc + 2) (hv_s2 i (.long x) lv) st) : hv_W G p l e R s m args below meth c nL Q n hp cells slots pc lv (.long x :: st) := fun H locs ls h1 h2 h3 h4 => lv_lstore X.1 X.2.1 hd h4 hn (hv_l_s2 G i (.long x) lv) (fun ls h4 => k H locs ls h1 h2 h3 h4)
theorem hw_astore_n (X : hv_X G p s m args c Ts own cc nL) {kf : Fin 4} {i : Nat} {x : Nat} (hd : decode cc pc = .ok (.astore_n kf, 1)) (hi : (kf : Nat) = i) (hn : i < nL) (k : hv_W G p l e R s m args below meth c nL Q n hp cells slots (pc + 1) (hv_s1 i (.ref x) lv) st) : hv_W G p l e R s m args below meth c nL Q n hp cells slots pc lv (.ref x :: st) := fun H locs ls h1 h2 h3 h4 => lv_astore_n X.1 X.2.1 hd hi h4 hn (hv_l_s1 G i (.ref x) lv) (fun ls h4 => k H locs ls h1 h2 h3 h4)
theorem hw_astore (X : hv_X G p s m args c Ts own cc nL) {i : Nat} {x : Nat} (hd : decode cc pc = .ok (.astore i, 2)) (hn : i < nL) (k : hv_W G p l e R s m args below meth c nL Q n hp cells slots (pc + 2) (hv_s1 i (.ref x) lv) st) : hv_W G p l e R s m args below meth c nL Q n hp cells slots pc lv (.ref x :: st) := fun H locs ls h1 h2 h3 h4 => lv_astore X.1 X.2.1 hd h4 hn (hv_l_s1 G i (.ref x) lv) (fun ls h4 => k H locs ls h1 h2 h3 h4)
theorem hw_iinc (X : hv_X G p s m args c Ts own cc nL) {i : Nat} {z : Int} {x : Int32} (hd : decode cc pc = .ok (.iinc i z, 3)) (hm : (i, .int x) ∈ lv) (hn : i < nL) (k : hv_W G p l e R s m args below meth c nL Q n hp cells slots (pc + 3) (hv_s1 i (.int (x + Int32.ofInt z)) lv) st) : hv_W G p l e R s m args below meth c nL Q n hp cells slots pc lv st := by
  intro H locs ls h1 h2 h3 h4
  have hm' : (i, Value.int x) ∈ hv_l G lv := List.mem_map.mpr ⟨(i, .int x), hm, rfl⟩
  obtain ⟨k0, hk0⟩ := List.mem_iff_getElem?.mp hm'
  exact lv_iinc X.1 X.2.1 hd h4 hk0 rfl hn (hv_l_s1 G i (.int (x + Int32.ofInt z)) lv) (fun ls h4 => k H locs ls h1 h2 h3 h4)
theorem hw_iadd (X : hv_X G p s m args c Ts own cc nL) {x y : Int32} (hd : decode cc pc = .ok (.iadd, 1))  (k : hv_W G p l e R s m args below meth c nL Q n hp cells slots (pc + 1) lv (.int (x + y) :: st)) : hv_W G p l e R s m args below meth c nL Q n hp cells slots pc lv (.int y :: .int x :: st) := fun H locs ls h1 h2 h3 h4 => lv_iadd X.1 X.2.1 hd (k H locs ls h1 h2 h3 h4)
theorem hw_isub (X : hv_X G p s m args c Ts own cc nL) {x y : Int32} (hd : decode cc pc = .ok (.isub, 1))  (k : hv_W G p l e R s m args below meth c nL Q n hp cells slots (pc + 1) lv (.int (x - y) :: st)) : hv_W G p l e R s m args below meth c nL Q n hp cells slots pc lv (.int y :: .int x :: st) := fun H locs ls h1 h2 h3 h4 => lv_isub X.1 X.2.1 hd (k H locs ls h1 h2 h3 h4)
theorem hw_imul (X : hv_X G p s m args c Ts own cc nL) {x y : Int32} (hd : decode cc pc = .ok (.imul, 1))  (k : hv_W G p l e R s m args below meth c nL Q n hp cells slots (pc + 1) lv (.int (x * y) :: st)) : hv_W G p l e R s m args below meth c nL Q n hp cells slots pc lv (.int y :: .int x :: st) := fun H locs ls h1 h2 h3 h4 => lv_imul X.1 X.2.1 hd (k H locs ls h1 h2 h3 h4)
theorem hw_iand (X : hv_X G p s m args c Ts own cc nL) {x y : Int32} (hd : decode cc pc = .ok (.iand, 1))  (k : hv_W G p l e R s m args below meth c nL Q n hp cells slots (pc + 1) lv (.int (x &&& y) :: st)) : hv_W G p l e R s m args below meth c nL Q n hp cells slots pc lv (.int y :: .int x :: st) := fun H locs ls h1 h2 h3 h4 => lv_iand X.1 X.2.1 hd (k H locs ls h1 h2 h3 h4)
theorem hw_ior (X : hv_X G p s m args c Ts own cc nL) {x y : Int32} (hd : decode cc pc = .ok (.ior, 1))  (k : hv_W G p l e R s m args below meth c nL Q n hp cells slots (pc + 1) lv (.int (x ||| y) :: st)) : hv_W G p l e R s m args below meth c nL Q n hp cells slots pc lv (.int y :: .int x :: st) := fun H locs ls h1 h2 h3 h4 => lv_ior X.1 X.2.1 hd (k H locs ls h1 h2 h3 h4)
theorem hw_ixor (X : hv_X G p s m args c Ts own cc nL) {x y : Int32} (hd : decode cc pc = .ok (.ixor, 1))  (k : hv_W G p l e R s m args below meth c nL Q n hp cells slots (pc + 1) lv (.int (x ^^^ y) :: st)) : hv_W G p l e R s m args below meth c nL Q n hp cells slots pc lv (.int y :: .int x :: st) := fun H locs ls h1 h2 h3 h4 => lv_ixor X.1 X.2.1 hd (k H locs ls h1 h2 h3 h4)
theorem hw_idiv (X : hv_X G p s m args c Ts own cc nL) {x y : Int32} (hd : decode cc pc = .ok (.idiv, 1)) (hne : ¬ y = 0) (k : hv_W G p l e R s m args below meth c nL Q n hp cells slots (pc + 1) lv (.int (x / y) :: st)) : hv_W G p l e R s m args below meth c nL Q n hp cells slots pc lv (.int y :: .int x :: st) := fun H locs ls h1 h2 h3 h4 => lv_idiv X.1 X.2.1 hd hne (k H locs ls h1 h2 h3 h4)
theorem hw_irem (X : hv_X G p s m args c Ts own cc nL) {x y : Int32} (hd : decode cc pc = .ok (.irem, 1)) (hne : ¬ y = 0) (k : hv_W G p l e R s m args below meth c nL Q n hp cells slots (pc + 1) lv (.int (x - x / y * y) :: st)) : hv_W G p l e R s m args below meth c nL Q n hp cells slots pc lv (.int y :: .int x :: st) := fun H locs ls h1 h2 h3 h4 => lv_irem X.1 X.2.1 hd hne (k H locs ls h1 h2 h3 h4)
theorem hw_ishl (X : hv_X G p s m args c Ts own cc nL) {x y : Int32} (hd : decode cc pc = .ok (.ishl, 1))  (k : hv_W G p l e R s m args below meth c nL Q n hp cells slots (pc + 1) lv (.int (x <<< (y &&& 31)) :: st)) : hv_W G p l e R s m args below meth c nL Q n hp cells slots pc lv (.int y :: .int x :: st) := fun H locs ls h1 h2 h3 h4 => lv_ishl X.1 X.2.1 hd (k H locs ls h1 h2 h3 h4)
theorem hw_ishr (X : hv_X G p s m args c Ts own cc nL) {x y : Int32} (hd : decode cc pc = .ok (.ishr, 1))  (k : hv_W G p l e R s m args below meth c nL Q n hp cells slots (pc + 1) lv (.int (x >>> (y &&& 31)) :: st)) : hv_W G p l e R s m args below meth c nL Q n hp cells slots pc lv (.int y :: .int x :: st) := fun H locs ls h1 h2 h3 h4 => lv_ishr X.1 X.2.1 hd (k H locs ls h1 h2 h3 h4)
theorem hw_iushr (X : hv_X G p s m args c Ts own cc nL) {x y : Int32} (hd : decode cc pc = .ok (.iushr, 1))  (k : hv_W G p l e R s m args below meth c nL Q n hp cells slots (pc + 1) lv (.int ((x.toUInt32 >>> (y.toUInt32 &&& Int32.toUInt32 31)).toInt32) :: st)) : hv_W G p l e R s m args below meth c nL Q n hp cells slots pc lv (.int y :: .int x :: st) := fun H locs ls h1 h2 h3 h4 => lv_iushr X.1 X.2.1 hd rfl (k H locs ls h1 h2 h3 h4)
theorem hw_ladd (X : hv_X G p s m args c Ts own cc nL) {x y : Int64} (hd : decode cc pc = .ok (.ladd, 1))  (k : hv_W G p l e R s m args below meth c nL Q n hp cells slots (pc + 1) lv (.long (x + y) :: st)) : hv_W G p l e R s m args below meth c nL Q n hp cells slots pc lv (.long y :: .long x :: st) := fun H locs ls h1 h2 h3 h4 => lv_ladd X.1 X.2.1 hd (k H locs ls h1 h2 h3 h4)
theorem hw_lsub (X : hv_X G p s m args c Ts own cc nL) {x y : Int64} (hd : decode cc pc = .ok (.lsub, 1))  (k : hv_W G p l e R s m args below meth c nL Q n hp cells slots (pc + 1) lv (.long (x - y) :: st)) : hv_W G p l e R s m args below meth c nL Q n hp cells slots pc lv (.long y :: .long x :: st) := fun H locs ls h1 h2 h3 h4 => lv_lsub X.1 X.2.1 hd (k H locs ls h1 h2 h3 h4)
theorem hw_lmul (X : hv_X G p s m args c Ts own cc nL) {x y : Int64} (hd : decode cc pc = .ok (.lmul, 1))  (k : hv_W G p l e R s m args below meth c nL Q n hp cells slots (pc + 1) lv (.long (x * y) :: st)) : hv_W G p l e R s m args below meth c nL Q n hp cells slots pc lv (.long y :: .long x :: st) := fun H locs ls h1 h2 h3 h4 => lv_lmul X.1 X.2.1 hd (k H locs ls h1 h2 h3 h4)
theorem hw_lor (X : hv_X G p s m args c Ts own cc nL) {x y : Int64} (hd : decode cc pc = .ok (.lor, 1))  (k : hv_W G p l e R s m args below meth c nL Q n hp cells slots (pc + 1) lv (.long (x ||| y) :: st)) : hv_W G p l e R s m args below meth c nL Q n hp cells slots pc lv (.long y :: .long x :: st) := fun H locs ls h1 h2 h3 h4 => lv_lor X.1 X.2.1 hd (k H locs ls h1 h2 h3 h4)
theorem hw_lshl (X : hv_X G p s m args c Ts own cc nL) {x : Int64} {y : Int32} (hd : decode cc pc = .ok (.lshl, 1))  (k : hv_W G p l e R s m args below meth c nL Q n hp cells slots (pc + 1) lv (.long (x <<< (y.toInt64 &&& 63)) :: st)) : hv_W G p l e R s m args below meth c nL Q n hp cells slots pc lv (.int y :: .long x :: st) := fun H locs ls h1 h2 h3 h4 => lv_lshl X.1 X.2.1 hd rfl (k H locs ls h1 h2 h3 h4)
theorem hw_lcmp (X : hv_X G p s m args c Ts own cc nL) {x y : Int64} (hd : decode cc pc = .ok (.lcmp, 1))  (k : hv_W G p l e R s m args below meth c nL Q n hp cells slots (pc + 1) lv (.int (lg_cmp x y) :: st)) : hv_W G p l e R s m args below meth c nL Q n hp cells slots pc lv (.long y :: .long x :: st) := fun H locs ls h1 h2 h3 h4 => W.lcmp X.1 X.2.1 hd (k H locs ls h1 h2 h3 h4)
theorem hw_i2l (X : hv_X G p s m args c Ts own cc nL) {x : Int32} (hd : decode cc pc = .ok (.i2l, 1))  (k : hv_W G p l e R s m args below meth c nL Q n hp cells slots (pc + 1) lv (.long x.toInt64 :: st)) : hv_W G p l e R s m args below meth c nL Q n hp cells slots pc lv (.int x :: st) := fun H locs ls h1 h2 h3 h4 => lv_i2l X.1 X.2.1 hd rfl (k H locs ls h1 h2 h3 h4)
theorem hw_l2i (X : hv_X G p s m args c Ts own cc nL) {x : Int64} (hd : decode cc pc = .ok (.l2i, 1))  (k : hv_W G p l e R s m args below meth c nL Q n hp cells slots (pc + 1) lv (.int x.toInt32 :: st)) : hv_W G p l e R s m args below meth c nL Q n hp cells slots pc lv (.long x :: st) := fun H locs ls h1 h2 h3 h4 => lv_l2i X.1 X.2.1 hd rfl (k H locs ls h1 h2 h3 h4)
theorem hw_i2b (X : hv_X G p s m args c Ts own cc nL) {x : Int32} (hd : decode cc pc = .ok (.i2b, 1))  (k : hv_W G p l e R s m args below meth c nL Q n hp cells slots (pc + 1) lv (.int x.toInt8.toInt32 :: st)) : hv_W G p l e R s m args below meth c nL Q n hp cells slots pc lv (.int x :: st) := fun H locs ls h1 h2 h3 h4 => lv_i2b X.1 X.2.1 hd rfl (k H locs ls h1 h2 h3 h4)
theorem hw_i2c (X : hv_X G p s m args c Ts own cc nL) {x : Int32} (hd : decode cc pc = .ok (.i2c, 1))  (k : hv_W G p l e R s m args below meth c nL Q n hp cells slots (pc + 1) lv (.int (x.toUInt32 % 65536).toInt32 :: st)) : hv_W G p l e R s m args below meth c nL Q n hp cells slots pc lv (.int x :: st) := fun H locs ls h1 h2 h3 h4 => lv_i2c X.1 X.2.1 hd rfl (k H locs ls h1 h2 h3 h4)
theorem hw_dup (X : hv_X G p s m args c Ts own cc nL) {v : Value} (hd : decode cc pc = .ok (.dup, 1)) (hc : v.category = 1) (k : hv_W G p l e R s m args below meth c nL Q n hp cells slots (pc + 1) lv (v :: v :: st)) : hv_W G p l e R s m args below meth c nL Q n hp cells slots pc lv (v :: st) := fun H locs ls h1 h2 h3 h4 => lv_dup X.1 X.2.1 hd ((hv_cat G v).trans hc) (k H locs ls h1 h2 h3 h4)
theorem hw_pop (X : hv_X G p s m args c Ts own cc nL) {v : Value} (hd : decode cc pc = .ok (.pop, 1)) (hc : v.category = 1) (k : hv_W G p l e R s m args below meth c nL Q n hp cells slots (pc + 1) lv st) : hv_W G p l e R s m args below meth c nL Q n hp cells slots pc lv (v :: st) := fun H locs ls h1 h2 h3 h4 => lv_pop X.1 X.2.1 hd ((hv_cat G v).trans hc) (k H locs ls h1 h2 h3 h4)
theorem hw_dup2 (X : hv_X G p s m args c Ts own cc nL) {v w : Value} (hd : decode cc pc = .ok (.dup2, 1)) (hc : v.category = 1) (hw : w.category = 1) (k : hv_W G p l e R s m args below meth c nL Q n hp cells slots (pc + 1) lv (v :: w :: v :: w :: st)) : hv_W G p l e R s m args below meth c nL Q n hp cells slots pc lv (v :: w :: st) := fun H locs ls h1 h2 h3 h4 => lv_dup2_11 X.1 X.2.1 hd ((hv_cat G v).trans hc) ((hv_cat G w).trans hw) (k H locs ls h1 h2 h3 h4)
theorem hw_if_eq (X : hv_X G p s m args c Ts own cc nL) {x : Int32} {off : Int} {tgt : Nat} (hd : decode cc pc = .ok (.ifCond .eq off, 3)) (ht : (pc : Int) + off = (tgt : Int)) (kt : x = 0 → hv_W G p l e R s m args below meth c nL Q n hp cells slots tgt lv st) (kf : ¬ x = 0 → hv_W G p l e R s m args below meth c nL Q n hp cells slots (pc + 3) lv st) : hv_W G p l e R s m args below meth c nL Q n hp cells slots pc lv (.int x :: st) := fun H locs ls h1 h2 h3 h4 => lv_if_eq X.1 X.2.1 hd ht (fun q => kt q H locs ls h1 h2 h3 h4) (fun q => kf q H locs ls h1 h2 h3 h4)
theorem hw_ifS_eq (X : hv_X G p s m args c Ts own cc nL) {j : UInt32} {x : Int32} {off : Int} {tgt : Nat} (hd : decode cc pc = .ok (.ifCond .eq off, 3)) (ht : (pc : Int) + off = (tgt : Int)) (hj : G.2.1 j.toNat = x) (kt : x = 0 → hv_W G p l e R s m args below meth c nL Q n hp cells slots tgt lv st) (kf : ¬ x = 0 → hv_W G p l e R s m args below meth c nL Q n hp cells slots (pc + 3) lv st) : hv_W G p l e R s m args below meth c nL Q n hp cells slots pc lv (.float j :: st) := by
  subst hj
  exact fun H locs ls h1 h2 h3 h4 => lv_if_eq X.1 X.2.1 hd ht (fun q => kt q H locs ls h1 h2 h3 h4) (fun q => kf q H locs ls h1 h2 h3 h4)
theorem hw_icmp_eq (X : hv_X G p s m args c Ts own cc nL) {x y : Int32} {off : Int} {tgt : Nat} (hd : decode cc pc = .ok (.if_icmp .eq off, 3)) (ht : (pc : Int) + off = (tgt : Int)) (kt : x = y → hv_W G p l e R s m args below meth c nL Q n hp cells slots tgt lv st) (kf : ¬ x = y → hv_W G p l e R s m args below meth c nL Q n hp cells slots (pc + 3) lv st) : hv_W G p l e R s m args below meth c nL Q n hp cells slots pc lv (.int y :: .int x :: st) := fun H locs ls h1 h2 h3 h4 => lv_icmp_eq X.1 X.2.1 hd ht (fun q => kt q H locs ls h1 h2 h3 h4) (fun q => kf q H locs ls h1 h2 h3 h4)
theorem hw_icmpSI_eq (X : hv_X G p s m args c Ts own cc nL) {jx : UInt32} {x y : Int32} {off : Int} {tgt : Nat} (hd : decode cc pc = .ok (.if_icmp .eq off, 3)) (ht : (pc : Int) + off = (tgt : Int)) (hj : G.2.1 jx.toNat = x) (kt : x = y → hv_W G p l e R s m args below meth c nL Q n hp cells slots tgt lv st) (kf : ¬ x = y → hv_W G p l e R s m args below meth c nL Q n hp cells slots (pc + 3) lv st) : hv_W G p l e R s m args below meth c nL Q n hp cells slots pc lv (.int y :: .float jx :: st) := by
  subst hj
  exact fun H locs ls h1 h2 h3 h4 => lv_icmp_eq X.1 X.2.1 hd ht (fun q => kt q H locs ls h1 h2 h3 h4) (fun q => kf q H locs ls h1 h2 h3 h4)
theorem hw_icmpIS_eq (X : hv_X G p s m args c Ts own cc nL) {jy : UInt32} {x y : Int32} {off : Int} {tgt : Nat} (hd : decode cc pc = .ok (.if_icmp .eq off, 3)) (ht : (pc : Int) + off = (tgt : Int)) (hj : G.2.1 jy.toNat = y) (kt : x = y → hv_W G p l e R s m args below meth c nL Q n hp cells slots tgt lv st) (kf : ¬ x = y → hv_W G p l e R s m args below meth c nL Q n hp cells slots (pc + 3) lv st) : hv_W G p l e R s m args below meth c nL Q n hp cells slots pc lv (.float jy :: .int x :: st) := by
  subst hj
  exact fun H locs ls h1 h2 h3 h4 => lv_icmp_eq X.1 X.2.1 hd ht (fun q => kt q H locs ls h1 h2 h3 h4) (fun q => kf q H locs ls h1 h2 h3 h4)
theorem hw_if_ne (X : hv_X G p s m args c Ts own cc nL) {x : Int32} {off : Int} {tgt : Nat} (hd : decode cc pc = .ok (.ifCond .ne off, 3)) (ht : (pc : Int) + off = (tgt : Int)) (kt : ¬ x = 0 → hv_W G p l e R s m args below meth c nL Q n hp cells slots tgt lv st) (kf : x = 0 → hv_W G p l e R s m args below meth c nL Q n hp cells slots (pc + 3) lv st) : hv_W G p l e R s m args below meth c nL Q n hp cells slots pc lv (.int x :: st) := fun H locs ls h1 h2 h3 h4 => lv_if_ne X.1 X.2.1 hd ht (fun q => kt q H locs ls h1 h2 h3 h4) (fun q => kf q H locs ls h1 h2 h3 h4)
theorem hw_ifS_ne (X : hv_X G p s m args c Ts own cc nL) {j : UInt32} {x : Int32} {off : Int} {tgt : Nat} (hd : decode cc pc = .ok (.ifCond .ne off, 3)) (ht : (pc : Int) + off = (tgt : Int)) (hj : G.2.1 j.toNat = x) (kt : ¬ x = 0 → hv_W G p l e R s m args below meth c nL Q n hp cells slots tgt lv st) (kf : x = 0 → hv_W G p l e R s m args below meth c nL Q n hp cells slots (pc + 3) lv st) : hv_W G p l e R s m args below meth c nL Q n hp cells slots pc lv (.float j :: st) := by
  subst hj
  exact fun H locs ls h1 h2 h3 h4 => lv_if_ne X.1 X.2.1 hd ht (fun q => kt q H locs ls h1 h2 h3 h4) (fun q => kf q H locs ls h1 h2 h3 h4)
theorem hw_icmp_ne (X : hv_X G p s m args c Ts own cc nL) {x y : Int32} {off : Int} {tgt : Nat} (hd : decode cc pc = .ok (.if_icmp .ne off, 3)) (ht : (pc : Int) + off = (tgt : Int)) (kt : ¬ x = y → hv_W G p l e R s m args below meth c nL Q n hp cells slots tgt lv st) (kf : x = y → hv_W G p l e R s m args below meth c nL Q n hp cells slots (pc + 3) lv st) : hv_W G p l e R s m args below meth c nL Q n hp cells slots pc lv (.int y :: .int x :: st) := fun H locs ls h1 h2 h3 h4 => lv_icmp_ne X.1 X.2.1 hd ht (fun q => kt q H locs ls h1 h2 h3 h4) (fun q => kf q H locs ls h1 h2 h3 h4)
theorem hw_icmpSI_ne (X : hv_X G p s m args c Ts own cc nL) {jx : UInt32} {x y : Int32} {off : Int} {tgt : Nat} (hd : decode cc pc = .ok (.if_icmp .ne off, 3)) (ht : (pc : Int) + off = (tgt : Int)) (hj : G.2.1 jx.toNat = x) (kt : ¬ x = y → hv_W G p l e R s m args below meth c nL Q n hp cells slots tgt lv st) (kf : x = y → hv_W G p l e R s m args below meth c nL Q n hp cells slots (pc + 3) lv st) : hv_W G p l e R s m args below meth c nL Q n hp cells slots pc lv (.int y :: .float jx :: st) := by
  subst hj
  exact fun H locs ls h1 h2 h3 h4 => lv_icmp_ne X.1 X.2.1 hd ht (fun q => kt q H locs ls h1 h2 h3 h4) (fun q => kf q H locs ls h1 h2 h3 h4)
theorem hw_icmpIS_ne (X : hv_X G p s m args c Ts own cc nL) {jy : UInt32} {x y : Int32} {off : Int} {tgt : Nat} (hd : decode cc pc = .ok (.if_icmp .ne off, 3)) (ht : (pc : Int) + off = (tgt : Int)) (hj : G.2.1 jy.toNat = y) (kt : ¬ x = y → hv_W G p l e R s m args below meth c nL Q n hp cells slots tgt lv st) (kf : x = y → hv_W G p l e R s m args below meth c nL Q n hp cells slots (pc + 3) lv st) : hv_W G p l e R s m args below meth c nL Q n hp cells slots pc lv (.float jy :: .int x :: st) := by
  subst hj
  exact fun H locs ls h1 h2 h3 h4 => lv_icmp_ne X.1 X.2.1 hd ht (fun q => kt q H locs ls h1 h2 h3 h4) (fun q => kf q H locs ls h1 h2 h3 h4)
theorem hw_if_lt (X : hv_X G p s m args c Ts own cc nL) {x : Int32} {off : Int} {tgt : Nat} (hd : decode cc pc = .ok (.ifCond .lt off, 3)) (ht : (pc : Int) + off = (tgt : Int)) (kt : x < 0 → hv_W G p l e R s m args below meth c nL Q n hp cells slots tgt lv st) (kf : ¬ x < 0 → hv_W G p l e R s m args below meth c nL Q n hp cells slots (pc + 3) lv st) : hv_W G p l e R s m args below meth c nL Q n hp cells slots pc lv (.int x :: st) := fun H locs ls h1 h2 h3 h4 => lv_if_lt X.1 X.2.1 hd ht (fun q => kt q H locs ls h1 h2 h3 h4) (fun q => kf q H locs ls h1 h2 h3 h4)
theorem hw_ifS_lt (X : hv_X G p s m args c Ts own cc nL) {j : UInt32} {x : Int32} {off : Int} {tgt : Nat} (hd : decode cc pc = .ok (.ifCond .lt off, 3)) (ht : (pc : Int) + off = (tgt : Int)) (hj : G.2.1 j.toNat = x) (kt : x < 0 → hv_W G p l e R s m args below meth c nL Q n hp cells slots tgt lv st) (kf : ¬ x < 0 → hv_W G p l e R s m args below meth c nL Q n hp cells slots (pc + 3) lv st) : hv_W G p l e R s m args below meth c nL Q n hp cells slots pc lv (.float j :: st) := by
  subst hj
  exact fun H locs ls h1 h2 h3 h4 => lv_if_lt X.1 X.2.1 hd ht (fun q => kt q H locs ls h1 h2 h3 h4) (fun q => kf q H locs ls h1 h2 h3 h4)
theorem hw_icmp_lt (X : hv_X G p s m args c Ts own cc nL) {x y : Int32} {off : Int} {tgt : Nat} (hd : decode cc pc = .ok (.if_icmp .lt off, 3)) (ht : (pc : Int) + off = (tgt : Int)) (kt : x < y → hv_W G p l e R s m args below meth c nL Q n hp cells slots tgt lv st) (kf : ¬ x < y → hv_W G p l e R s m args below meth c nL Q n hp cells slots (pc + 3) lv st) : hv_W G p l e R s m args below meth c nL Q n hp cells slots pc lv (.int y :: .int x :: st) := fun H locs ls h1 h2 h3 h4 => lv_icmp_lt X.1 X.2.1 hd ht (fun q => kt q H locs ls h1 h2 h3 h4) (fun q => kf q H locs ls h1 h2 h3 h4)
theorem hw_icmpSI_lt (X : hv_X G p s m args c Ts own cc nL) {jx : UInt32} {x y : Int32} {off : Int} {tgt : Nat} (hd : decode cc pc = .ok (.if_icmp .lt off, 3)) (ht : (pc : Int) + off = (tgt : Int)) (hj : G.2.1 jx.toNat = x) (kt : x < y → hv_W G p l e R s m args below meth c nL Q n hp cells slots tgt lv st) (kf : ¬ x < y → hv_W G p l e R s m args below meth c nL Q n hp cells slots (pc + 3) lv st) : hv_W G p l e R s m args below meth c nL Q n hp cells slots pc lv (.int y :: .float jx :: st) := by
  subst hj
  exact fun H locs ls h1 h2 h3 h4 => lv_icmp_lt X.1 X.2.1 hd ht (fun q => kt q H locs ls h1 h2 h3 h4) (fun q => kf q H locs ls h1 h2 h3 h4)
theorem hw_icmpIS_lt (X : hv_X G p s m args c Ts own cc nL) {jy : UInt32} {x y : Int32} {off : Int} {tgt : Nat} (hd : decode cc pc = .ok (.if_icmp .lt off, 3)) (ht : (pc : Int) + off = (tgt : Int)) (hj : G.2.1 jy.toNat = y) (kt : x < y → hv_W G p l e R s m args below meth c nL Q n hp cells slots tgt lv st) (kf : ¬ x < y → hv_W G p l e R s m args below meth c nL Q n hp cells slots (pc + 3) lv st) : hv_W G p l e R s m args below meth c nL Q n hp cells slots pc lv (.float jy :: .int x :: st) := by
  subst hj
  exact fun H locs ls h1 h2 h3 h4 => lv_icmp_lt X.1 X.2.1 hd ht (fun q => kt q H locs ls h1 h2 h3 h4) (fun q => kf q H locs ls h1 h2 h3 h4)
theorem hw_if_ge (X : hv_X G p s m args c Ts own cc nL) {x : Int32} {off : Int} {tgt : Nat} (hd : decode cc pc = .ok (.ifCond .ge off, 3)) (ht : (pc : Int) + off = (tgt : Int)) (kt : 0 ≤ x → hv_W G p l e R s m args below meth c nL Q n hp cells slots tgt lv st) (kf : ¬ 0 ≤ x → hv_W G p l e R s m args below meth c nL Q n hp cells slots (pc + 3) lv st) : hv_W G p l e R s m args below meth c nL Q n hp cells slots pc lv (.int x :: st) := fun H locs ls h1 h2 h3 h4 => lv_if_ge X.1 X.2.1 hd ht (fun q => kt q H locs ls h1 h2 h3 h4) (fun q => kf q H locs ls h1 h2 h3 h4)
theorem hw_ifS_ge (X : hv_X G p s m args c Ts own cc nL) {j : UInt32} {x : Int32} {off : Int} {tgt : Nat} (hd : decode cc pc = .ok (.ifCond .ge off, 3)) (ht : (pc : Int) + off = (tgt : Int)) (hj : G.2.1 j.toNat = x) (kt : 0 ≤ x → hv_W G p l e R s m args below meth c nL Q n hp cells slots tgt lv st) (kf : ¬ 0 ≤ x → hv_W G p l e R s m args below meth c nL Q n hp cells slots (pc + 3) lv st) : hv_W G p l e R s m args below meth c nL Q n hp cells slots pc lv (.float j :: st) := by
  subst hj
  exact fun H locs ls h1 h2 h3 h4 => lv_if_ge X.1 X.2.1 hd ht (fun q => kt q H locs ls h1 h2 h3 h4) (fun q => kf q H locs ls h1 h2 h3 h4)
theorem hw_icmp_ge (X : hv_X G p s m args c Ts own cc nL) {x y : Int32} {off : Int} {tgt : Nat} (hd : decode cc pc = .ok (.if_icmp .ge off, 3)) (ht : (pc : Int) + off = (tgt : Int)) (kt : y ≤ x → hv_W G p l e R s m args below meth c nL Q n hp cells slots tgt lv st) (kf : ¬ y ≤ x → hv_W G p l e R s m args below meth c nL Q n hp cells slots (pc + 3) lv st) : hv_W G p l e R s m args below meth c nL Q n hp cells slots pc lv (.int y :: .int x :: st) := fun H locs ls h1 h2 h3 h4 => lv_icmp_ge X.1 X.2.1 hd ht (fun q => kt q H locs ls h1 h2 h3 h4) (fun q => kf q H locs ls h1 h2 h3 h4)
theorem hw_icmpSI_ge (X : hv_X G p s m args c Ts own cc nL) {jx : UInt32} {x y : Int32} {off : Int} {tgt : Nat} (hd : decode cc pc = .ok (.if_icmp .ge off, 3)) (ht : (pc : Int) + off = (tgt : Int)) (hj : G.2.1 jx.toNat = x) (kt : y ≤ x → hv_W G p l e R s m args below meth c nL Q n hp cells slots tgt lv st) (kf : ¬ y ≤ x → hv_W G p l e R s m args below meth c nL Q n hp cells slots (pc + 3) lv st) : hv_W G p l e R s m args below meth c nL Q n hp cells slots pc lv (.int y :: .float jx :: st) := by
  subst hj
  exact fun H locs ls h1 h2 h3 h4 => lv_icmp_ge X.1 X.2.1 hd ht (fun q => kt q H locs ls h1 h2 h3 h4) (fun q => kf q H locs ls h1 h2 h3 h4)
theorem hw_icmpIS_ge (X : hv_X G p s m args c Ts own cc nL) {jy : UInt32} {x y : Int32} {off : Int} {tgt : Nat} (hd : decode cc pc = .ok (.if_icmp .ge off, 3)) (ht : (pc : Int) + off = (tgt : Int)) (hj : G.2.1 jy.toNat = y) (kt : y ≤ x → hv_W G p l e R s m args below meth c nL Q n hp cells slots tgt lv st) (kf : ¬ y ≤ x → hv_W G p l e R s m args below meth c nL Q n hp cells slots (pc + 3) lv st) : hv_W G p l e R s m args below meth c nL Q n hp cells slots pc lv (.float jy :: .int x :: st) := by
  subst hj
  exact fun H locs ls h1 h2 h3 h4 => lv_icmp_ge X.1 X.2.1 hd ht (fun q => kt q H locs ls h1 h2 h3 h4) (fun q => kf q H locs ls h1 h2 h3 h4)
theorem hw_if_gt (X : hv_X G p s m args c Ts own cc nL) {x : Int32} {off : Int} {tgt : Nat} (hd : decode cc pc = .ok (.ifCond .gt off, 3)) (ht : (pc : Int) + off = (tgt : Int)) (kt : 0 < x → hv_W G p l e R s m args below meth c nL Q n hp cells slots tgt lv st) (kf : ¬ 0 < x → hv_W G p l e R s m args below meth c nL Q n hp cells slots (pc + 3) lv st) : hv_W G p l e R s m args below meth c nL Q n hp cells slots pc lv (.int x :: st) := fun H locs ls h1 h2 h3 h4 => lv_if_gt X.1 X.2.1 hd ht (fun q => kt q H locs ls h1 h2 h3 h4) (fun q => kf q H locs ls h1 h2 h3 h4)
theorem hw_ifS_gt (X : hv_X G p s m args c Ts own cc nL) {j : UInt32} {x : Int32} {off : Int} {tgt : Nat} (hd : decode cc pc = .ok (.ifCond .gt off, 3)) (ht : (pc : Int) + off = (tgt : Int)) (hj : G.2.1 j.toNat = x) (kt : 0 < x → hv_W G p l e R s m args below meth c nL Q n hp cells slots tgt lv st) (kf : ¬ 0 < x → hv_W G p l e R s m args below meth c nL Q n hp cells slots (pc + 3) lv st) : hv_W G p l e R s m args below meth c nL Q n hp cells slots pc lv (.float j :: st) := by
  subst hj
  exact fun H locs ls h1 h2 h3 h4 => lv_if_gt X.1 X.2.1 hd ht (fun q => kt q H locs ls h1 h2 h3 h4) (fun q => kf q H locs ls h1 h2 h3 h4)
theorem hw_icmp_gt (X : hv_X G p s m args c Ts own cc nL) {x y : Int32} {off : Int} {tgt : Nat} (hd : decode cc pc = .ok (.if_icmp .gt off, 3)) (ht : (pc : Int) + off = (tgt : Int)) (kt : y < x → hv_W G p l e R s m args below meth c nL Q n hp cells slots tgt lv st) (kf : ¬ y < x → hv_W G p l e R s m args below meth c nL Q n hp cells slots (pc + 3) lv st) : hv_W G p l e R s m args below meth c nL Q n hp cells slots pc lv (.int y :: .int x :: st) := fun H locs ls h1 h2 h3 h4 => lv_icmp_gt X.1 X.2.1 hd ht (fun q => kt q H locs ls h1 h2 h3 h4) (fun q => kf q H locs ls h1 h2 h3 h4)
theorem hw_icmpSI_gt (X : hv_X G p s m args c Ts own cc nL) {jx : UInt32} {x y : Int32} {off : Int} {tgt : Nat} (hd : decode cc pc = .ok (.if_icmp .gt off, 3)) (ht : (pc : Int) + off = (tgt : Int)) (hj : G.2.1 jx.toNat = x) (kt : y < x → hv_W G p l e R s m args below meth c nL Q n hp cells slots tgt lv st) (kf : ¬ y < x → hv_W G p l e R s m args below meth c nL Q n hp cells slots (pc + 3) lv st) : hv_W G p l e R s m args below meth c nL Q n hp cells slots pc lv (.int y :: .float jx :: st) := by
  subst hj
  exact fun H locs ls h1 h2 h3 h4 => lv_icmp_gt X.1 X.2.1 hd ht (fun q => kt q H locs ls h1 h2 h3 h4) (fun q => kf q H locs ls h1 h2 h3 h4)
theorem hw_icmpIS_gt (X : hv_X G p s m args c Ts own cc nL) {jy : UInt32} {x y : Int32} {off : Int} {tgt : Nat} (hd : decode cc pc = .ok (.if_icmp .gt off, 3)) (ht : (pc : Int) + off = (tgt : Int)) (hj : G.2.1 jy.toNat = y) (kt : y < x → hv_W G p l e R s m args below meth c nL Q n hp cells slots tgt lv st) (kf : ¬ y < x → hv_W G p l e R s m args below meth c nL Q n hp cells slots (pc + 3) lv st) : hv_W G p l e R s m args below meth c nL Q n hp cells slots pc lv (.float jy :: .int x :: st) := by
  subst hj
  exact fun H locs ls h1 h2 h3 h4 => lv_icmp_gt X.1 X.2.1 hd ht (fun q => kt q H locs ls h1 h2 h3 h4) (fun q => kf q H locs ls h1 h2 h3 h4)
theorem hw_if_le (X : hv_X G p s m args c Ts own cc nL) {x : Int32} {off : Int} {tgt : Nat} (hd : decode cc pc = .ok (.ifCond .le off, 3)) (ht : (pc : Int) + off = (tgt : Int)) (kt : x ≤ 0 → hv_W G p l e R s m args below meth c nL Q n hp cells slots tgt lv st) (kf : ¬ x ≤ 0 → hv_W G p l e R s m args below meth c nL Q n hp cells slots (pc + 3) lv st) : hv_W G p l e R s m args below meth c nL Q n hp cells slots pc lv (.int x :: st) := fun H locs ls h1 h2 h3 h4 => lv_if_le X.1 X.2.1 hd ht (fun q => kt q H locs ls h1 h2 h3 h4) (fun q => kf q H locs ls h1 h2 h3 h4)
theorem hw_ifS_le (X : hv_X G p s m args c Ts own cc nL) {j : UInt32} {x : Int32} {off : Int} {tgt : Nat} (hd : decode cc pc = .ok (.ifCond .le off, 3)) (ht : (pc : Int) + off = (tgt : Int)) (hj : G.2.1 j.toNat = x) (kt : x ≤ 0 → hv_W G p l e R s m args below meth c nL Q n hp cells slots tgt lv st) (kf : ¬ x ≤ 0 → hv_W G p l e R s m args below meth c nL Q n hp cells slots (pc + 3) lv st) : hv_W G p l e R s m args below meth c nL Q n hp cells slots pc lv (.float j :: st) := by
  subst hj
  exact fun H locs ls h1 h2 h3 h4 => lv_if_le X.1 X.2.1 hd ht (fun q => kt q H locs ls h1 h2 h3 h4) (fun q => kf q H locs ls h1 h2 h3 h4)
theorem hw_icmp_le (X : hv_X G p s m args c Ts own cc nL) {x y : Int32} {off : Int} {tgt : Nat} (hd : decode cc pc = .ok (.if_icmp .le off, 3)) (ht : (pc : Int) + off = (tgt : Int)) (kt : x ≤ y → hv_W G p l e R s m args below meth c nL Q n hp cells slots tgt lv st) (kf : ¬ x ≤ y → hv_W G p l e R s m args below meth c nL Q n hp cells slots (pc + 3) lv st) : hv_W G p l e R s m args below meth c nL Q n hp cells slots pc lv (.int y :: .int x :: st) := fun H locs ls h1 h2 h3 h4 => lv_icmp_le X.1 X.2.1 hd ht (fun q => kt q H locs ls h1 h2 h3 h4) (fun q => kf q H locs ls h1 h2 h3 h4)
theorem hw_icmpSI_le (X : hv_X G p s m args c Ts own cc nL) {jx : UInt32} {x y : Int32} {off : Int} {tgt : Nat} (hd : decode cc pc = .ok (.if_icmp .le off, 3)) (ht : (pc : Int) + off = (tgt : Int)) (hj : G.2.1 jx.toNat = x) (kt : x ≤ y → hv_W G p l e R s m args below meth c nL Q n hp cells slots tgt lv st) (kf : ¬ x ≤ y → hv_W G p l e R s m args below meth c nL Q n hp cells slots (pc + 3) lv st) : hv_W G p l e R s m args below meth c nL Q n hp cells slots pc lv (.int y :: .float jx :: st) := by
  subst hj
  exact fun H locs ls h1 h2 h3 h4 => lv_icmp_le X.1 X.2.1 hd ht (fun q => kt q H locs ls h1 h2 h3 h4) (fun q => kf q H locs ls h1 h2 h3 h4)
theorem hw_icmpIS_le (X : hv_X G p s m args c Ts own cc nL) {jy : UInt32} {x y : Int32} {off : Int} {tgt : Nat} (hd : decode cc pc = .ok (.if_icmp .le off, 3)) (ht : (pc : Int) + off = (tgt : Int)) (hj : G.2.1 jy.toNat = y) (kt : x ≤ y → hv_W G p l e R s m args below meth c nL Q n hp cells slots tgt lv st) (kf : ¬ x ≤ y → hv_W G p l e R s m args below meth c nL Q n hp cells slots (pc + 3) lv st) : hv_W G p l e R s m args below meth c nL Q n hp cells slots pc lv (.float jy :: .int x :: st) := by
  subst hj
  exact fun H locs ls h1 h2 h3 h4 => lv_icmp_le X.1 X.2.1 hd ht (fun q => kt q H locs ls h1 h2 h3 h4) (fun q => kf q H locs ls h1 h2 h3 h4)
theorem hw_goto (X : hv_X G p s m args c Ts own cc nL) {off : Int} {tgt : Nat} (hd : decode cc pc = .ok (.goto off, 3)) (ht : (pc : Int) + off = (tgt : Int)) (k : hv_W G p l e R s m args below meth c nL Q n hp cells slots tgt lv st) : hv_W G p l e R s m args below meth c nL Q n hp cells slots pc lv st := fun H locs ls h1 h2 h3 h4 => lv_goto X.1 X.2.1 hd ht (k H locs ls h1 h2 h3 h4)
theorem hw_tableOut (X : hv_X G p s m args c Ts own cc nL) {dflt lo hi : Int} {offs : Array Int} {len : Nat} {x : Int32} {tgt : Nat} (hd : decode cc pc = .ok (.tableswitch dflt lo hi offs, len)) (h : x.toInt < lo ∨ hi < x.toInt) (ht : (pc : Int) + dflt = (tgt : Int)) (k : hv_W G p l e R s m args below meth c nL Q n hp cells slots tgt lv st) : hv_W G p l e R s m args below meth c nL Q n hp cells slots pc lv (.int x :: st) := fun H locs ls h1 h2 h3 h4 => lv_tableOut X.1 X.2.1 hd h ht (k H locs ls h1 h2 h3 h4)
theorem hw_tableIn (X : hv_X G p s m args c Ts own cc nL) {dflt lo hi : Int} {offs : Array Int} {len : Nat} {x : Int32} {off : Int} {tgt : Nat} (hd : decode cc pc = .ok (.tableswitch dflt lo hi offs, len)) (g1 : ¬ x.toInt < lo) (g2 : ¬ hi < x.toInt) (ho : offs[(x.toInt - lo).toNat]? = some off) (ht : (pc : Int) + off = (tgt : Int)) (k : hv_W G p l e R s m args below meth c nL Q n hp cells slots tgt lv st) : hv_W G p l e R s m args below meth c nL Q n hp cells slots pc lv (.int x :: st) := fun H locs ls h1 h2 h3 h4 => lv_tableIn X.1 X.2.1 hd g1 g2 ho ht (k H locs ls h1 h2 h3 h4)
end HW
end
section
section HWH
variable {G : hv_G} {p : Program} {l : Launch} {e : Env} {R : Room} {s : State} {m : MethodId} {args : Array Value} {below : List Frame} {meth : Method} {c : Code} {nL : Nat} {Q : State → Prop} {n : Nat} {hp : hv_H} {cells slots pc : Nat} {lv : List (Nat × Value)} {st : List Value} {Ts : List Cond} {own : String} {cc : ByteArray}
theorem hv_world {i ci : Nat} {f : Nat → Value} {H : Heap} {C : String} {T : u_T} {N : Nat} (h : hv_at G i (.inr (ci, f)) H) (hcl : vwCl[ci]? = some (C, T, N)) : va_P G.2.2.1 vwCl [(G.1.1 + i, .inr (ci, (List.range N).map (fun k => hv_v G (f k))))] H := by
  obtain ⟨r, h1, h2⟩ := h
  have hr : r = (C, T, N) := Option.some.inj (h1.symm.trans hcl)
  subst hr
  intro k q hq
  have hk : k < 1 := (List.getElem?_eq_some_iff.mp hq).1
  rw [show k = 0 by omega] at hq
  cases hq
  exact ⟨_, hcl, h2.to (fun j hj => by
    have hj' : j < N := hj
    show hv_v G (f j) = vp_V _ j
    unfold vp_V
    rw [List.getD_eq_getElem?_getD]
    simp [hj'])⟩
theorem hv_fld {N k : Nat} (f : Nat → Value) (hk : k < N) : ((List.range N).map (fun k => hv_v G (f k)))[k]? = some (hv_v G (f k)) := by simp [hk]
theorem hw_get (X : hv_X G p s m args c Ts own cc nL) {ix ci kf i N : Nat} {C : String} {T : u_T} {f : Nat → Value} (hd : decode cc pc = .ok (.getfield ix, 3)) (hcl : vwCl[ci]? = some (C, T, N)) (hin : ∀ w ∈ u_ws C T N, w ∈ Ts) (hk : kf < N)
    (hl : Cond.fieldLink own ix (T kf).1 (T kf).2.1 (T kf).2.2.1 ∈ Ts ∨ ∃ host : String, Cond.fieldLinkNest own ix (T kf).1 (T kf).2.1 (T kf).2.2.1 host ∈ Ts) (hi : hp i = some (.inr (ci, f)))
    (k : hv_W G p l e R s m args below meth c nL Q n hp cells slots (pc + 3) lv (f kf :: st)) : hv_W G p l e R s m args below meth c nL Q n hp cells slots pc lv (.ref (i + 1) :: st) := by
  intro H locs ls h1 h2 h3 h4
  have hw := hv_world (h1.2 i _ hi) hcl
  obtain ⟨hx, hb, hml, hown, hts, hK, hB, hbB, hX⟩ := X
  rcases hl with hl | ⟨host, hl⟩
  · exact va_get hx hb hts hin hown hK hw 0 rfl hcl kf hk (hts _ hl) (fun _ h => h) (hv_fld f hk) hd (k H locs ls h1 h2 h3 h4)
  · exact va_getN hx hb hts hin hown hK hw 0 rfl hcl kf hk (hts _ hl) (fun _ h => h) (hv_fld f hk) hd (k H locs ls h1 h2 h3 h4)
theorem hv_locs {B : Nat} {locs : List Loc} {a k : Nat} (h3 : ∀ q ∈ locs, B ≤ q.base) (ha : B ≤ a) : ∀ q ∈ locs ++ [⟨a, k⟩], B ≤ q.base := by
  intro q hq
  rcases List.mem_append.mp hq with h | h
  · exact h3 q h
  · cases List.mem_singleton.mp h
    exact ha
theorem hv_low {B a : Nat} {H H1 Hs : Heap} (h2 : ∀ q : Nat, q < B → H[q]? = Hs[q]?) (oq : ∀ q : Nat, q ≠ a → H1[q]? = H[q]?) (ha : B ≤ a) : ∀ q : Nat, q < B → H1[q]? = Hs[q]? := fun q hq => (oq q (by omega)).trans (h2 q hq)
theorem hw_put (X : hv_X G p s m args c Ts own cc nL) {ix ci kf i N : Nat} {C : String} {T : u_T} {f : Nat → Value} {ty0 : Nat → FieldType} {v : Value} (hd : decode cc pc = .ok (.putfield ix, 3)) (hcl : vwCl[ci]? = some (C, T, N)) (hin : ∀ w ∈ u_ws C T N, w ∈ Ts) (hty : ∀ k, k < N → parseFieldDescriptor (T k).2.2.1 = some (ty0 k)) (hnm : ∀ a, a < N → ∀ b, b < N → a ≠ b → (T a).2.1 ≠ (T b).2.1) (hk : kf < N)
    (hl : (Cond.fieldLink own ix (T kf).1 (T kf).2.1 (T kf).2.2.1 ∈ Ts ∧ (T kf).2.2.2 = false) ∨ (∃ host : String, Cond.fieldLinkNest own ix (T kf).1 (T kf).2.1 (T kf).2.2.1 host ∈ Ts ∧ (T kf).2.2.2 = false) ∨ (Cond.fieldLink own ix (T kf).1 (T kf).2.1 (T kf).2.2.1 ∈ Ts ∧ (T kf).2.2.2 = true ∧ meth.name = "<init>" ∧ (T kf).1 = own))
    (hn : narrow (ty0 kf) (hv_v G v) = hv_v G v) (hf : fits (ty0 kf) (hv_v G v) = true) (hi : hp i = some (.inr (ci, f)))
    (k : hv_W G p l e R s m args below meth c nL Q n (hv_up hp i (.inr (ci, hv_uv f kf v))) cells slots (pc + 3) lv st) : hv_W G p l e R s m args below meth c nL Q n hp cells slots pc lv (v :: .ref (i + 1) :: st) := by
  intro H locs ls h1 h2 h3 h4
  obtain ⟨hx, hb, hml, hown, hts, hK, hB, hbB, hX⟩ := X
  have hap := va_apart (own := own) hts hin ty0 hty hnm hK hcl
  obtain ⟨r, g1, cell, q1, q2, q3, q4⟩ := h1.2 i _ hi
  have hr : r = (C, T, N) := Option.some.inj (g1.symm.trans hcl)
  subst hr
  obtain ⟨hS, hfc, kC, hkC, hkind⟩ := hK.1 ci _ hcl
  obtain ⟨cf, kf1, fi, f1, hfi, hsl⟩ := hS kf hk
  have hlay := hts _ (hin _ (u_in_lay hk))
  unfold u_lay at hlay
  have hst := (u_facts hfc hkC (u_lays hts hin hk) hfi).1
  have done : ∀ H' : Heap, H'[G.1.1 + i]? = some (cell.setSlot f1.slot (hv_v G v)) → H'.size = H.size → (∀ q : Nat, q ≠ G.1.1 + i → H'[q]? = H[q]?) → W p l e R s m args below meth c H' (locs ++ [⟨G.1.1 + i, f1.slot⟩]) cells slots Q (F0 m (pc + 3) ls (st.map (hv_v G))) := by
    intro H' e1 e2 e3
    refine k H' _ ls (h1.set ?_ e2 e3) (hv_low h2 e3 (Nat.le_add_right _ _)) (hv_locs h3 (Nat.le_add_right _ _)) h4
    refine ⟨_, hcl, ?_⟩
    rw [hv_v_uv]
    rw [hsl] at e1
    exact ⟨_, e1, q2, q3, t_set q4 hap hk (hv_v G v)⟩
  rcases hl with ⟨hl, hfin⟩ | ⟨host, hl, hfin⟩ | ⟨hl, hfin, hin2, hdecl⟩
  · rw [if_neg (by rw [hfin]; decide)] at hlay
    have h6 := u_store hfc hkC hkind hlay hfi (hty kf hk) hn hf
    exact W.putK hx hb (f := f1) ⟨hown, hts _ hl, ⟨_, _, _, hfi⟩, hst⟩ (by rw [q2]; exact h6) q1 q3 (by rw [hsl]; exact k2_hasslot (q4 kf hk)) rfl rfl hd done
  · rw [if_neg (by rw [hfin]; decide)] at hlay
    have h6 := u_store hfc hkC hkind hlay hfi (hty kf hk) hn hf
    exact va_WputK hx hb (f := f1) hown (hts _ hl) hfi hst (by rw [q2]; exact h6) q1 q3 (by rw [hsl]; exact k2_hasslot (q4 kf hk)) rfl rfl hd done
  · rw [if_pos hfin] at hlay
    have hcf : m.cls = cf := by
      obtain ⟨_, _, c', _, _, _, -, -, hf', -, -, -, hown2, -⟩ := Cond.laysFinal_spec hlay
      have e1 : c' = cf := by have := hfi.symm.trans hf'; simp at this; exact this.1.symm
      rw [hdecl] at hown2
      rw [← e1]; exact Option.some.inj (hown.symm.trans hown2)
    have h6 := u_fits hfc hkC hkind (Or.inr hlay) hfi (hty kf hk) hn hf
    exact W.putFinK hx hb hown (hts _ hl) hfi hst hcf hin2 (by rw [q2]; exact h6) q1 q3 (by rw [hsl]; exact k2_hasslot (q4 kf hk)) rfl rfl hd done
theorem hv_rd {cA : ClassId} {N : Nat} {f : Nat → Value} {j : Int32} (hin : vp_in j N) : ¬ (j < 0 ∨ (arrV cA N f).slots.size ≤ j.toNatClampNeg) ∧ (arrV cA N f).slots[j.toNatClampNeg]? = some (f j.toNatClampNeg) := by
  have hlt : j.toNatClampNeg < N := Nat.not_le.mp fun q => hin (Or.inr q)
  exact ⟨by rw [arrV_size]; exact hin, arrV_read _ _ hlt⟩
theorem hv_arr (hK : va_K G.2.2.1 vwCl (hv_tys G) s) {t : Nat} {ty : FieldType} (ht : hv_tyl[t]? = some ty) (N : Nat) (f : Nat → Value) : s.isArrayOf (arrV (G.2.2.2 t) N f) ty := (hK.2 t _ (hv_tys_at ht)).1 N f
theorem hw_iald (X : hv_X G p s m args c Ts own cc nL) {i N : Nat} {f : Nat → Value} {j : Int32} (hd : decode cc pc = .ok (.iaload, 1)) (hi : hp i = some (.inl (1, N, f))) (hin : vp_in j N)
    (k : hv_W G p l e R s m args below meth c nL Q n hp cells slots (pc + 1) lv (f j.toNatClampNeg :: st)) : hv_W G p l e R s m args below meth c nL Q n hp cells slots pc lv (.int j :: .ref (i + 1) :: st) := by
  intro H locs ls h1 h2 h3 h4
  obtain ⟨g1, g2⟩ := hv_rd (cA := G.2.2.2 1) (f := fun j => hv_v G (f j)) hin
  exact W.iald X.1 X.2.1 (h1.2 i _ hi) (hv_arr X.2.2.2.2.2.1 rfl N _) (fun q => by cases q) g1 g2 rfl rfl hd (k H locs ls h1 h2 h3 h4)
theorem hw_bald (X : hv_X G p s m args c Ts own cc nL) {i N : Nat} {f : Nat → Value} {j : Int32} (hd : decode cc pc = .ok (.baload, 1)) (hi : hp i = some (.inl (0, N, f))) (hin : vp_in j N)
    (k : hv_W G p l e R s m args below meth c nL Q n hp cells slots (pc + 1) lv (f j.toNatClampNeg :: st)) : hv_W G p l e R s m args below meth c nL Q n hp cells slots pc lv (.int j :: .ref (i + 1) :: st) := by
  intro H locs ls h1 h2 h3 h4
  obtain ⟨g1, g2⟩ := hv_rd (cA := G.2.2.2 0) (f := fun j => hv_v G (f j)) hin
  exact W.bald X.1 X.2.1 (h1.2 i _ hi) (hv_arr X.2.2.2.2.2.1 rfl N _) (fun q => by cases q) g1 g2 rfl rfl hd (k H locs ls h1 h2 h3 h4)
theorem hw_zald (X : hv_X G p s m args c Ts own cc nL) {i N : Nat} {f : Nat → Value} {j : Int32} (hd : decode cc pc = .ok (.baload, 1)) (hi : hp i = some (.inl (3, N, f))) (hin : vp_in j N)
    (k : hv_W G p l e R s m args below meth c nL Q n hp cells slots (pc + 1) lv (f j.toNatClampNeg :: st)) : hv_W G p l e R s m args below meth c nL Q n hp cells slots pc lv (.int j :: .ref (i + 1) :: st) := by
  intro H locs ls h1 h2 h3 h4
  obtain ⟨g1, g2⟩ := hv_rd (cA := G.2.2.2 3) (f := fun j => hv_v G (f j)) hin
  exact W.zald X.1 X.2.1 (h1.2 i _ hi) (hv_arr X.2.2.2.2.2.1 rfl N _) (fun q => by cases q) g1 g2 rfl rfl hd (k H locs ls h1 h2 h3 h4)
theorem hw_lald (X : hv_X G p s m args c Ts own cc nL) {i N : Nat} {f : Nat → Value} {j : Int32} (hd : decode cc pc = .ok (.laload, 1)) (hi : hp i = some (.inl (2, N, f))) (hin : vp_in j N)
    (k : hv_W G p l e R s m args below meth c nL Q n hp cells slots (pc + 1) lv (f j.toNatClampNeg :: st)) : hv_W G p l e R s m args below meth c nL Q n hp cells slots pc lv (.int j :: .ref (i + 1) :: st) := by
  intro H locs ls h1 h2 h3 h4
  obtain ⟨g1, g2⟩ := hv_rd (cA := G.2.2.2 2) (f := fun j => hv_v G (f j)) hin
  exact W.lald X.1 X.2.1 (h1.2 i _ hi) (hv_arr X.2.2.2.2.2.1 rfl N _) (fun q => by cases q) g1 g2 rfl rfl hd (k H locs ls h1 h2 h3 h4)
theorem hw_aald (X : hv_X G p s m args c Ts own cc nL) {t i N : Nat} {ty : FieldType} {f : Nat → Value} {j : Int32} (hd : decode cc pc = .ok (.aaload, 1)) (ht : hv_tyl[t]? = some ty) (hr : ty.isReference = true) (hi : hp i = some (.inl (t, N, f))) (hin : vp_in j N)
    (k : hv_W G p l e R s m args below meth c nL Q n hp cells slots (pc + 1) lv (f j.toNatClampNeg :: st)) : hv_W G p l e R s m args below meth c nL Q n hp cells slots pc lv (.int j :: .ref (i + 1) :: st) := by
  intro H locs ls h1 h2 h3 h4
  obtain ⟨g1, g2⟩ := hv_rd (cA := G.2.2.2 t) (f := fun j => hv_v G (f j)) hin
  exact W.aald X.1 X.2.1 (h1.2 i _ hi) (hv_arr X.2.2.2.2.2.1 ht N _) hr (fun q => by cases q) g1 g2 rfl rfl hd (k H locs ls h1 h2 h3 h4)
theorem hv_ast {i t N : Nat} {f : Nat → Value} {H H1 : Heap} {j : Nat} {v w : Value} (h1 : hv_P G n hp H) (hvw : hv_v G v = w) (e1 : H1[G.1.1 + i]? = some ((arrV (G.2.2.2 t) N (fun j => hv_v G (f j))).setSlot j w)) (z : H1.size = H.size) (oq : ∀ q : Nat, q ≠ G.1.1 + i → H1[q]? = H[q]?) : hv_P G n (hv_up hp i (.inl (t, N, hv_uv f j v))) H1 := by
  refine h1.set ?_ z oq
  show H1[G.1.1 + i]? = some (arrV _ _ _)
  rw [e1, arrV_store, ← hvw]
  exact congrArg (fun z => some (arrV _ _ z)) (hv_v_uv G f j v).symm
theorem hw_iast (X : hv_X G p s m args c Ts own cc nL) {i N : Nat} {f : Nat → Value} {j x : Int32} {v : Value} (hd : decode cc pc = .ok (.iastore, 1)) (hv : hv_v G v = .int x) (hi : hp i = some (.inl (1, N, f))) (hin : vp_in j N)
    (k : hv_W G p l e R s m args below meth c nL Q n (hv_up hp i (.inl (1, N, hv_uv f j.toNatClampNeg v))) cells slots (pc + 1) lv st) : hv_W G p l e R s m args below meth c nL Q n hp cells slots pc lv (v :: .int j :: .ref (i + 1) :: st) := by
  intro H locs ls h1 h2 h3 h4
  obtain ⟨g1, -⟩ := hv_rd (cA := G.2.2.2 1) (f := fun j => hv_v G (f j)) hin
  show W p l e R s m args below meth c H locs cells slots Q (F0 m pc ls (hv_v G v :: .int j :: .ref (G.1.1 + i) :: st.map (hv_v G)))
  rw [hv]
  exact W.iast X.1 X.2.1 (h1.2 i _ hi) (hv_arr X.2.2.2.2.2.1 rfl N _) (fun q => by cases q) g1 rfl rfl hd (fun H1 e1 z oq => k H1 _ ls (hv_ast h1 hv e1 z oq) (hv_low h2 oq (Nat.le_add_right _ _)) (hv_locs h3 (Nat.le_add_right _ _)) h4)
theorem hw_bast (X : hv_X G p s m args c Ts own cc nL) {i N : Nat} {f : Nat → Value} {j x : Int32} (hd : decode cc pc = .ok (.bastore, 1)) (hi : hp i = some (.inl (0, N, f))) (hin : vp_in j N)
    (k : hv_W G p l e R s m args below meth c nL Q n (hv_up hp i (.inl (0, N, hv_uv f j.toNatClampNeg (.int x.toInt8.toInt32)))) cells slots (pc + 1) lv st) : hv_W G p l e R s m args below meth c nL Q n hp cells slots pc lv (.int x :: .int j :: .ref (i + 1) :: st) := by
  intro H locs ls h1 h2 h3 h4
  obtain ⟨g1, -⟩ := hv_rd (cA := G.2.2.2 0) (f := fun j => hv_v G (f j)) hin
  exact W.bast X.1 X.2.1 (h1.2 i _ hi) (hv_arr X.2.2.2.2.2.1 rfl N _) (fun q => by cases q) g1 rfl rfl hd (fun H1 e1 z oq => k H1 _ ls (hv_ast h1 rfl e1 z oq) (hv_low h2 oq (Nat.le_add_right _ _)) (hv_locs h3 (Nat.le_add_right _ _)) h4)
theorem hw_zast (X : hv_X G p s m args c Ts own cc nL) {i N : Nat} {f : Nat → Value} {j x y : Int32} (hd : decode cc pc = .ok (.bastore, 1)) (hy : narrow .boolean (.int x) = .int y) (hi : hp i = some (.inl (3, N, f))) (hin : vp_in j N)
    (k : hv_W G p l e R s m args below meth c nL Q n (hv_up hp i (.inl (3, N, hv_uv f j.toNatClampNeg (.int y)))) cells slots (pc + 1) lv st) : hv_W G p l e R s m args below meth c nL Q n hp cells slots pc lv (.int x :: .int j :: .ref (i + 1) :: st) := by
  intro H locs ls h1 h2 h3 h4
  obtain ⟨g1, -⟩ := hv_rd (cA := G.2.2.2 3) (f := fun j => hv_v G (f j)) hin
  exact W.zast X.1 X.2.1 (h1.2 i _ hi) (hv_arr X.2.2.2.2.2.1 rfl N _) (fun q => by cases q) g1 rfl rfl hd (fun H1 e1 z oq => k H1 _ ls (hv_ast h1 hy.symm e1 z oq) (hv_low h2 oq (Nat.le_add_right _ _)) (hv_locs h3 (Nat.le_add_right _ _)) h4)
theorem hw_last (X : hv_X G p s m args c Ts own cc nL) {i N : Nat} {f : Nat → Value} {j : Int32} {x : Int64} (hd : decode cc pc = .ok (.lastore, 1)) (hi : hp i = some (.inl (2, N, f))) (hin : vp_in j N)
    (k : hv_W G p l e R s m args below meth c nL Q n (hv_up hp i (.inl (2, N, hv_uv f j.toNatClampNeg (.long x)))) cells slots (pc + 1) lv st) : hv_W G p l e R s m args below meth c nL Q n hp cells slots pc lv (.long x :: .int j :: .ref (i + 1) :: st) := by
  intro H locs ls h1 h2 h3 h4
  obtain ⟨g1, -⟩ := hv_rd (cA := G.2.2.2 2) (f := fun j => hv_v G (f j)) hin
  exact W.last X.1 X.2.1 (h1.2 i _ hi) (hv_arr X.2.2.2.2.2.1 rfl N _) (fun q => by cases q) g1 rfl rfl hd (fun H1 e1 z oq => k H1 _ ls (hv_ast h1 rfl e1 z oq) (hv_low h2 oq (Nat.le_add_right _ _)) (hv_locs h3 (Nat.le_add_right _ _)) h4)
theorem hw_aast (X : hv_X G p s m args c Ts own cc nL) {t i iv ci N : Nat} {r : vw_C} {f g : Nat → Value} {j : Int32} (hd : decode cc pc = .ok (.aastore, 1)) (ht : hv_tyl[t]? = some (.object r.1)) (hi : hp i = some (.inl (t, N, f))) (hv : hp iv = some (.inr (ci, g))) (hc : vwCl[ci]? = some r) (hin : vp_in j N)
    (k : hv_W G p l e R s m args below meth c nL Q n (hv_up hp i (.inl (t, N, hv_uv f j.toNatClampNeg (.ref (iv + 1))))) cells slots (pc + 1) lv st) : hv_W G p l e R s m args below meth c nL Q n hp cells slots pc lv (.ref (iv + 1) :: .int j :: .ref (i + 1) :: st) := by
  intro H locs ls h1 h2 h3 h4
  have hK := X.2.2.2.2.2.1
  have hlt : j.toNatClampNeg < N := Nat.not_le.mp fun q => hin (Or.inr q)
  have h0 : ¬ j < 0 := fun q => hin (Or.inl q)
  obtain ⟨r', hr', cellV, g1, g2, g3, -⟩ := h1.2 iv _ hv
  have hcls := (hK.1 ci r hc).2
  obtain ⟨kA, comp, k1, k2, k3, -⟩ := (hK.2 t _ (hv_tys_at ht)).2
  have hcomp : comp = G.2.2.1.1 ci := Option.some.inj (k3.symm.trans hcls.1)
  subst hcomp
  obtain ⟨kC, hkC, -⟩ := hcls.2
  refine W.aast X.1 X.2.1 (h1.2 i _ hi) (fun q h => by cases h) (fun h => by cases h) k1 k2 rfl hkC ⟨h0, by show _ < (arrV _ _ _).slots.size; rw [arrV_size]; exact hlt⟩ g1 (fun q h => by rw [g3] at h; cases h) (by rw [g2]; exact hkC) (by rw [g2]; exact va_assign hcls) rfl rfl hd (fun H1 e1 z oq => ?_)
  exact k H1 _ ls (hv_ast h1 rfl e1 z oq) (hv_low h2 oq (Nat.le_add_right _ _)) (hv_locs h3 (Nat.le_add_right _ _)) h4
theorem hw_alen (X : hv_X G p s m args c Ts own cc nL) {t i N : Nat} {ty : FieldType} {f : Nat → Value} {v : Int32} (hd : decode cc pc = .ok (.arraylength, 1)) (ht : hv_tyl[t]? = some ty) (hi : hp i = some (.inl (t, N, f))) (hv : Int32.ofNat N = v)
    (k : hv_W G p l e R s m args below meth c nL Q n hp cells slots (pc + 1) lv (.int v :: st)) : hv_W G p l e R s m args below meth c nL Q n hp cells slots pc lv (.ref (i + 1) :: st) := by
  intro H locs ls h1 h2 h3 h4
  exact W.alen X.1 X.2.1 (h1.2 i _ hi) (hv_arr X.2.2.2.2.2.1 ht N _) (by rw [arrV_size]; exact hv) rfl rfl hd (k H locs ls h1 h2 h3 h4)
theorem hv_low' {B : Nat} {H H1 Hs : Heap} (h2 : ∀ q : Nat, q < B → H[q]? = Hs[q]?) (hz : B ≤ H.size) (oq : ∀ q : Nat, q < H.size → H1[q]? = H[q]?) : ∀ q : Nat, q < B → H1[q]? = Hs[q]? := fun q hq => (oq q (by omega)).trans (h2 q hq)
theorem hw_new (X : hv_X G p s m args c Ts own cc nL) {ix ci N : Nat} {C : String} {T : u_T} {f : Nat → Value} {ty0 : Nat → FieldType} (hd : decode cc pc = .ok (.new ix, 3)) (hcl : vwCl[ci]? = some (C, T, N)) (hin : ∀ w ∈ u_ws C T N, w ∈ Ts) (hty : ∀ k, k < N → parseFieldDescriptor (T k).2.2.1 = some (ty0 k))
    (hw1 : Cond.classLink own ix C ∈ Ts) (hw2 : Cond.instantiable C N ∈ Ts) (hw3 : Cond.initialized C ∈ Ts) (hf : ∀ j, j < N → defaultValue (ty0 j) = hv_v G (f j)) (hc : cells + 1 ≤ R.cells) (hs : slots + N ≤ R.slots)
    (k : hv_W G p l e R s m args below meth c nL Q (n + 1) (hv_up hp n (.inr (ci, f))) (cells + 1) (slots + N) (pc + 3) lv (.ref (n + 1) :: st)) : hv_W G p l e R s m args below meth c nL Q n hp cells slots pc lv st := by
  intro H locs ls h1 h2 h3 h4
  obtain ⟨hx, hb, hml, hown, hts, hK, hB, hbB, hX⟩ := X
  have hKn := hK.1 ci _ hcl
  refine W.newcK hx hb hown (hts _ hw1) (hts _ hw2) (hts _ hw3) rfl hd hc hs hKn.2.1 h1.1 (fun H1 kC hkC e1 z1 o1 => ?_)
  have o2 : ∀ q : Nat, q < H.size → H1[q]? = H[q]? := fun q hq => o1 q (by rw [← h1.1]; exact hq)
  refine k H1 _ ls (h1.push ?_ (by rw [z1, h1.1]) o2) (hv_low' h2 (by rw [h1.1]; omega) o2) h3 h4
  exact ⟨_, hcl, (u_born ty0 hts hin hKn hkC e1 hty).to hf⟩
theorem hw_newa (X : hv_X G p s m args c Ts own cc nL) {t N : Nat} {atype : ArrayType} {ty : FieldType} {j : Int32} {v : Value} (hd : decode cc pc = .ok (.newarray atype, 2)) (hat : newarray.typeOf atype = ty) (ht : hv_tyl[t]? = some ty) (hra : ∀ C : String, ty ≠ .object C) (hw : Cond.arrayClass ty ∈ Ts) (hv : defaultValue ty = hv_v G v) (hj : ¬ j < 0) (hN : j.toNatClampNeg = N) (hby : N * componentBytes ty ≤ 536870912) (hc : cells + 1 ≤ R.cells) (hs : slots + N ≤ R.slots)
    (k : hv_W G p l e R s m args below meth c nL Q (n + 1) (hv_up hp n (.inl (t, N, fun _ => v))) (cells + 1) (slots + N) (pc + 2) lv (.ref (n + 1) :: st)) : hv_W G p l e R s m args below meth c nL Q n hp cells slots pc lv (.int j :: st) := by
  intro H locs ls h1 h2 h3 h4
  subst hat
  have hK := X.2.2.2.2.2.1
  refine va_newaK X.1 X.2.1 (X.2.2.2.2.1 _ hw) rfl hd rfl hj hN hby hc hs h1.1 (fun H1 cA e1 z1 o1 hAr hNm => ?_)
  have o2 : ∀ q : Nat, q < H.size → H1[q]? = H[q]? := fun q hq => o1 q (by rw [← h1.1]; exact hq)
  have hra2 : s.vm.findClass ("[" ++ (newarray.typeOf atype).toString) = some (G.2.2.2 t) := by
    have hR := (hK.2 t _ (hv_tys_at ht)).2
    cases atype <;> exact hR
  have hcy : cA = G.2.2.2 t := Option.some.inj (hNm.symm.trans hra2)
  subst hcy
  refine k H1 _ ls (h1.push ?_ (by rw [z1, h1.1]) o2) (hv_low' h2 (by rw [h1.1]; omega) o2) h3 h4
  show H1[G.1.1 + n]? = some (arrV _ _ _)
  rw [e1, hv]
theorem hw_newq (X : hv_X G p s m args c Ts own cc nL) {t ix N : Nat} {C : String} {j : Int32} (hd : decode cc pc = .ok (.anewarray ix, 3)) (ht : hv_tyl[t]? = some (.object C)) (hw1 : Cond.classLink own ix C ∈ Ts) (hw2 : Cond.arrayOver (.object C) ∈ Ts) (hj : ¬ j < 0) (hN : j.toNatClampNeg = N) (hby : N * 4 ≤ 536870912) (hc : cells + 1 ≤ R.cells) (hs : slots + N ≤ R.slots)
    (k : hv_W G p l e R s m args below meth c nL Q (n + 1) (hv_up hp n (.inl (t, N, fun _ => .null))) (cells + 1) (slots + N) (pc + 3) lv (.ref (n + 1) :: st)) : hv_W G p l e R s m args below meth c nL Q n hp cells slots pc lv (.int j :: st) := by
  intro H locs ls h1 h2 h3 h4
  subst hN
  have hK := X.2.2.2.2.2.1
  refine W.anew X.1 X.2.1 X.2.2.2.1 (X.2.2.2.2.1 _ hw1) (X.2.2.2.2.1 _ hw2) rfl hd rfl hj hby hc hs (fun cA kA comp f1 f2 f3 f4 => ?_)
  obtain ⟨kA', comp', -, -, -, hnm⟩ := (hK.2 t _ (hv_tys_at ht)).2
  have hcy : cA = G.2.2.2 t := Option.some.inj (f1.symm.trans hnm)
  subst hcy
  have o2 : ∀ q : Nat, q < H.size → (H.push ({ cls := G.2.2.2 t, slots := Array.replicate j.toNatClampNeg .null, vm := .none } : Cell))[q]? = H[q]? := fun q hq => by rw [Array.getElem?_push, if_neg (Nat.ne_of_lt hq)]
  have hk := k (H.push ({ cls := G.2.2.2 t, slots := Array.replicate j.toNatClampNeg .null, vm := .none } : Cell)) locs ls (h1.push ?_ (by rw [Array.size_push]) o2) (hv_low' h2 (by rw [h1.1]; omega) o2) h3 h4
  · have hsz : H.size = G.1.1 + n := h1.1
    show W p l e R s m args below meth c _ locs _ _ Q (F0 m (pc + 3) ls (.ref H.size :: st.map (hv_v G)))
    rw [hsz]
    exact hk
  · show _ = some (arrV (G.2.2.2 t) j.toNatClampNeg (fun _ => Value.null))
    rw [← h1.1, Array.getElem?_push_size, ← arrV_new]
theorem hw_sld (X : hv_X G p s m args c Ts own cc nL) {j : Int32} {x : UInt32} (hd : decode cc pc = .ok (.iaload, 1)) (hin : vp_in j G.1.2.2) (hx : x.toNat = j.toNatClampNeg)
    (k : hv_W G p l e R s m args below meth c nL Q n hp cells slots (pc + 1) lv (.float x :: st)) : hv_W G p l e R s m args below meth c nL Q n hp cells slots pc lv (.int j :: .ref 0 :: st) := by
  intro H locs ls h1 h2 h3 h4
  obtain ⟨hxx, hb, hml, hown, hts, hK, hB, hbB, scr, g1, g2, g3, g4, g5⟩ := X
  have hlt : j.toNatClampNeg < G.1.2.2 := Nat.not_le.mp fun q => hin (Or.inr q)
  have hk := k H locs ls h1 h2 h3 h4
  have hv : hv_v G (.float x) = .int (G.2.1 j.toNatClampNeg) := by show Value.int (G.2.1 x.toNat) = _; rw [hx]
  rw [List.map_cons, hv] at hk
  exact W.iald hxx hb (a := G.1.2.1) (cell := scr) (by rw [h2 _ hbB]; exact g1) g2 g3 (by rw [g4]; exact hin) (g5 _ hlt) rfl rfl hd hk
theorem hw_sldK (X : hv_X G p s m args c Ts own cc nL) {j x : Int32} (hd : decode cc pc = .ok (.iaload, 1)) (hin : vp_in j G.1.2.2) (hx : G.2.1 j.toNatClampNeg = x)
    (k : hv_W G p l e R s m args below meth c nL Q n hp cells slots (pc + 1) lv (.int x :: st)) : hv_W G p l e R s m args below meth c nL Q n hp cells slots pc lv (.int j :: .ref 0 :: st) := by
  intro H locs ls h1 h2 h3 h4
  obtain ⟨hxx, hb, hml, hown, hts, hK, hB, hbB, scr, g1, g2, g3, g4, g5⟩ := X
  have hlt : j.toNatClampNeg < G.1.2.2 := Nat.not_le.mp fun q => hin (Or.inr q)
  have hk := k H locs ls h1 h2 h3 h4
  subst hx
  exact W.iald hxx hb (a := G.1.2.1) (cell := scr) (by rw [h2 _ hbB]; exact g1) g2 g3 (by rw [g4]; exact hin) (g5 _ hlt) rfl rfl hd hk
theorem hw_slen (X : hv_X G p s m args c Ts own cc nL) {v : Int32} (hd : decode cc pc = .ok (.arraylength, 1)) (hv : Int32.ofNat G.1.2.2 = v)
    (k : hv_W G p l e R s m args below meth c nL Q n hp cells slots (pc + 1) lv (.int v :: st)) : hv_W G p l e R s m args below meth c nL Q n hp cells slots pc lv (.ref 0 :: st) := by
  intro H locs ls h1 h2 h3 h4
  obtain ⟨hxx, hb, hml, hown, hts, hK, hB, hbB, scr, g1, g2, g3, g4, g5⟩ := X
  exact W.alen hxx hb (a := G.1.2.1) (cell := scr) (by rw [h2 _ hbB]; exact g1) g2 (by rw [g4]; exact hv) rfl rfl hd (k H locs ls h1 h2 h3 h4)
theorem hw_objInit (X : hv_X G p s m args c Ts own cc nL) {ix a : Nat} (hd : decode cc pc = .ok (.invokespecial ix, 3)) (hw1 : Cond.methodLink own ix Lib.objectInit ∈ Ts) (hw2 : Cond.instanceMethod Lib.objectInit ∈ Ts) (hw3 : Cond.code Lib.objectInit ⟨#[0xb1]⟩ 1 none ∈ Ts) (hr : 1 ≤ R.frames) (hr2 : 20 ≤ R.locals) (hst : (st.map fun v => v.category).sum ≤ 8)
    (k : hv_W G p l e R s m args below meth c nL Q n hp cells slots (pc + 3) lv st) : hv_W G p l e R s m args below meth c nL Q n hp cells slots pc lv (.ref a :: st) := by
  intro H locs ls h1 h2 h3 h4
  obtain ⟨hx, hb, hml, hown, hts, hK, hB, hbB, hX⟩ := X
  refine W.objInit hx hb hown (hts _ hw1) (hts _ hw2) (hts _ hw3) rfl (by rw [hml]; exact h4.1) rfl hd hr ?_ ?_
  · have := lv_room (m := m) (pc := pc) (ls := ls) (rest := (Value.ref a :: st).map (hv_v G)) (st := st.map (hv_v G)) (by rw [hv_cats]; exact hst)
    omega
  · exact k H locs ls h1 h2 h3 h4
theorem hw_copy (X : hv_X G p s m args c Ts own cc nL) {ix i0 i1 N0 N1 : Nat} {f g : Nat → Value} {sp dp z : Int32} (hd : decode cc pc = .ok (.invokestatic ix, 3)) (hw1 : Cond.methodLink own ix arraycopyName ∈ Ts) (hw2 : Cond.native arraycopyName ∈ Ts) (hw3 : Cond.static arraycopyName ∈ Ts) (hw4 : Cond.initialized "java/lang/System" ∈ Ts) (hi0 : hp i0 = some (.inl (1, N0, f))) (hi1 : hp i1 = some (.inl (1, N1, g)))
    (g1 : ¬ sp < 0) (g2 : ¬ dp < 0) (g3 : ¬ z < 0) (g4 : sp.toNatClampNeg + z.toNatClampNeg ≤ N0) (g5 : dp.toNatClampNeg + z.toNatClampNeg ≤ N1) (hint : ∀ i, i < z.toNatClampNeg → ∃ x : Int32, hv_v G (f (sp.toNatClampNeg + i)) = .int x) (hr : 1 ≤ R.frames) (hr2 : 8 + (nativeFrameWords "java/lang/System" "arraycopy" 5 + 11) ≤ R.locals) (hst : (st.map fun v => v.category).sum ≤ 8)
    (k : hv_W G p l e R s m args below meth c nL Q n (hv_up hp i1 (.inl (1, N1, va_cpy f g sp.toNatClampNeg dp.toNatClampNeg z.toNatClampNeg))) cells slots (pc + 3) lv st) : hv_W G p l e R s m args below meth c nL Q n hp cells slots pc lv (.int z :: .int dp :: .ref (i1 + 1) :: .int sp :: .ref (i0 + 1) :: st) := by
  intro H locs ls h1 h2 h3 h4
  obtain ⟨hx, hb, hml, hown, hts, hK, hB, hbB, hX⟩ := X
  have nn : ∀ z : Int32, ¬ z < 0 → z.toInt = (z.toNatClampNeg : Int) := by
    intro z hz
    have hz0 : (0 : Int) ≤ z.toInt := by
      have := Int32.not_lt.mp hz
      simpa using Int32.le_iff_toInt_le.mp this
    show z.toInt = ((z.toInt.toNat : Nat) : Int)
    omega
  intro T hT XX
  have hc0 : H[G.1.1 + i0]? = some (arrV (G.2.2.2 1) N0 (fun j => hv_v G (f j))) := h1.2 i0 _ hi0
  have hc1 : H[G.1.1 + i1]? = some (arrV (G.2.2.2 1) N1 (fun j => hv_v G (g j))) := h1.2 i1 _ hi1
  obtain ⟨-, k0, hk0, cm0, hkk0⟩ := hv_arr hK (t := 1) rfl N0 (fun j => hv_v G (f j))
  obtain ⟨-, k1, hk1, cm1, hkk1⟩ := hv_arr hK (t := 1) rfl N1 (fun j => hv_v G (g j))
  obtain ⟨vm', X', step⟩ := XX.arraycopy hx hown (hts _ hw1) (hts _ hw2) (hts _ hw3) (hts _ hw4) (src := G.1.1 + i0) (dst := G.1.1 + i1) (cs := arrV (G.2.2.2 1) N0 (fun j => hv_v G (f j))) (cd := arrV (G.2.2.2 1) N1 (fun j => hv_v G (g j))) (srcPos := sp) (destPos := dp) (n := z) (by rw [hT]; exact hc0) (by rw [hT]; exact hc1)
    (fun _ h => by cases h) (fun _ h => by cases h) (fun h => by cases h) (fun h => by cases h) hk0 hk1 hkk0 hkk1 (by simp [refKind]) g1 g2 g3
    (by rw [nn sp g1, nn z g3, arrV_size]; omega)
    (by rw [nn dp g2, nn z g3, arrV_size]; omega)
    (fun vm₁ _ i hi => by
      obtain ⟨x, hx0⟩ := hint i hi
      have e : (arrV (G.2.2.2 1) N0 (fun j => hv_v G (f j))).slots.getD (sp.toNatClampNeg + i) .null = .int x := by
        rw [Array.getD_eq_getD_getElem?, arrV_read _ _ (by omega)]
        exact hx0
      refine ⟨?_, ?_⟩
      · rw [e]
        rfl
      · rw [e]
        exact trivial)
    (g := F0 m pc ls (.int z :: .int dp :: .ref (G.1.1 + i1) :: .int sp :: .ref (G.1.1 + i0) :: st.map (hv_v G))) rfl (by rw [hml]; exact h4.1) (rest := st.map (hv_v G)) rfl (by rw [hb]; exact hd) hr (by
      have h8 : ((st.map (hv_v G)).map fun v => v.category).sum ≤ 8 := by rw [hv_cats]; exact hst
      show 2 * 0 + _ + _ ≤ _
      omega)
  have e1 : copied (arrV (G.2.2.2 1) N0 (fun j => hv_v G (f j))) (arrV (G.2.2.2 1) N1 (fun j => hv_v G (g j))) sp dp z = arrV (G.2.2.2 1) N1 (fun j => hv_v G (va_cpy f g sp.toNatClampNeg dp.toNatClampNeg z.toNatClampNeg j)) := va_copied (hv_v G) (G.2.2.2 1) (G.2.2.2 1) f g g4
  rw [e1] at X' step
  have hl : G.1.1 + i1 < H.size := (Array.getElem?_eq_some_iff.mp hc1).1
  generalize hcell : arrV (G.2.2.2 1) N1 (fun j => hv_v G (va_cpy f g sp.toNatClampNeg dp.toNatClampNeg z.toNatClampNeg j)) = cell at X' step
  have hheap : ((T.setVm vm').setCell (G.1.1 + i1) cell).heap = H.setIfInBounds (G.1.1 + i1) cell := by rw [← hT]; rfl
  have oq : ∀ q : Nat, q ≠ G.1.1 + i1 → (H.setIfInBounds (G.1.1 + i1) cell)[q]? = H[q]? := fun q hq => by simp [Array.getElem?_setIfInBounds, Ne.symm hq]
  have hat : hv_at G i1 (.inl (1, N1, va_cpy f g sp.toNatClampNeg dp.toNatClampNeg z.toNatClampNeg)) (H.setIfInBounds (G.1.1 + i1) cell) := by
    show (H.setIfInBounds (G.1.1 + i1) cell)[G.1.1 + i1]? = some (arrV _ _ _)
    rw [hcell]
    simp [Array.getElem?_setIfInBounds, hl]
  obtain ⟨t, a1, b1⟩ := k _ _ ls (h1.set hat (by simp) oq) (hv_low h2 oq (Nat.le_add_right _ _)) (fun q hq => by
      rcases List.mem_append.mp hq with h | h
      · exact h3 q h
      · obtain ⟨z, -, hz⟩ := List.mem_map.mp h
        rw [← hz]
        exact Nat.le_add_right _ _) h4 _ hheap X'
  exact ⟨t, step t a1, b1⟩
end HWH
end
section
/-! CONTRACTS: a method at a world and its arguments, by the words gw that every state keeps -/
def hv_keep (w : Cond) : Bool := match w with
  | .fieldLinkNest .. => true
  | .methodLinkNest .. => true
  | .arrayOver (.object _) => true
  | .arrayOver (.array _) => true
  | .arrayClass _ => true
  | w => w.onTables && w.keeps
theorem hv_keeps {w : Cond} (h : hv_keep w = true) {args a' : Array Value} {s U : State} (hW : s.WarmedH U.vm) (hb : w.before args s = true) : w.before a' U = true := by
  unfold hv_keep at h
  split at h
  · exact va_Nw.use rfl (va_Nw.warmF hW (va_Nw.of rfl hb))
  · exact va_Nw.use rfl (va_Nw.warmM hW (va_Nw.of rfl hb))
  · exact va_AO.use (va_AO.moved hW.alike (va_AO.of hb))
  · exact Jvm.Stand.arrayOver_alikeB hW.alike hb
  · exact word_at hW (Or.inr ⟨_, rfl⟩) hb
  · exact word_at hW (Or.inl h) hb
def hv_Pc (G : hv_G) (n : Nat) (hp : hv_H) (as : List Value) : Array Value → State → Prop := fun v U => v = (as.map (hv_v G)).toArray ∧ hv_P G n hp U.heap ∧ va_K G.2.2.1 vwCl (hv_tys G) U ∧ G.1.2.1 < G.1.1 ∧ va_X G.1.2.1 G.1.2.2 G.2.1 U U.heap
def hv_Qc (G : hv_G) (n : Nat) (hp : hv_H) (r : Option Value) : Array Value → State → Outcome → State → Prop := fun _ st o t => o = .returned (r.map (hv_v G)) ∧ hv_P G n hp t.heap ∧ ∀ q : Nat, q < G.1.1 → t.heap[q]? = st.heap[q]?
def hv_C (G : hv_G) (gw : List Cond) (l : Launch) (y : MethodName) (bytes : ByteArray) (maxL : Nat) (ret : Option FieldType) (fr lo : Nat) (n : Nat) (hp : hv_H) (as : List Value) (r : Option Value) (n' : Nat) (hp' : hv_H) (mc ms : Nat) : Prop :=
  Met l y (.code y bytes maxL ret :: gw) { frames := fr, cells := mc, slots := ms, locals := lo } (hv_Pc G n hp as) (hv_Qc G n' hp' r) mc ms (fun q => G.1.1 ≤ q)
theorem hv_blind (G : hv_G) (n : Nat) (hp : hv_H) (as : List Value) : FrameBlind (hv_Pc G n hp as) := by
  intro a U g mk h
  obtain ⟨h1, h2, h3, h4, h5⟩ := h
  exact ⟨h1, h2, va_K.moved (u := U) (U := U.calling g mk a) (Vm.Alike.refl U.vm) h3, h4, va_X.moved (u := U) (U := U.calling g mk a) (Vm.Alike.refl U.vm) h5⟩
section HWC
variable {G : hv_G} {p : Program} {l : Launch} {e : Env} {R : Room} {s : State} {m : MethodId} {args : Array Value} {below : List Frame} {meth : Method} {c : Code} {nL : Nat} {Q : State → Prop} {n : Nat} {hp : hv_H} {cells slots pc : Nat} {lv : List (Nat × Value)} {st : List Value} {Ts : List Cond} {own : String} {cc : ByteArray}
theorem hv_pre (X : hv_X G p s m args c Ts own cc nL) {H : Heap} (h1 : hv_P G n hp H) (h2 : ∀ q : Nat, q < G.1.1 → H[q]? = s.heap[q]?) (as : List Value) : ∀ U : State, U.heap = H → s.WarmedH U.vm → hv_Pc G n hp as (as.map (hv_v G)).toArray U := by
  intro U hU hW
  obtain ⟨hx, hb, hml, hown, hts, hK, hB, hbB, hX⟩ := X
  refine ⟨rfl, by rw [hU]; exact h1, va_K.moved hW.alike hK, hbB, ?_⟩
  rw [hU]
  exact va_X.moved hW.alike (va_X.kept hX (h2 _ hbB))
/-- behind a call: what came back, the world as the contract has it -/
theorem hw_back {as : Array Value} {r : Option Value} {n' : Nat} {hp' : hv_H} {mc ms : Nat} {ls : Array Slot} {st0 : List Value} {H : Heap} {locs : List Loc}
    (hr : va_Run p l e R s m args below meth c H locs cells slots mc ms (F0 m pc ls st0) (st.map (hv_v G)) (hv_Qc G n' hp' r as) (fun q => G.1.1 ≤ q)) (h2 : ∀ q : Nat, q < G.1.1 → H[q]? = s.heap[q]?) (h3 : ∀ q ∈ locs, G.1.1 ≤ q.base) (h4 : lv_has ls nL (hv_l G lv))
    (k : hv_W G p l e R s m args below meth c nL Q n' hp' (cells + mc) (slots + ms) (pc + 3) lv (r.toList ++ st)) : W p l e R s m args below meth c H locs cells slots Q (F0 m pc ls st0) := by
  intro T hT XX
  obtain ⟨v, st₀, t, T', L, h0, X', hL, e1, e2, ⟨hv, hp1, hq⟩, stp⟩ := hr T hT XX
  cases hv
  have k1 := k T'.heap (locs ++ L) ls (by rw [e1]; exact hp1) (fun q hq1 => by rw [e1, hq q hq1, h0]; exact h2 q hq1) (fun q hq1 => by
      rcases List.mem_append.mp hq1 with h | h
      · exact h3 q h
      · exact hL q h) h4
  have er : (r.toList ++ st).map (hv_v G) = (r.map (hv_v G)).toList ++ st.map (hv_v G) := by cases r <;> simp
  rw [er] at k1
  obtain ⟨t2, a1, b1⟩ := k1 T' rfl X'
  exact ⟨t2, stp t2 a1, b1⟩
theorem hv_callB (X : hv_X G p s m args c Ts own cc nL) {gw : List Cond} {y : MethodName} {bytes : ByteArray} {maxL : Nat} {ret : Option FieldType} {fr lo mc ms ix na : Nat} (hgw : ∀ w ∈ gw, w ∈ Ts) (hkp : ∀ w ∈ gw, hv_keep w = true) (hcode : Cond.code y bytes maxL ret ∈ gw) (hini : Cond.initialized y.cls ∈ Ts) (hlink : Cond.methodLink own ix y ∈ Ts)
    (hy : y.cls ≠ "java/lang/invoke/MethodHandle" ∧ y.cls ≠ "java/lang/invoke/VarHandle") (hna : (parseMethodDescriptor y.desc).map (fun d => d.parameters.length) = some na) (hfr : fr + 1 ≤ R.frames) (hlo : 8 + (maxL + 11) + lo ≤ R.locals) :
    CallB R s args own ix y bytes maxL ret (.code y bytes maxL ret :: gw) { frames := fr, cells := mc, slots := ms, locals := lo } mc ms na := by
  have hts := X.2.2.2.2.1
  refine ⟨rfl, rfl, hfr, hlo, ?_, List.mem_cons_self, hts _ (hgw _ hcode), hts _ hini, hy, ?_, hts _ hlink⟩
  · intro w hw a' U hW
    have hw' : w ∈ gw := by
      rcases List.mem_cons.mp hw with h | h
      · rw [h]; exact hcode
      · exact h
    exact hv_keeps (hkp w hw') hW (hts _ (hgw w hw'))
  · intro sig h
    rw [h] at hna
    exact (Option.some.inj hna).symm
theorem hw_callV (X : hv_X G p s m args c Ts own cc nL) {gw : List Cond} {y : MethodName} {bytes : ByteArray} {maxL : Nat} {ret : Option FieldType} {fr lo mc ms ix na n' i ci : Nat} {hp' : hv_H} {r : Option Value} {as : List Value} {rc : vw_C} {f : Nat → Value} (hM : hv_C G gw l y bytes maxL ret fr lo n hp (.ref (i + 1) :: as) r n' hp' mc ms)
    (hd : decode cc pc = .ok (.invokevirtual ix, 3)) (hgw : ∀ w ∈ gw, w ∈ Ts) (hkp : ∀ w ∈ gw, hv_keep w = true) (hcode : Cond.code y bytes maxL ret ∈ gw) (hini : Cond.initialized y.cls ∈ Ts) (hlink : Cond.methodLink own ix y ∈ Ts) (hinst : Cond.instanceMethod y ∈ Ts) (hsel : Cond.selects rc.1 y y ∈ Ts)
    (hy : y.cls ≠ "java/lang/invoke/MethodHandle" ∧ y.cls ≠ "java/lang/invoke/VarHandle") (hna : (parseMethodDescriptor y.desc).map (fun d => d.parameters.length) = some na) (hal : as.length = na) (hi : hp i = some (.inr (ci, f))) (hc : vwCl[ci]? = some rc) (hfr : fr + 1 ≤ R.frames) (hlo : 8 + (maxL + 11) + lo ≤ R.locals) (hst : (st.map fun v => v.category).sum ≤ 8) (hcc : cells + mc ≤ R.cells) (hss : slots + ms ≤ R.slots)
    (k : hv_W G p l e R s m args below meth c nL Q n' hp' (cells + mc) (slots + ms) (pc + 3) lv (r.toList ++ st)) : hv_W G p l e R s m args below meth c nL Q n hp cells slots pc lv (as.reverse ++ .ref (i + 1) :: st) := by
  intro H locs ls h1 h2 h3 h4
  have hB := hv_callB X (mc := mc) (ms := ms) hgw hkp hcode hini hlink hy hna hfr hlo
  obtain ⟨r', hr', cell, q1, q2, q3, -⟩ := h1.2 i _ hi
  have hcl := ((X.2.2.2.2.2.1).1 ci rc hc).2.1
  refine hw_back (va_runV (As := as.map (hv_v G)) (b := G.1.1 + i) (rest := st.map (hv_v G)) ⟨X.1, X.2.1, X.2.2.1, X.2.2.2.1, X.2.2.2.2.1⟩ hM ⟨hB, X.2.2.2.2.1 _ hinst, X.2.2.2.2.1 _ hsel⟩ ⟨hv_blind G n hp _, ⟨cell, q1, by rw [q3]; rfl, by rw [q2]; exact hcl⟩, hv_pre X h1 h2 (.ref (i + 1) :: as)⟩ rfl (by rw [List.length_map]; exact hal) h4.1 ?_ (lv_room (by rw [hv_cats]; exact hst)) hd ⟨hcc, hss⟩) h2 h3 h4 k
  show List.map (hv_v G) (as.reverse ++ .ref (i + 1) :: st) = _
  rw [List.map_append, List.map_reverse]
  rfl
theorem hw_callI (X : hv_X G p s m args c Ts own cc nL) {gw : List Cond} {y : MethodName} {bytes : ByteArray} {maxL : Nat} {fr lo mc ms ix na n' a : Nat} {hp' : hv_H} {r : Option Value} {as : List Value} (hM : hv_C G gw l y bytes maxL none fr lo n hp (.ref a :: as) r n' hp' mc ms)
    (hd : decode cc pc = .ok (.invokespecial ix, 3)) (hgw : ∀ w ∈ gw, w ∈ Ts) (hkp : ∀ w ∈ gw, hv_keep w = true) (hcode : Cond.code y bytes maxL none ∈ gw) (hini : Cond.initialized y.cls ∈ Ts) (hlink : Cond.methodLink own ix y ∈ Ts) (hinst : Cond.instanceMethod y ∈ Ts) (hnm : y.name = "<init>")
    (hy : y.cls ≠ "java/lang/invoke/MethodHandle" ∧ y.cls ≠ "java/lang/invoke/VarHandle") (hna : (parseMethodDescriptor y.desc).map (fun d => d.parameters.length) = some na) (hal : as.length = na) (hfr : fr + 1 ≤ R.frames) (hlo : 8 + (maxL + 11) + lo ≤ R.locals) (hst : (st.map fun v => v.category).sum ≤ 8) (hcc : cells + mc ≤ R.cells) (hss : slots + ms ≤ R.slots)
    (k : hv_W G p l e R s m args below meth c nL Q n' hp' (cells + mc) (slots + ms) (pc + 3) lv (r.toList ++ st)) : hv_W G p l e R s m args below meth c nL Q n hp cells slots pc lv (as.reverse ++ .ref a :: st) := by
  intro H locs ls h1 h2 h3 h4
  have hB := hv_callB X (mc := mc) (ms := ms) hgw hkp hcode hini hlink hy hna hfr hlo
  refine hw_back (va_runI (As := as.map (hv_v G)) (b := hv_ad G a) (rest := st.map (hv_v G)) ⟨X.1, X.2.1, X.2.2.1, X.2.2.2.1, X.2.2.2.2.1⟩ hM ⟨hB, hnm, X.2.2.2.2.1 _ hinst⟩ ⟨hv_blind G n hp _, hv_pre X h1 h2 (.ref a :: as)⟩ rfl (by rw [List.length_map]; exact hal) h4.1 ?_ (lv_room (by rw [hv_cats]; exact hst)) hd ⟨hcc, hss⟩) h2 h3 h4 k
  show List.map (hv_v G) (as.reverse ++ .ref a :: st) = _
  rw [List.map_append, List.map_reverse]
  rfl
theorem hw_callS (X : hv_X G p s m args c Ts own cc nL) {gw : List Cond} {y : MethodName} {bytes : ByteArray} {maxL : Nat} {ret : Option FieldType} {fr lo mc ms ix na n' : Nat} {hp' : hv_H} {r : Option Value} {as : List Value} (hM : hv_C G gw l y bytes maxL ret fr lo n hp as r n' hp' mc ms)
    (hd : decode cc pc = .ok (.invokestatic ix, 3)) (hgw : ∀ w ∈ gw, w ∈ Ts) (hkp : ∀ w ∈ gw, hv_keep w = true) (hcode : Cond.code y bytes maxL ret ∈ gw) (hini : Cond.initialized y.cls ∈ Ts) (hlink : Cond.methodLink own ix y ∈ Ts) (hstat : Cond.static y ∈ Ts)
    (hy : y.cls ≠ "java/lang/invoke/MethodHandle" ∧ y.cls ≠ "java/lang/invoke/VarHandle") (hna : (parseMethodDescriptor y.desc).map (fun d => d.parameters.length) = some na) (hal : as.length = na) (hfr : fr + 1 ≤ R.frames) (hlo : 8 + (maxL + 11) + lo ≤ R.locals) (hst : (st.map fun v => v.category).sum ≤ 8) (hcc : cells + mc ≤ R.cells) (hss : slots + ms ≤ R.slots)
    (k : hv_W G p l e R s m args below meth c nL Q n' hp' (cells + mc) (slots + ms) (pc + 3) lv (r.toList ++ st)) : hv_W G p l e R s m args below meth c nL Q n hp cells slots pc lv (as.reverse ++ st) := by
  intro H locs ls h1 h2 h3 h4
  have hB := hv_callB X (mc := mc) (ms := ms) hgw hkp hcode hini hlink hy hna hfr hlo
  refine hw_back (va_runS (As := as.map (hv_v G)) (rest := st.map (hv_v G)) ⟨X.1, X.2.1, X.2.2.1, X.2.2.2.1, X.2.2.2.2.1⟩ hM ⟨hB, X.2.2.2.2.1 _ hstat⟩ ⟨hv_blind G n hp _, hv_pre X h1 h2 as⟩ rfl (by rw [List.length_map]; exact hal) h4.1 ?_ (lv_room (by rw [hv_cats]; exact hst)) hd ⟨hcc, hss⟩) h2 h3 h4 k
  show List.map (hv_v G) (as.reverse ++ st) = _
  rw [List.map_append, List.map_reverse]
theorem hw_callSN (X : hv_X G p s m args c Ts own cc nL) {gw : List Cond} {y : MethodName} {bytes : ByteArray} {maxL : Nat} {ret : Option FieldType} {fr lo mc ms ix na n' : Nat} {host : String} {hp' : hv_H} {r : Option Value} {as : List Value} (hM : hv_C G gw l y bytes maxL ret fr lo n hp as r n' hp' mc ms)
    (hd : decode cc pc = .ok (.invokestatic ix, 3)) (hgw : ∀ w ∈ gw, w ∈ Ts) (hkp : ∀ w ∈ gw, hv_keep w = true) (hcode : Cond.code y bytes maxL ret ∈ gw) (hini : Cond.initialized y.cls ∈ Ts) (hlink : Cond.methodLinkNest own ix y host ∈ Ts) (hstat : Cond.static y ∈ Ts)
    (hy : y.cls ≠ "java/lang/invoke/MethodHandle" ∧ y.cls ≠ "java/lang/invoke/VarHandle") (hna : (parseMethodDescriptor y.desc).map (fun d => d.parameters.length) = some na) (hal : as.length = na) (hfr : fr + 1 ≤ R.frames) (hlo : 8 + (maxL + 11) + lo ≤ R.locals) (hst : (st.map fun v => v.category).sum ≤ 8) (hcc : cells + mc ≤ R.cells) (hss : slots + ms ≤ R.slots)
    (k : hv_W G p l e R s m args below meth c nL Q n' hp' (cells + mc) (slots + ms) (pc + 3) lv (r.toList ++ st)) : hv_W G p l e R s m args below meth c nL Q n hp cells slots pc lv (as.reverse ++ st) := by
  intro H locs ls h1 h2 h3 h4
  have hts := X.2.2.2.2.1
  have hB : va_CN R s args own ix y host bytes maxL ret (.code y bytes maxL ret :: gw) { frames := fr, cells := mc, slots := ms, locals := lo } mc ms na := by
    refine ⟨⟨rfl, rfl, hfr, hlo, ?_, List.mem_cons_self⟩, hts _ (hgw _ hcode), hts _ hini, hy, ?_, hts _ hlink⟩
    · intro w hw a' U hW
      have hw' : w ∈ gw := by
        rcases List.mem_cons.mp hw with h | h
        · rw [h]; exact hcode
        · exact h
      exact hv_keeps (hkp w hw') hW (hts _ (hgw w hw'))
    · intro sig h
      rw [h] at hna
      exact (Option.some.inj hna).symm
  refine hw_back (va_runSN (As := as.map (hv_v G)) (rest := st.map (hv_v G)) ⟨X.1, X.2.1, X.2.2.1, X.2.2.2.1, X.2.2.2.2.1⟩ hM ⟨hB, X.2.2.2.2.1 _ hstat, trivial⟩ ⟨hv_blind G n hp _, hv_pre X h1 h2 as⟩ rfl (by rw [List.length_map]; exact hal) h4.1 ?_ (lv_room (by rw [hv_cats]; exact hst)) hd ⟨hcc, hss⟩) h2 h3 h4 k
  show List.map (hv_v G) (as.reverse ++ st) = _
  rw [List.map_append, List.map_reverse]
theorem hw_iret (X : hv_X G p s m args c Ts own cc nL) {v : Value} {x : Int32} {ty : FieldType} (hlk : meth.locks = false) (hr : meth.sig.returnType = some ty) (hv : hv_v G v = .int x) (hn : narrow ty (.int x) = .int x) (hd : decode cc pc = .ok (.ireturn, 1)) :
    hv_W G p l e R s m args below meth c nL (MQ below (hv_Qc G n hp (some v)) args s cells slots (fun q => G.1.1 ≤ q)) n hp cells slots pc lv [v] := by
  intro H locs ls h1 h2 h3 h4
  show W p l e R s m args below meth c H locs cells slots _ (F0 m pc ls [hv_v G v])
  rw [hv]
  exact W.zret X.1 X.2.1 hr hn (fun t ht _ => ⟨by rw [Option.map_some, hv], by rw [ht]; exact h1, fun q hq => by rw [ht]; exact h2 q hq⟩) h3 hd hlk
theorem hw_lret (X : hv_X G p s m args c Ts own cc nL) {x : Int64} (hlk : meth.locks = false) (hr : meth.sig.returnType = some .long) (hd : decode cc pc = .ok (.lreturn, 1)) :
    hv_W G p l e R s m args below meth c nL (MQ below (hv_Qc G n hp (some (.long x))) args s cells slots (fun q => G.1.1 ≤ q)) n hp cells slots pc lv [.long x] := by
  intro H locs ls h1 h2 h3 h4
  exact W.lret X.1 X.2.1 hr (fun t ht _ => ⟨rfl, by rw [ht]; exact h1, fun q hq => by rw [ht]; exact h2 q hq⟩) h3 hd hlk
theorem hw_aret (X : hv_X G p s m args c Ts own cc nL) {a : Nat} {ty : FieldType} (hlk : meth.locks = false) (hr : meth.sig.returnType = some ty) (hrt : (∃ n, ty = .object n) ∨ ∃ t, ty = .array t) (hd : decode cc pc = .ok (.areturn, 1)) :
    hv_W G p l e R s m args below meth c nL (MQ below (hv_Qc G n hp (some (.ref a))) args s cells slots (fun q => G.1.1 ≤ q)) n hp cells slots pc lv [.ref a] := by
  intro H locs ls h1 h2 h3 h4
  exact W.aret X.1 X.2.1 hr hrt (Or.inr ⟨_, rfl⟩) (fun t ht _ => ⟨rfl, by rw [ht]; exact h1, fun q hq => by rw [ht]; exact h2 q hq⟩) h3 hd hlk
theorem hw_vret (X : hv_X G p s m args c Ts own cc nL) (hlk : meth.locks = false) (hr : meth.sig.returnType = none) (hd : decode cc pc = .ok (.return_, 1)) :
    hv_W G p l e R s m args below meth c nL (MQ below (hv_Qc G n hp none) args s cells slots (fun q => G.1.1 ≤ q)) n hp cells slots pc lv [] := by
  intro H locs ls h1 h2 h3 h4
  exact W.vret X.1 X.2.1 hr (fun t ht _ => ⟨rfl, by rw [ht]; exact h1, fun q hq => by rw [ht]; exact h2 q hq⟩) h3 hd hlk
theorem hw_widen {k1 k2 : Nat} (h1 : cells ≤ k1) (h2 : slots ≤ k2) (k : hv_W G p l e R s m args below meth c nL Q n hp k1 k2 pc lv st) : hv_W G p l e R s m args below meth c nL Q n hp cells slots pc lv st := fun H locs ls g1 g2 g3 g4 => W.widen h1 h2 (k H locs ls g1 g2 g3 g4)
theorem hw_heap {hp' : hv_H} (h : ∀ i, hp i = hp' i) (k : hv_W G p l e R s m args below meth c nL Q n hp' cells slots pc lv st) : hv_W G p l e R s m args below meth c nL Q n hp cells slots pc lv st := by
  have : hp = hp' := funext h
  rw [this]
  exact k
end HWC
theorem hv_args_map (G : hv_G) (as : List Value) : ∀ i : Nat, lv_args i (as.map (hv_v G)) = hv_l G (lv_args i as) := by
  induction as with
  | nil => intro i; rfl
  | cons v vs ih =>
    intro i
    show (i, hv_v G v) :: lv_args (if (hv_v G v).category = 2 then i + 2 else i + 1) (vs.map (hv_v G)) = (i, hv_v G v) :: hv_l G (lv_args (if v.category = 2 then i + 2 else i + 1) vs)
    rw [hv_cat, ih]
def hv_words (as : List Value) : Nat := (as.map fun v => v.category).sum
theorem hv_sl_len (G : hv_G) (as : List Value) : (lg_sl (as.map (hv_v G))).length = hv_words as := by
  induction as with
  | nil => rfl
  | cons v vs ih =>
    have hc : v.category = 1 ∨ v.category = 2 := lv_cat v
    have e : lg_sl ((v :: vs).map (hv_v G)) = (if (hv_v G v).category = 2 then [.val (hv_v G v), .second] else [.val (hv_v G v)]) ++ lg_sl (vs.map (hv_v G)) := by simp [lg_sl]
    rw [e, List.length_append, ih, hv_cat]
    unfold hv_words
    rcases hc with h | h <;> simp [h]
/-- a contract out of the walk of the method's body -/
theorem hv_C.of {G : hv_G} {gw : List Cond} {l : Launch} {y : MethodName} {bytes : ByteArray} {maxL : Nat} {ret : Option FieldType} {fr lo : Nat} {n : Nat} {hp : hv_H} {as : List Value} {r : Option Value} {n' : Nat} {hp' : hv_H} {mc ms : Nat} (hy : plainName y.cls = true) (hal : hv_words as ≤ maxL)
    (k : ∀ (p : Program) (e : Env) (s : State) (m : MethodId) (args : Array Value) (below : List Frame) (meth : Method) (c : Code), hv_X G p s m args c (.code y bytes maxL ret :: gw) y.cls bytes maxL → meth.sig.returnType = ret → meth.locks = false → meth.name = y.name →
      hv_W G p l e { frames := fr, cells := mc, slots := ms, locals := lo } s m args below meth c maxL (MQ below (hv_Qc G n' hp' r) args s mc ms (fun q => G.1.1 ≤ q)) n hp 0 0 0 (lv_args 0 as) []) : hv_C G gw l y bytes maxL ret fr lo n hp as r n' hp' mc ms := by
  refine Met.ofW (cc := bytes) (maxL := maxL) (ret := ret) hy rfl ?_
  intro p e s m args below meth c s₁ B hml hv
  obtain ⟨rfl, h1, h2, h3, h4⟩ := hv
  have hts := atoms_spec (ws := .code y bytes maxL ret :: gw) B.pre
  have hown : s.vm.findClass y.cls = some m.cls := findClass_of_methodNamed B.named
  have hX : hv_X G p s m (as.map (hv_v G)).toArray c (.code y bytes maxL ret :: gw) y.cls bytes maxL := ⟨B.exec, B.bytes, hml, hown, hts, h2, by rw [h1.1]; omega, h3, h4⟩
  have hl := lv_entry (as.map (hv_v G)) (n := maxL) (by rw [hv_sl_len]; exact hal)
  rw [lg_entry_eq]
  rw [hv_args_map] at hl
  exact k p e s m _ below meth c hX B.returns B.notSynchronized (name_of_methodNamed B.named B.method).1 s.heap [] _ h1 (fun q _ => rfl) (fun q hq => absurd hq List.not_mem_nil) hl
end
section
/-! new int[N][K]: the outer array and N rows behind it -/
def hv_mH (hp : hv_H) (n N K : Nat) : hv_H := fun j => if j = n then some (.inl (5, N, fun i => if i < N then .ref (n + 1 + i + 1) else .null)) else if n < j ∧ j < n + 1 + N then some (.inl (1, K, fun _ => .int 0)) else hp j
theorem hv_outer (G : hv_G) (c : ClassId) (N n : Nat) : ∀ i : Nat, Jvm.Free.Multi.outerC c N (G.1.1 + n) i = arrV c N (fun j => hv_v G (if j < i then .ref (n + 1 + j + 1) else .null))
  | 0 => by
    show ({ cls := c, slots := Array.replicate N .null, vm := .none } : Cell) = _
    rw [arrV_new]
    refine congrArg (arrV c N) (funext fun j => ?_)
    simp [hv_v]
  | i + 1 => by
    show (Jvm.Free.Multi.outerC c N (G.1.1 + n) i).setSlot i (.ref (G.1.1 + n + 1 + i)) = _
    rw [hv_outer G c N n i, arrV_store]
    refine congrArg (arrV c N) (funext fun j => ?_)
    by_cases e : j = i
    · subst e
      simp only [updV, if_true, Nat.lt_succ_self]
      show Value.ref _ = Value.ref _
      congr 1
      show _ = G.1.1 + (n + 1 + j)
      omega
    · by_cases h : j < i
      · simp [updV, e, h, Nat.lt_succ_of_lt h]
      · simp [updV, e, h, show ¬ j < i + 1 by omega]
section HWM
variable {G : hv_G} {p : Program} {l : Launch} {e : Env} {R : Room} {s : State} {m : MethodId} {args : Array Value} {below : List Frame} {meth : Method} {c : Code} {nL : Nat} {Q : State → Prop} {n : Nat} {hp : hv_H} {cells slots pc : Nat} {lv : List (Nat × Value)} {st : List Value} {Ts : List Cond} {own : String} {cc : ByteArray}
theorem hw_mna (X : hv_X G p s m args c Ts own cc nL) {ix N K : Nat} {a b : Int32} (hd : decode cc pc = .ok (.multianewarray ix 2, 4)) (hw1 : Cond.classLink own ix ("[" ++ (FieldType.array .int).toString) ∈ Ts) (hw2 : Cond.arrayOver (.array .int) ∈ Ts) (hw3 : Cond.arrayClass .int ∈ Ts) (ha : ¬ a < 0) (hb' : ¬ b < 0) (hN : a.toNatClampNeg = N) (hK' : b.toNatClampNeg = K) (g1 : N * 4 ≤ 536870912) (g2 : K * 4 ≤ 536870912) (hc : cells + (1 + N) ≤ R.cells) (hs : slots + (N + N * K) ≤ R.slots)
    (k : hv_W G p l e R s m args below meth c nL Q (n + 1 + N) (hv_mH hp n N K) (cells + 1 + N) (slots + N + N * K) (pc + 4) lv (.ref (n + 1) :: st)) : hv_W G p l e R s m args below meth c nL Q n hp cells slots pc lv (.int b :: .int a :: st) := by
  intro H locs ls h1 h2 h3 h4
  subst hN
  subst hK'
  obtain ⟨hx, hb, hml, hown, hts, hK, hB, hbB, hX⟩ := X
  intro T hT Xs
  obtain ⟨vm₁, cA, comp, -, fA, fC, hO, -, X', step⟩ := Xs.multianewarray2F hx hown (hts _ hw1) (hts _ hw2) (hts _ hw3) (g := F0 m pc ls (.int b :: .int a :: st.map (hv_v G))) rfl (by rw [hb]; exact hd) rfl ha hb' g1 g2 (by omega) rfl rfl hc hs
  have hcI : comp = G.2.2.2 1 := by
    have hR : s.vm.findClass ("[" ++ (FieldType.int).toString) = some (G.2.2.2 1) := (hK.2 1 _ (hv_tys_at rfl)).2
    exact Option.some.inj (fC.symm.trans hR)
  have hcA : cA = G.2.2.2 5 := by
    have hR : s.vm.findClass ("[" ++ (FieldType.array .int).toString) = some (G.2.2.2 5) := (hK.2 5 _ (hv_tys_at rfl)).2
    exact Option.some.inj (fA.symm.trans hR)
  subst hcI
  subst hcA
  generalize hF : Jvm.Free.Multi.fill (T.setVm vm₁) (G.2.2.2 5) (G.2.2.2 1) a.toNatClampNeg b.toNatClampNeg (defaultValue .int) a.toNatClampNeg = F at X' step
  have hTh : (T.setVm vm₁).heap = H := hT
  obtain ⟨f1, f2, -, -⟩ := Jvm.Free.Multi.fill_facts (T.setVm vm₁) (G.2.2.2 5) (G.2.2.2 1) a.toNatClampNeg b.toNatClampNeg (defaultValue .int) a.toNatClampNeg
  rw [hF, hTh] at f1 f2
  have hold : ∀ x : Nat, x < H.size → F.heap[x]? = H[x]? := fun x hx => by
    have := Jvm.Free.Multi.fill_old (T.setVm vm₁) (G.2.2.2 5) (G.2.2.2 1) a.toNatClampNeg b.toNatClampNeg (defaultValue .int) (a := x) (by rw [hTh]; exact hx) a.toNatClampNeg
    rw [hF, hTh] at this
    exact this
  have hrow : ∀ j : Nat, j < a.toNatClampNeg → F.heap[H.size + 1 + j]? = some (arrV (G.2.2.2 1) b.toNatClampNeg (fun _ => .int 0)) := fun j hj => by
    have := Jvm.Free.Multi.fill_inner (T.setVm vm₁) (G.2.2.2 5) (G.2.2.2 1) a.toNatClampNeg b.toNatClampNeg (defaultValue .int) a.toNatClampNeg j hj
    rw [hF, hTh] at this
    rw [this]
    exact congrArg some (arrV_new _ _ _)
  have hsz : H.size = G.1.1 + n := h1.1
  rw [hsz, hv_outer] at f2
  have hP : hv_P G (n + 1 + a.toNatClampNeg) (hv_mH hp n a.toNatClampNeg b.toNatClampNeg) F.heap := by
    refine ⟨by rw [f1, hsz]; omega, fun i x hi => ?_⟩
    unfold hv_mH at hi
    by_cases e1 : i = n
    · subst e1
      rw [if_pos rfl] at hi
      cases hi
      exact f2
    · rw [if_neg e1] at hi
      by_cases e2 : n < i ∧ i < n + 1 + a.toNatClampNeg
      · rw [if_pos e2] at hi
        cases hi
        have := hrow (i - n - 1) (by omega)
        rw [show H.size + 1 + (i - n - 1) = G.1.1 + i by rw [hsz]; omega] at this
        exact this
      · rw [if_neg e2] at hi
        exact (h1.2 i x hi).kept (hold _ (h1.2 i x hi).lt)
  have hk := k F.heap locs ls hP (hv_low' h2 (by rw [hsz]; omega) hold) h3 h4
  obtain ⟨t, a1, b1⟩ := hk F rfl X'
  refine ⟨t, step t ?_, b1⟩
  have hTz : T.heap.size = G.1.1 + n := by rw [hT]; exact hsz
  rw [hTz]
  exact a1
end HWM
end
section
/-! THE MACHINE OF THE WORLD, as a function that the kernel can compute: cells as lists, thirty-two to a row -/
abbrev hc_C : Type := (Nat × List Value) ⊕ (Nat × List Value)
abbrev hc_H : Type := List (List (Option hc_C))
abbrev hc_I : Type := Instr × Nat × Nat × Nat
abbrev hc_K : Type := List (List (Option hc_I))
abbrev hc_M : Type := MethodName × ByteArray × Nat × Option FieldType × Nat × Nat × hc_K
abbrev hc_S : Type := Nat × List Value × List Value × Nat × hc_H × Nat × Nat
abbrev hc_R : Type := Option Value × Nat × hc_H × Nat × Nat
noncomputable def hc_nth {α : Type} (l : List α) : Nat → Option α := List.rec (motive := fun _ => Nat → Option α) (fun _ => none) (fun a _ ih n => Nat.rec (motive := fun _ => Option α) (some a) (fun m _ => ih m) n) l
noncomputable def hc_set {α : Type} (l : List α) : Nat → α → List α := List.rec (motive := fun _ => Nat → α → List α) (fun _ _ => []) (fun a t ih n x => Nat.rec (motive := fun _ => List α) (x :: t) (fun m _ => a :: ih m x) n) l
noncomputable def hc_get {α : Type} (t : List (List (Option α))) (i : Nat) : Option α := match hc_nth t (i / 32) with
  | none => none
  | some ch => match hc_nth ch (i % 32) with
    | none => none
    | some x => x
noncomputable def hc_put (t : hc_H) (i : Nat) (e : hc_C) : Option hc_H := match hc_nth t (i / 32) with
  | none => none
  | some ch => match hc_nth ch (i % 32) with
    | none => none
    | some _ => some (hc_set t (i / 32) (hc_set ch (i % 32) (some e)))
theorem hc_nth_eq {α : Type} : ∀ (l : List α) (n : Nat), hc_nth l n = l[n]?
  | [], n => by simp [hc_nth]
  | a :: l, 0 => rfl
  | a :: l, n + 1 => by
    show hc_nth l n = _
    rw [hc_nth_eq l n]
    simp
theorem hc_set_eq {α : Type} : ∀ (l : List α) (n : Nat) (x : α), hc_set l n x = l.set n x
  | [], n, x => by simp [hc_set]
  | a :: l, 0, x => rfl
  | a :: l, n + 1, x => by
    show a :: hc_set l n x = _
    rw [hc_set_eq l n x]
    rfl
theorem hc_get_put {t t' : hc_H} {i : Nat} {e : hc_C} (h : hc_put t i e = some t') (j : Nat) : hc_get t' j = if j = i then some e else hc_get t j := by
  unfold hc_put at h
  split at h
  · cases h
  next ch h1 =>
    split at h
    · cases h
    next x h2 =>
      cases h
      rw [hc_nth_eq] at h1 h2
      have l1 : i / 32 < t.length := (List.getElem?_eq_some_iff.mp h1).1
      have l2 : i % 32 < ch.length := (List.getElem?_eq_some_iff.mp h2).1
      unfold hc_get
      rw [hc_nth_eq, hc_set_eq, hc_set_eq, List.getElem?_set]
      by_cases e1 : i / 32 = j / 32
      · rw [if_pos e1, if_pos (by omega)]
        simp only [hc_nth_eq]
        rw [List.getElem?_set]
        by_cases e2 : i % 32 = j % 32
        · have : j = i := by omega
          subst this
          simp [l2]
        · have : ¬ j = i := fun q => e2 (by rw [q])
          rw [if_neg e2, if_neg this]
          rw [← e1, h1]
      · have : ¬ j = i := fun q => e1 (by rw [q])
        rw [if_neg e1, if_neg this]
        simp only [hc_nth_eq]
def hc_toE (c : hc_C) : hv_E := match c with
  | .inl a => .inl (a.1, a.2.length, fun j => a.2.getD j .null)
  | .inr o => .inr (o.1, fun j => o.2.getD j .null)
noncomputable def hc_f (h : hc_H) : hv_H := fun i => (hc_get h i).map hc_toE
theorem hc_f_put {t t' : hc_H} {i : Nat} {e : hc_C} (h : hc_put t i e = some t') : hc_f t' = hv_up (hc_f t) i (hc_toE e) := by
  funext j
  unfold hc_f hv_up
  rw [hc_get_put h j]
  by_cases hj : j = i <;> simp [hj]
noncomputable def hc_pop (na : Nat) : List Value → List Value → Option (List Value × List Value) := Nat.rec (motive := fun _ => List Value → List Value → Option (List Value × List Value)) (fun st acc => some (acc, st)) (fun _ ih st acc => match st with
  | [] => none
  | v :: st => ih st (v :: acc)) na
theorem hc_pop_eq : ∀ (na : Nat) (st acc as rest : List Value), hc_pop na st acc = some (as, rest) → ∃ bs : List Value, as = bs ++ acc ∧ bs.length = na ∧ st = bs.reverse ++ rest
  | 0, st, acc, as, rest, h => by
    cases h
    exact ⟨[], rfl, rfl, rfl⟩
  | na + 1, [], acc, as, rest, h => by cases h
  | na + 1, v :: st, acc, as, rest, h => by
    have h' : hc_pop na st (v :: acc) = some (as, rest) := h
    obtain ⟨bs, h1, h2, h3⟩ := hc_pop_eq na st (v :: acc) as rest h'
    exact ⟨bs ++ [v], by simp [h1], by simp [h2], by simp [h3]⟩
noncomputable def hc_cat (st : List Value) : Nat := List.rec (motive := fun _ => Nat) 0 (fun v _ ih => (match v with
  | .long _ => 2
  | .double _ => 2
  | _ => 1) + ih) st
theorem hc_cat_eq : ∀ st : List Value, hc_cat st = (st.map fun v => v.category).sum
  | [] => rfl
  | v :: st => by
    show _ + hc_cat st = _
    rw [hc_cat_eq st]
    cases v <;> simp [Value.category]
/-- the locals: a list; .retAddr stands for none, .double for a long's second half -/
noncomputable def hc_ent (as : List Value) : Nat → List Value := List.rec (motive := fun _ => Nat → List Value) (fun n => List.replicate n (.retAddr 0)) (fun v _ ih n => match v with
  | .long x => .long x :: .double 0 :: ih (n - 2)
  | .double x => .double x :: .double 0 :: ih (n - 2)
  | v => v :: ih (n - 1)) as
def hc_isV (v : Value) : Bool := match v with
  | .retAddr _ => false
  | .double _ => false
  | _ => true
def hc_lv (l : List Value) : List (Nat × Value) := (List.range l.length).filterMap (fun i => match l[i]? with
  | some v => if hc_isV v then some (i, v) else none
  | none => none)
theorem hc_lv_mem {l : List Value} {i : Nat} {v : Value} : (i, v) ∈ hc_lv l ↔ l[i]? = some v ∧ hc_isV v = true := by
  unfold hc_lv
  rw [List.mem_filterMap]
  constructor
  · rintro ⟨j, -, h⟩
    split at h
    next w hw =>
      split at h
      next hv => cases h; exact ⟨hw, hv⟩
      · cases h
    · cases h
  · rintro ⟨h1, h2⟩
    refine ⟨i, List.mem_range.mpr (List.getElem?_eq_some_iff.mp h1).1, ?_⟩
    rw [h1]
    simp [h2]
def hc_two (v : Option Value) : Bool := match v with
  | some (.long _) => true
  | some (.double _) => true
  | _ => false
/-- a store of one word, of two words -/
noncomputable def hc_s1 (l : List Value) (i : Nat) (v : Value) : Option (List Value) := match hc_nth l i with
  | none => none
  | some _ => Nat.rec (motive := fun _ => Option (List Value)) (some (hc_set l i v)) (fun m _ => match hc_two (hc_nth l m) with
    | true => none
    | false => some (hc_set l i v)) i
noncomputable def hc_s2 (l : List Value) (i : Nat) (v : Value) : Option (List Value) := match hc_nth l (i + 1) with
  | none => none
  | some _ => Nat.rec (motive := fun _ => Option (List Value)) (some (hc_set (hc_set l i v) (i + 1) (.double 0))) (fun m _ => match hc_two (hc_nth l m) with
    | true => none
    | false => some (hc_set (hc_set l i v) (i + 1) (.double 0))) i
theorem hc_s1_ok {l l' : List Value} {i : Nat} {v : Value} (h : hc_s1 l i v = some l') : i < l.length ∧ l' = l.set i v ∧ ∀ (j : Nat) (w : Value), l[j]? = some w → hc_isV w = true → ¬ (j + 1 = i ∧ w.category = 2) := by
  unfold hc_s1 at h
  split at h
  · cases h
  next x hx =>
    rw [hc_nth_eq] at hx
    refine ⟨(List.getElem?_eq_some_iff.mp hx).1, ?_⟩
    cases i with
    | zero =>
      cases h
      exact ⟨hc_set_eq _ _ _, fun j w _ _ q => by omega⟩
    | succ m =>
      dsimp only at h
      split at h
      · cases h
      next ht =>
        cases h
        refine ⟨hc_set_eq _ _ _, fun j w hw hv q => ?_⟩
        have e : j = m := by omega
        subst e
        rw [hc_nth_eq, hw] at ht
        cases w <;> simp_all [hc_two, Value.category, hc_isV]
theorem hc_s2_ok {l l' : List Value} {i : Nat} {v : Value} (h : hc_s2 l i v = some l') : i + 1 < l.length ∧ l' = (l.set i v).set (i + 1) (.double 0) ∧ ∀ (j : Nat) (w : Value), l[j]? = some w → hc_isV w = true → ¬ (j + 1 = i ∧ w.category = 2) := by
  unfold hc_s2 at h
  split at h
  · cases h
  next x hx =>
    rw [hc_nth_eq] at hx
    refine ⟨(List.getElem?_eq_some_iff.mp hx).1, ?_⟩
    cases i with
    | zero =>
      cases h
      exact ⟨by rw [hc_set_eq, hc_set_eq], fun j w _ _ q => by omega⟩
    | succ m =>
      dsimp only at h
      split at h
      · cases h
      next ht =>
        cases h
        refine ⟨by rw [hc_set_eq, hc_set_eq], fun j w hw hv q => ?_⟩
        have e : j = m := by omega
        subst e
        rw [hc_nth_eq, hw] at ht
        cases w <;> simp_all [hc_two, Value.category, hc_isV]
theorem hc_lv_s1 {l l' : List Value} {i : Nat} {v : Value} (h : hc_s1 l i v = some l') : ∀ q ∈ hc_lv l', q ∈ hv_s1 i v (hc_lv l) := by
  obtain ⟨h1, h2, h3⟩ := hc_s1_ok h
  subst h2
  rintro ⟨j, w⟩ hq
  obtain ⟨g1, g2⟩ := hc_lv_mem.mp hq
  rw [List.getElem?_set] at g1
  unfold hv_s1
  by_cases e : i = j
  · subst e
    rw [if_pos rfl, if_pos h1] at g1
    cases g1
    exact List.mem_cons_self
  · rw [if_neg e] at g1
    refine List.mem_cons_of_mem _ (List.mem_filter.mpr ⟨hc_lv_mem.mpr ⟨g1, g2⟩, ?_⟩)
    have hn := h3 j w g1 g2
    have e' : ¬ j = i := fun q => e q.symm
    by_cases e2 : j + 1 = i
    · have : ¬ w.category = 2 := fun q => hn ⟨e2, q⟩
      simp [e', this]
    · simp [e', e2]
theorem hc_lv_s2 {l l' : List Value} {i : Nat} {v : Value} (h : hc_s2 l i v = some l') : ∀ q ∈ hc_lv l', q ∈ hv_s2 i v (hc_lv l) := by
  obtain ⟨h1, h2, h3⟩ := hc_s2_ok h
  subst h2
  rintro ⟨j, w⟩ hq
  obtain ⟨g1, g2⟩ := hc_lv_mem.mp hq
  rw [List.getElem?_set] at g1
  unfold hv_s2
  by_cases e0 : i + 1 = j
  · rw [if_pos e0, if_pos (by rw [List.length_set]; omega)] at g1
    cases g1
    cases g2
  · rw [if_neg e0, List.getElem?_set] at g1
    by_cases e : i = j
    · subst e
      rw [if_pos rfl, if_pos (by omega)] at g1
      cases g1
      exact List.mem_cons_self
    · rw [if_neg e] at g1
      refine List.mem_cons_of_mem _ (List.mem_filter.mpr ⟨hc_lv_mem.mpr ⟨g1, g2⟩, ?_⟩)
      have hn := h3 j w g1 g2
      have e' : ¬ j = i := fun q => e q.symm
      have e0' : ¬ j = i + 1 := fun q => e0 q.symm
      by_cases e2 : j + 1 = i
      · have : ¬ w.category = 2 := fun q => hn ⟨e2, q⟩
        simp [e', e0', this]
      · simp [e', e0', e2]
theorem hc_ent_at : ∀ (as : List Value) (n i : Nat) (v : Value), hv_words as ≤ n → (hc_ent as n)[i]? = some v → hc_isV v = true → ∀ b : Nat, (b + i, v) ∈ lv_args b as
  | [], n, i, v, _, h, hv, b => by
    have h' : (List.replicate n (Value.retAddr 0))[i]? = some v := h
    rw [List.getElem?_replicate] at h'
    split at h'
    · cases h'; cases hv
    · cases h'
  | a :: as, n, i, v, hw, h, hv, b => by
    have hwa : hv_words (a :: as) = a.category + hv_words as := by simp [hv_words]
    by_cases hc : a.category = 2
    · cases a with
      | long x =>
        have h' : (Value.long x :: .double 0 :: hc_ent as (n - 2))[i]? = some v := h
        match i, h' with
        | 0, h' => cases h'; exact List.mem_cons_self
        | 1, h' => cases h'; cases hv
        | i + 2, h' =>
          have := hc_ent_at as (n - 2) i v (by rw [hwa, hc] at hw; omega) h' hv (b + 2)
          rw [show b + 2 + i = b + (i + 2) by omega] at this
          exact List.mem_cons_of_mem _ this
      | double x =>
        have h' : (Value.double x :: .double 0 :: hc_ent as (n - 2))[i]? = some v := h
        match i, h' with
        | 0, h' => cases h'; cases hv
        | 1, h' => cases h'; cases hv
        | i + 2, h' =>
          have := hc_ent_at as (n - 2) i v (by rw [hwa, hc] at hw; omega) h' hv (b + 2)
          rw [show b + 2 + i = b + (i + 2) by omega] at this
          exact List.mem_cons_of_mem _ this
      | int x => cases hc
      | float x => cases hc
      | null => cases hc
      | ref x => cases hc
      | retAddr x => cases hc
    · have hc1 : a.category = 1 := (lv_cat a).resolve_right hc
      have h' : (a :: hc_ent as (n - 1))[i]? = some v := by
        cases a <;> first | exact h | exact absurd rfl hc
      match i, h' with
      | 0, h' => cases h'; exact List.mem_cons_self
      | i + 1, h' =>
        have := hc_ent_at as (n - 1) i v (by rw [hwa, hc1] at hw; omega) h' hv (b + 1)
        rw [show b + 1 + i = b + (i + 1) by omega] at this
        show _ ∈ (b, a) :: lv_args (if a.category = 2 then b + 2 else b + 1) as
        rw [if_neg hc]
        exact List.mem_cons_of_mem _ this
/-- one instruction -/
def hc_nx (pc : Nat) (l st : List Value) (n : Nat) (h : hc_H) (c s : Nat) : Option (hc_S ⊕ Option Value) := some (.inl (pc, l, st, n, h, c, s))
noncomputable def hc_ld (l : List Value) (i : Nat) (k : Value → Option (hc_S ⊕ Option Value)) : Option (hc_S ⊕ Option Value) := match hc_nth l i with
  | none => none
  | some v => k v
noncomputable def hc_cmp (op : Jvm.ClassFile.Cond) (x y : Int32) : Bool := match op with
  | .eq => decide (x = y)
  | .ne => !decide (x = y)
  | .lt => decide (x < y)
  | .ge => decide (y ≤ x)
  | .gt => decide (y < x)
  | .le => decide (x ≤ y)
def hc_arr (t : Nat) (e : Option hc_C) : Option (List Value) := match e with
  | some (.inl a) => match Nat.beq a.1 t with
    | true => some a.2
    | false => none
  | _ => none
def hc_obj (t : Nat) (e : Option hc_C) : Option (List Value) := match e with
  | some (.inr a) => match Nat.beq a.1 t with
    | true => some a.2
    | false => none
  | _ => none
def hc_isI (v : Value) : Bool := match v with
  | .int _ => true
  | .float _ => true
  | _ => false
def hc_fit (ty : FieldType) (v : Value) : Bool := match ty with
  | .int => hc_isI v
  | .boolean => match v with
    | .int x => decide (x = 0) || decide (x = 1)
    | _ => false
  | .object _ => match v with
    | .ref _ => true
    | .null => true
    | _ => false
  | .array _ => match v with
    | .ref _ => true
    | .null => true
    | _ => false
  | _ => false
def hc_rtv (ret : Option FieldType) (v : Value) : Bool := match ret with
  | some .int => hc_isI v
  | some .boolean => match v with
    | .int x => decide (x = 0) || decide (x = 1)
    | _ => false
  | _ => false
/-- the element at j -/
noncomputable def hc_el (l : List Value) (j : Int32) : Option Value := match decide (j < 0) with
  | true => none
  | false => hc_nth l j.toNatClampNeg
noncomputable def hc_ald (t : Nat) (pc : Nat) (l st : List Value) (n : Nat) (h : hc_H) (c s : Nat) : Option (hc_S ⊕ Option Value) := match st with
  | .int j :: .ref (i + 1) :: st => match hc_arr t (hc_get h i) with
    | none => none
    | some a => match hc_el a j with
      | none => none
      | some v => hc_nx (pc + 1) l (v :: st) n h c s
  | _ => none
noncomputable def hc_ast (t i : Nat) (j : Int32) (v : Value) (pc : Nat) (l st : List Value) (n : Nat) (h : hc_H) (c s : Nat) : Option (hc_S ⊕ Option Value) := match hc_arr t (hc_get h i) with
  | none => none
  | some a => match hc_el a j with
    | none => none
    | some _ => match hc_put h i (.inl (t, hc_set a j.toNatClampNeg v)) with
      | none => none
      | some h' => hc_nx (pc + 1) l st n h' c s
def hc_app (r : Option Value) (st : List Value) : List Value := match r with
  | none => st
  | some v => v :: st
def hc_tyX (ci kf : Nat) : FieldType := match ci with
  | 0 => tyX0 kf
  | 1 => tyX1 kf
  | 2 => tyX2 kf
  | 3 => tyX3 kf
  | 4 => tyX4 kf
  | 5 => tyX5 kf
  | 6 => tyX6 kf
  | 7 => tyX7 kf
  | 8 => tyX8 kf
  | 9 => tyX9 kf
  | _ => tyX10 kf
def hc_nf (ci : Nat) : Nat := match ci with
  | 0 => 6
  | 1 => 6
  | 2 => 11
  | 3 => 3
  | 4 => 9
  | 5 => 8
  | 6 => 4
  | 7 => 3
  | 8 => 2
  | 9 => 17
  | _ => 64
noncomputable def hc_rows (t : hc_H) (n : Nat) (K : Nat) (N : Nat) : Option hc_H := Nat.rec (motive := fun _ => Option hc_H) (some t) (fun i ih => match ih with
  | none => none
  | some t => hc_put t (n + i) (.inl (1, List.replicate K (.int 0)))) N
section HCS
variable (LS : Nat × (Nat → Option Int32)) (pg : List (List (Option hc_M))) (call : Nat → hc_M → List Value → Nat → hc_H → Option hc_R) (ret : Option FieldType)
noncomputable def hc_inv (sp : Nat) (k : Nat) (pc : Nat) (l st : List Value) (n : Nat) (h : hc_H) (c s : Nat) : Option (hc_S ⊕ Option Value) := match hc_get pg k with
  | none => none
  | some e => match hc_pop e.2.2.2.2.2.1 st [] with
    | none => none
    | some (as, rest) => match sp with
      | 0 => match rest with
        | .ref (i + 1) :: rest => match hc_obj e.2.2.2.2.1 (hc_get h i) with
          | none => none
          | some _ => match Nat.ble (hc_cat rest) 8 with
            | false => none
            | true => match call k e (.ref (i + 1) :: as) n h with
              | none => none
              | some (r, n', h', mc, ms) => hc_nx (pc + 3) l (hc_app r rest) n' h' (c + mc) (s + ms)
        | _ => none
      | 1 => match rest with
        | .ref a :: rest => match Nat.ble (hc_cat rest) 8 with
          | false => none
          | true => match call k e (.ref a :: as) n h with
            | none => none
            | some (r, n', h', mc, ms) => hc_nx (pc + 3) l (hc_app r rest) n' h' (c + mc) (s + ms)
        | _ => none
      | _ => match Nat.ble (hc_cat rest) 8 with
        | false => none
        | true => match call k e as n h with
          | none => none
          | some (r, n', h', mc, ms) => hc_nx (pc + 3) l (hc_app r rest) n' h' (c + mc) (s + ms)
noncomputable def hc_step (ii : Instr) (len r1 r2 : Nat) (pc : Nat) (l st : List Value) (n : Nat) (h : hc_H) (c s : Nat) : Option (hc_S ⊕ Option Value) := match ii with
  | .iconst _ => hc_nx (pc + 1) l (.int (Int32.ofNat r1) :: st) n h c s
  | .bipush _ => hc_nx (pc + 2) l (.int (Int32.ofNat r1) :: st) n h c s
  | .sipush _ => hc_nx (pc + 3) l (.int (Int32.ofNat r1) :: st) n h c s
  | .ldc _ => hc_nx (pc + 2) l (.int (Int32.ofNat r1) :: st) n h c s
  | .ldc_w _ => hc_nx (pc + 3) l (.int (Int32.ofNat r1) :: st) n h c s
  | .lconst _ => hc_nx (pc + 1) l (.long (Int64.ofNat r1) :: st) n h c s
  | .ldc2_w _ => hc_nx (pc + 3) l (.long (Int64.ofNat r1) :: st) n h c s
  | .iload_n _ => match hc_nth l r1 with
    | some (.int x) => hc_nx (pc + 1) l (.int x :: st) n h c s
    | some (.float x) => hc_nx (pc + 1) l (.float x :: st) n h c s
    | _ => none
  | .iload _ => match hc_nth l r1 with
    | some (.int x) => hc_nx (pc + 2) l (.int x :: st) n h c s
    | some (.float x) => hc_nx (pc + 2) l (.float x :: st) n h c s
    | _ => none
  | .lload_n _ => match hc_nth l r1 with
    | some (.long x) => hc_nx (pc + 1) l (.long x :: st) n h c s
    | _ => none
  | .lload _ => match hc_nth l r1 with
    | some (.long x) => hc_nx (pc + 2) l (.long x :: st) n h c s
    | _ => none
  | .aload_n _ => match hc_nth l r1 with
    | some (.ref x) => hc_nx (pc + 1) l (.ref x :: st) n h c s
    | _ => none
  | .aload _ => match hc_nth l r1 with
    | some (.ref x) => hc_nx (pc + 2) l (.ref x :: st) n h c s
    | _ => none
  | .istore_n _ => match st with
    | .int x :: st => match hc_s1 l r1 (.int x) with
      | some l => hc_nx (pc + 1) l st n h c s
      | none => none
    | .float x :: st => match hc_s1 l r1 (.float x) with
      | some l => hc_nx (pc + 1) l st n h c s
      | none => none
    | _ => none
  | .istore _ => match st with
    | .int x :: st => match hc_s1 l r1 (.int x) with
      | some l => hc_nx (pc + 2) l st n h c s
      | none => none
    | .float x :: st => match hc_s1 l r1 (.float x) with
      | some l => hc_nx (pc + 2) l st n h c s
      | none => none
    | _ => none
  | .lstore_n _ => match st with
    | .long x :: st => match hc_s2 l r1 (.long x) with
      | some l => hc_nx (pc + 1) l st n h c s
      | none => none
    | _ => none
  | .lstore _ => match st with
    | .long x :: st => match hc_s2 l r1 (.long x) with
      | some l => hc_nx (pc + 2) l st n h c s
      | none => none
    | _ => none
  | .astore_n _ => match st with
    | .ref x :: st => match hc_s1 l r1 (.ref x) with
      | some l => hc_nx (pc + 1) l st n h c s
      | none => none
    | _ => none
  | .astore _ => match st with
    | .ref x :: st => match hc_s1 l r1 (.ref x) with
      | some l => hc_nx (pc + 2) l st n h c s
      | none => none
    | _ => none
  | .iinc _ _ => match hc_nth l r1 with
    | some (.int x) => match hc_s1 l r1 (.int (x + Int32.ofNat r2)) with
      | some l => hc_nx (pc + 3) l st n h c s
      | none => none
    | _ => none
  | .iadd => match st with
    | .int y :: .int x :: st => hc_nx (pc + 1) l (.int (x + y) :: st) n h c s
    | _ => none
  | .isub => match st with
    | .int y :: .int x :: st => hc_nx (pc + 1) l (.int (x - y) :: st) n h c s
    | _ => none
  | .imul => match st with
    | .int y :: .int x :: st => hc_nx (pc + 1) l (.int (x * y) :: st) n h c s
    | _ => none
  | .iand => match st with
    | .int y :: .int x :: st => hc_nx (pc + 1) l (.int (x &&& y) :: st) n h c s
    | _ => none
  | .ior => match st with
    | .int y :: .int x :: st => hc_nx (pc + 1) l (.int (x ||| y) :: st) n h c s
    | _ => none
  | .ixor => match st with
    | .int y :: .int x :: st => hc_nx (pc + 1) l (.int (x ^^^ y) :: st) n h c s
    | _ => none
  | .ishl => match st with
    | .int y :: .int x :: st => hc_nx (pc + 1) l (.int (x <<< (y &&& 31)) :: st) n h c s
    | _ => none
  | .ishr => match st with
    | .int y :: .int x :: st => hc_nx (pc + 1) l (.int (x >>> (y &&& 31)) :: st) n h c s
    | _ => none
  | .iushr => match st with
    | .int y :: .int x :: st => hc_nx (pc + 1) l (.int ((x.toUInt32 >>> (y.toUInt32 &&& Int32.toUInt32 31)).toInt32) :: st) n h c s
    | _ => none
  | .ladd => match st with
    | .long y :: .long x :: st => hc_nx (pc + 1) l (.long (x + y) :: st) n h c s
    | _ => none
  | .lsub => match st with
    | .long y :: .long x :: st => hc_nx (pc + 1) l (.long (x - y) :: st) n h c s
    | _ => none
  | .lmul => match st with
    | .long y :: .long x :: st => hc_nx (pc + 1) l (.long (x * y) :: st) n h c s
    | _ => none
  | .lor => match st with
    | .long y :: .long x :: st => hc_nx (pc + 1) l (.long (x ||| y) :: st) n h c s
    | _ => none
  | .idiv => match st with
    | .int y :: .int x :: st => match decide (y = 0) with
      | true => none
      | false => hc_nx (pc + 1) l (.int (x / y) :: st) n h c s
    | _ => none
  | .irem => match st with
    | .int y :: .int x :: st => match decide (y = 0) with
      | true => none
      | false => hc_nx (pc + 1) l (.int (x - x / y * y) :: st) n h c s
    | _ => none
  | .lshl => match st with
    | .int y :: .long x :: st => hc_nx (pc + 1) l (.long (x <<< (y.toInt64 &&& 63)) :: st) n h c s
    | _ => none
  | .lcmp => match st with
    | .long y :: .long x :: st => hc_nx (pc + 1) l (.int (lg_cmp x y) :: st) n h c s
    | _ => none
  | .i2l => match st with
    | .int x :: st => hc_nx (pc + 1) l (.long x.toInt64 :: st) n h c s
    | _ => none
  | .l2i => match st with
    | .long x :: st => hc_nx (pc + 1) l (.int x.toInt32 :: st) n h c s
    | _ => none
  | .i2b => match st with
    | .int x :: st => hc_nx (pc + 1) l (.int x.toInt8.toInt32 :: st) n h c s
    | _ => none
  | .i2c => match st with
    | .int x :: st => hc_nx (pc + 1) l (.int (x.toUInt32 % 65536).toInt32 :: st) n h c s
    | _ => none
  | .dup => match st with
    | v :: st => match hc_two (some v) with
      | true => none
      | false => hc_nx (pc + 1) l (v :: v :: st) n h c s
    | _ => none
  | .pop => match st with
    | v :: st => match hc_two (some v) with
      | true => none
      | false => hc_nx (pc + 1) l st n h c s
    | _ => none
  | .dup2 => match st with
    | v :: w :: st => match hc_two (some v) || hc_two (some w) with
      | true => none
      | false => hc_nx (pc + 1) l (v :: w :: v :: w :: st) n h c s
    | _ => none
  | .ifCond op _ => match st with
    | .int x :: st => match hc_cmp op x 0 with
      | true => hc_nx r1 l st n h c s
      | false => hc_nx (pc + 3) l st n h c s
    | _ => none
  | .if_icmp op _ => match st with
    | .int y :: .int x :: st => match hc_cmp op x y with
      | true => hc_nx r1 l st n h c s
      | false => hc_nx (pc + 3) l st n h c s
    | _ => none
  | .goto _ => hc_nx r1 l st n h c s
  | .tableswitch dflt lo hi offs => match st with
    | .int x :: st => match decide (x.toInt < lo) || decide (hi < x.toInt) with
      | true => match decide (0 ≤ (pc : Int) + dflt) with
        | true => hc_nx ((pc : Int) + dflt).toNat l st n h c s
        | false => none
      | false => match hc_nth offs.toList (x.toInt - lo).toNat with
        | none => none
        | some off => match decide (0 ≤ (pc : Int) + off) with
          | true => hc_nx ((pc : Int) + off).toNat l st n h c s
          | false => none
    | _ => none
  | .getfield _ => match st with
    | .ref (i + 1) :: st => match hc_obj r1 (hc_get h i) with
      | none => none
      | some fs => match hc_nth fs r2 with
        | none => none
        | some v => hc_nx (pc + 3) l (v :: st) n h c s
    | _ => none
  | .putfield _ => match st with
    | v :: .ref (i + 1) :: st => match hc_obj r1 (hc_get h i) with
      | none => none
      | some fs => match hc_fit (hc_tyX r1 r2) v with
        | false => none
        | true => match hc_nth fs r2 with
          | none => none
          | some _ => match hc_put h i (.inr (r1, hc_set fs r2 v)) with
            | none => none
            | some h => hc_nx (pc + 3) l st n h c s
    | _ => none
  | .iaload => match st with
    | .int j :: .ref 0 :: st => match decide (j < 0) || Nat.ble LS.1 j.toNatClampNeg with
      | true => none
      | false => match LS.2 j.toNatClampNeg with
        | some x => hc_nx (pc + 1) l (.int x :: st) n h c s
        | none => hc_nx (pc + 1) l (.float (UInt32.ofNat j.toNatClampNeg) :: st) n h c s
    | st => hc_ald 1 pc l st n h c s
  | .baload => match hc_ald 0 pc l st n h c s with
    | some r => some r
    | none => hc_ald 3 pc l st n h c s
  | .laload => hc_ald 2 pc l st n h c s
  | .aaload => match hc_ald 4 pc l st n h c s with
    | some r => some r
    | none => hc_ald 5 pc l st n h c s
  | .iastore => match st with
    | .int x :: .int j :: .ref (i + 1) :: st => hc_ast 1 i j (.int x) pc l st n h c s
    | .float x :: .int j :: .ref (i + 1) :: st => hc_ast 1 i j (.float x) pc l st n h c s
    | _ => none
  | .bastore => match st with
    | .int x :: .int j :: .ref (i + 1) :: st => match hc_arr 0 (hc_get h i) with
      | some _ => hc_ast 0 i j (.int x.toInt8.toInt32) pc l st n h c s
      | none => match decide (x = 0) || decide (x = 1) with
        | true => hc_ast 3 i j (.int x) pc l st n h c s
        | false => none
    | _ => none
  | .lastore => match st with
    | .long x :: .int j :: .ref (i + 1) :: st => hc_ast 2 i j (.long x) pc l st n h c s
    | _ => none
  | .aastore => match st with
    | .ref (iv + 1) :: .int j :: .ref (i + 1) :: st => match hc_obj 2 (hc_get h iv) with
      | none => none
      | some _ => hc_ast 4 i j (.ref (iv + 1)) pc l st n h c s
    | _ => none
  | .arraylength => match st with
    | .ref 0 :: st => hc_nx (pc + 1) l (.int (Int32.ofNat LS.1) :: st) n h c s
    | .ref (i + 1) :: st => match hc_get h i with
      | some (.inl a) => match Nat.ble 6 a.1 with
        | true => none
        | false => hc_nx (pc + 1) l (.int (Int32.ofNat a.2.length) :: st) n h c s
      | _ => none
    | _ => none
  | .new _ => match hc_put h n (.inr (r1, (List.range (hc_nf r1)).map (fun k => defaultValue (hc_tyX r1 k)))) with
    | none => none
    | some h => hc_nx (pc + 3) l (.ref (n + 1) :: st) (n + 1) h (c + 1) (s + hc_nf r1)
  | .newarray _ => match st with
    | .int j :: st => match decide (j < 0) || Nat.ble 100000 j.toNatClampNeg with
      | true => none
      | false => match hc_put h n (.inl (r1, List.replicate j.toNatClampNeg (match r1 with | 2 => .long 0 | _ => .int 0))) with
        | none => none
        | some h => hc_nx (pc + 2) l (.ref (n + 1) :: st) (n + 1) h (c + 1) (s + j.toNatClampNeg)
    | _ => none
  | .anewarray _ => match st with
    | .int j :: st => match decide (j < 0) || Nat.ble 100000 j.toNatClampNeg with
      | true => none
      | false => match hc_put h n (.inl (4, List.replicate j.toNatClampNeg .null)) with
        | none => none
        | some h => hc_nx (pc + 3) l (.ref (n + 1) :: st) (n + 1) h (c + 1) (s + j.toNatClampNeg)
    | _ => none
  | .multianewarray _ _ => match st with
    | .int b :: .int a :: st => match decide (a < 0) || decide (b < 0) || Nat.ble 100000 a.toNatClampNeg || Nat.ble 100000 b.toNatClampNeg with
      | true => none
      | false => match hc_put h n (.inl (5, (List.range a.toNatClampNeg).map (fun i => .ref (n + 1 + i + 1)))) with
        | none => none
        | some h => match hc_rows h (n + 1) b.toNatClampNeg a.toNatClampNeg with
          | none => none
          | some h => hc_nx (pc + 4) l (.ref (n + 1) :: st) (n + 1 + a.toNatClampNeg) h (c + 1 + a.toNatClampNeg) (s + a.toNatClampNeg + a.toNatClampNeg * b.toNatClampNeg)
    | _ => none
  | .invokevirtual _ => hc_inv pg call 0 r1 pc l st n h c s
  | .invokespecial _ => match r2 with
    | 9 => match st with
      | .ref _ :: st => match Nat.ble (hc_cat st) 8 with
        | false => none
        | true => hc_nx (pc + 3) l st n h c s
      | _ => none
    | _ => hc_inv pg call 1 r1 pc l st n h c s
  | .invokestatic _ => match r2 with
    | 8 => match st with
      | .int z :: .int dp :: .ref (i1 + 1) :: .int sp :: .ref (i0 + 1) :: st => match hc_arr 1 (hc_get h i0) with
        | none => none
        | some f => match hc_arr 1 (hc_get h i1) with
          | none => none
          | some g => match decide (sp = 0) && (decide (dp = 0) && (!decide (z < 0) && (Nat.beq z.toNatClampNeg f.length && (Nat.beq f.length g.length && (f.all hc_isI && Nat.ble (hc_cat st) 8))))) with
            | false => none
            | true => match hc_put h i1 (.inl (1, f)) with
              | none => none
              | some h => hc_nx (pc + 3) l st n h c s
      | _ => none
    | _ => hc_inv pg call 2 r1 pc l st n h c s
  | .return_ => match st with
    | [] => match ret with
      | none => some (.inr none)
      | some _ => none
    | _ => none
  | .ireturn => match st with
    | [v] => match hc_rtv ret v with
      | true => some (.inr (some v))
      | false => none
    | _ => none
  | .lreturn => match st with
    | [.long x] => match ret with
      | some .long => some (.inr (some (.long x)))
      | _ => none
    | _ => none
  | .areturn => match st with
    | [.ref a] => match ret with
      | some (.array _) => some (.inr (some (.ref a)))
      | _ => none
    | _ => none
  | _ => none
end HCS
section HCR
variable (LS : Nat × (Nat → Option Int32)) (pg : List (List (Option hc_M)))
noncomputable def hc_step1 (call : Nat → hc_M → List Value → Nat → hc_H → Option hc_R) (ret : Option FieldType) (tb : hc_K) (S : hc_S) : Option (hc_S ⊕ Option Value) := match hc_get tb S.1 with
  | none => none
  | some I => hc_step LS pg call ret I.1 I.2.1 I.2.2.1 I.2.2.2 S.1 S.2.1 S.2.2.1 S.2.2.2.1 S.2.2.2.2.1 S.2.2.2.2.2.1 S.2.2.2.2.2.2
noncomputable def hc_run (call : Nat → hc_M → List Value → Nat → hc_H → Option hc_R) (ret : Option FieldType) (tb : hc_K) (fuel : Nat) : hc_S → Option hc_R := Nat.rec (motive := fun _ => hc_S → Option hc_R) (fun _ => none) (fun _ ih S => match hc_step1 LS pg call ret tb S with
  | none => none
  | some (.inl S') => ih S'
  | some (.inr r) => some (r, S.2.2.2.1, S.2.2.2.2.1, S.2.2.2.2.2.1, S.2.2.2.2.2.2)) fuel
noncomputable def hc_steps (call : Nat → hc_M → List Value → Nat → hc_H → Option hc_R) (ret : Option FieldType) (tb : hc_K) (fuel : Nat) : hc_S → Option hc_S := Nat.rec (motive := fun _ => hc_S → Option hc_S) (fun S => some S) (fun _ ih S => match hc_step1 LS pg call ret tb S with
  | some (.inl S') => ih S'
  | _ => none) fuel
noncomputable def hc_ev (orc : Nat → List Value → hc_H → Option Value) (fuel : Nat) (d : Nat) : Nat → hc_M → List Value → Nat → hc_H → Option hc_R := Nat.rec (motive := fun _ => Nat → hc_M → List Value → Nat → hc_H → Option hc_R) (fun _ _ _ _ _ => none) (fun _ ih k e as n h => match orc k as h with
  | some v => some (some v, n, h, 0, 0)
  | none => match Nat.ble (hc_cat as) e.2.2.1 with
    | false => none
    | true => hc_run LS pg ih e.2.2.2.1 e.2.2.2.2.2.2 fuel (0, hc_ent as e.2.2.1, [], n, h, 0, 0)) d
end HCR
end
