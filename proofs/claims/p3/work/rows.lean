section
-- ===== PART A: goes FIRST, ahead of the names: the tables' words, and 'selects' of the private methods out of them =====
/-- a private method of a class that the tables say can be made, by its rows of tables_1 -/
def lw_okq (q : MethodName × Nat) : Prop := (q.1.cls ≠ "java/lang/invoke/MethodHandle" ∧ q.1.cls ≠ "java/lang/invoke/VarHandle") ∧ Cond.instantiable q.1.cls q.2 ∈ tables_1 ∧ Cond.privateMethod q.1 ∈ tables_1 ∧ Cond.instanceMethod q.1 ∈ tables_1
theorem lw_p0 : lw_okq (⟨"HeardNext", "addBytes", "(I)V"⟩, 17) := ⟨⟨by decide +kernel, by decide +kernel⟩, List.mem_of_getElem? (i := 22) (by decide +kernel), List.mem_of_getElem? (i := 376) (by decide +kernel), List.mem_of_getElem? (i := 377) (by decide +kernel)⟩
theorem lw_p1 : lw_okq (⟨"HeardNext$Tokens", "cutOne", "([BII)I"⟩, 4) := ⟨⟨by decide +kernel, by decide +kernel⟩, List.mem_of_getElem? (i := 110) (by decide +kernel), List.mem_of_getElem? (i := 400) (by decide +kernel), List.mem_of_getElem? (i := 401) (by decide +kernel)⟩
theorem lw_p2 : lw_okq (⟨"HeardNext$Tokens", "cutWord", "([BII)I"⟩, 4) := ⟨⟨by decide +kernel, by decide +kernel⟩, List.mem_of_getElem? (i := 110) (by decide +kernel), List.mem_of_getElem? (i := 404) (by decide +kernel), List.mem_of_getElem? (i := 405) (by decide +kernel)⟩
theorem lw_p3 : lw_okq (⟨"HeardNext$Tokens", "cutInt", "([BII)I"⟩, 4) := ⟨⟨by decide +kernel, by decide +kernel⟩, List.mem_of_getElem? (i := 110) (by decide +kernel), List.mem_of_getElem? (i := 460) (by decide +kernel), List.mem_of_getElem? (i := 461) (by decide +kernel)⟩
theorem lw_p4 : lw_okq (⟨"HeardNext$Reader", "kind", "()I"⟩, 9) := ⟨⟨by decide +kernel, by decide +kernel⟩, List.mem_of_getElem? (i := 104) (by decide +kernel), List.mem_of_getElem? (i := 526) (by decide +kernel), List.mem_of_getElem? (i := 527) (by decide +kernel)⟩
theorem lw_p5 : lw_okq (⟨"HeardNext$Reader", "readHouse", "()Z"⟩, 9) := ⟨⟨by decide +kernel, by decide +kernel⟩, List.mem_of_getElem? (i := 104) (by decide +kernel), List.mem_of_getElem? (i := 530) (by decide +kernel), List.mem_of_getElem? (i := 531) (by decide +kernel)⟩
theorem lw_p6 : lw_okq (⟨"HeardNext$Reader", "stop", "(I)Z"⟩, 9) := ⟨⟨by decide +kernel, by decide +kernel⟩, List.mem_of_getElem? (i := 104) (by decide +kernel), List.mem_of_getElem? (i := 534) (by decide +kernel), List.mem_of_getElem? (i := 535) (by decide +kernel)⟩
theorem lw_p7 : lw_okq (⟨"HeardNext$Reader", "step", "()Z"⟩, 9) := ⟨⟨by decide +kernel, by decide +kernel⟩, List.mem_of_getElem? (i := 104) (by decide +kernel), List.mem_of_getElem? (i := 538) (by decide +kernel), List.mem_of_getElem? (i := 539) (by decide +kernel)⟩
theorem lw_p8 : lw_okq (⟨"HeardNext$Reader", "takeName", "()Z"⟩, 9) := ⟨⟨by decide +kernel, by decide +kernel⟩, List.mem_of_getElem? (i := 104) (by decide +kernel), List.mem_of_getElem? (i := 542) (by decide +kernel), List.mem_of_getElem? (i := 543) (by decide +kernel)⟩
theorem lw_p9 : lw_okq (⟨"HeardNext$Reader", "noteLate", "(I)V"⟩, 9) := ⟨⟨by decide +kernel, by decide +kernel⟩, List.mem_of_getElem? (i := 104) (by decide +kernel), List.mem_of_getElem? (i := 546) (by decide +kernel), List.mem_of_getElem? (i := 547) (by decide +kernel)⟩
theorem lw_p10 : lw_okq (⟨"HeardNext$Reader", "takeNumber", "(II)Z"⟩, 9) := ⟨⟨by decide +kernel, by decide +kernel⟩, List.mem_of_getElem? (i := 104) (by decide +kernel), List.mem_of_getElem? (i := 550) (by decide +kernel), List.mem_of_getElem? (i := 551) (by decide +kernel)⟩
theorem lw_p11 : lw_okq (⟨"HeardNext$Reader", "take", "(I)Z"⟩, 9) := ⟨⟨by decide +kernel, by decide +kernel⟩, List.mem_of_getElem? (i := 104) (by decide +kernel), List.mem_of_getElem? (i := 557) (by decide +kernel), List.mem_of_getElem? (i := 558) (by decide +kernel)⟩
theorem lw_p12 : lw_okq (⟨"HeardNext$Reader", "readSend", "()Z"⟩, 9) := ⟨⟨by decide +kernel, by decide +kernel⟩, List.mem_of_getElem? (i := 104) (by decide +kernel), List.mem_of_getElem? (i := 565) (by decide +kernel), List.mem_of_getElem? (i := 566) (by decide +kernel)⟩
theorem lw_p13 : lw_okq (⟨"HeardNext$Reader", "readLaw", "(I)Z"⟩, 9) := ⟨⟨by decide +kernel, by decide +kernel⟩, List.mem_of_getElem? (i := 104) (by decide +kernel), List.mem_of_getElem? (i := 574) (by decide +kernel), List.mem_of_getElem? (i := 575) (by decide +kernel)⟩
theorem lw_p14 : lw_okq (⟨"HeardNext$Reader", "readSum", "(I)Z"⟩, 9) := ⟨⟨by decide +kernel, by decide +kernel⟩, List.mem_of_getElem? (i := 104) (by decide +kernel), List.mem_of_getElem? (i := 582) (by decide +kernel), List.mem_of_getElem? (i := 583) (by decide +kernel)⟩
theorem lw_p15 : lw_okq (⟨"HeardNext$Reader", "readProduct", "(I)Z"⟩, 9) := ⟨⟨by decide +kernel, by decide +kernel⟩, List.mem_of_getElem? (i := 104) (by decide +kernel), List.mem_of_getElem? (i := 586) (by decide +kernel), List.mem_of_getElem? (i := 587) (by decide +kernel)⟩
def lw_privs_1 : List (MethodName × Nat) := [(⟨"HeardNext", "addBytes", "(I)V"⟩, 17), (⟨"HeardNext$Tokens", "cutOne", "([BII)I"⟩, 4), (⟨"HeardNext$Tokens", "cutWord", "([BII)I"⟩, 4), (⟨"HeardNext$Tokens", "cutInt", "([BII)I"⟩, 4), (⟨"HeardNext$Reader", "kind", "()I"⟩, 9), (⟨"HeardNext$Reader", "readHouse", "()Z"⟩, 9), (⟨"HeardNext$Reader", "stop", "(I)Z"⟩, 9), (⟨"HeardNext$Reader", "step", "()Z"⟩, 9), (⟨"HeardNext$Reader", "takeName", "()Z"⟩, 9), (⟨"HeardNext$Reader", "noteLate", "(I)V"⟩, 9), (⟨"HeardNext$Reader", "takeNumber", "(II)Z"⟩, 9), (⟨"HeardNext$Reader", "take", "(I)Z"⟩, 9), (⟨"HeardNext$Reader", "readSend", "()Z"⟩, 9), (⟨"HeardNext$Reader", "readLaw", "(I)Z"⟩, 9), (⟨"HeardNext$Reader", "readSum", "(I)Z"⟩, 9), (⟨"HeardNext$Reader", "readProduct", "(I)Z"⟩, 9)]
theorem lw_r1 : ∀ q ∈ lw_privs_1, lw_okq q := List.forall_mem_cons.mpr ⟨lw_p0, List.forall_mem_cons.mpr ⟨lw_p1, List.forall_mem_cons.mpr ⟨lw_p2, List.forall_mem_cons.mpr ⟨lw_p3, List.forall_mem_cons.mpr ⟨lw_p4, List.forall_mem_cons.mpr ⟨lw_p5, List.forall_mem_cons.mpr ⟨lw_p6, List.forall_mem_cons.mpr ⟨lw_p7, List.forall_mem_cons.mpr ⟨lw_p8, List.forall_mem_cons.mpr ⟨lw_p9, List.forall_mem_cons.mpr ⟨lw_p10, List.forall_mem_cons.mpr ⟨lw_p11, List.forall_mem_cons.mpr ⟨lw_p12, List.forall_mem_cons.mpr ⟨lw_p13, List.forall_mem_cons.mpr ⟨lw_p14, List.forall_mem_cons.mpr ⟨lw_p15, fun _ h => absurd h List.not_mem_nil⟩⟩⟩⟩⟩⟩⟩⟩⟩⟩⟩⟩⟩⟩⟩⟩
theorem lw_p16 : lw_okq (⟨"HeardNext$Reader", "readUnit", "(I)Z"⟩, 9) := ⟨⟨by decide +kernel, by decide +kernel⟩, List.mem_of_getElem? (i := 104) (by decide +kernel), List.mem_of_getElem? (i := 590) (by decide +kernel), List.mem_of_getElem? (i := 591) (by decide +kernel)⟩
theorem lw_p17 : lw_okq (⟨"HeardNext$Reader", "readGrief", "()Z"⟩, 9) := ⟨⟨by decide +kernel, by decide +kernel⟩, List.mem_of_getElem? (i := 104) (by decide +kernel), List.mem_of_getElem? (i := 600) (by decide +kernel), List.mem_of_getElem? (i := 601) (by decide +kernel)⟩
theorem lw_p18 : lw_okq (⟨"HeardNext$Reader", "readSeed", "()Z"⟩, 9) := ⟨⟨by decide +kernel, by decide +kernel⟩, List.mem_of_getElem? (i := 104) (by decide +kernel), List.mem_of_getElem? (i := 604) (by decide +kernel), List.mem_of_getElem? (i := 605) (by decide +kernel)⟩
theorem lw_p19 : lw_okq (⟨"HeardNext", "beginAnew", "()V"⟩, 17) := ⟨⟨by decide +kernel, by decide +kernel⟩, List.mem_of_getElem? (i := 22) (by decide +kernel), List.mem_of_getElem? (i := 608) (by decide +kernel), List.mem_of_getElem? (i := 609) (by decide +kernel)⟩
theorem lw_p20 : lw_okq (⟨"HeardNext", "isHouse", "(I)Z"⟩, 17) := ⟨⟨by decide +kernel, by decide +kernel⟩, List.mem_of_getElem? (i := 22) (by decide +kernel), List.mem_of_getElem? (i := 620) (by decide +kernel), List.mem_of_getElem? (i := 621) (by decide +kernel)⟩
theorem lw_p21 : lw_okq (⟨"HeardNext", "lawNow", "(II)I"⟩, 17) := ⟨⟨by decide +kernel, by decide +kernel⟩, List.mem_of_getElem? (i := 22) (by decide +kernel), List.mem_of_getElem? (i := 628) (by decide +kernel), List.mem_of_getElem? (i := 629) (by decide +kernel)⟩
theorem lw_p22 : lw_okq (⟨"HeardNext$Air", "keeping", "(II)I"⟩, 6) := ⟨⟨by decide +kernel, by decide +kernel⟩, List.mem_of_getElem? (i := 237) (by decide +kernel), List.mem_of_getElem? (i := 673) (by decide +kernel), List.mem_of_getElem? (i := 674) (by decide +kernel)⟩
theorem lw_p23 : lw_okq (⟨"HeardNext", "beforeDoing", "()V"⟩, 17) := ⟨⟨by decide +kernel, by decide +kernel⟩, List.mem_of_getElem? (i := 22) (by decide +kernel), List.mem_of_getElem? (i := 687) (by decide +kernel), List.mem_of_getElem? (i := 688) (by decide +kernel)⟩
theorem lw_p24 : lw_okq (⟨"HeardNext", "comingTo", "(I)[I"⟩, 17) := ⟨⟨by decide +kernel, by decide +kernel⟩, List.mem_of_getElem? (i := 22) (by decide +kernel), List.mem_of_getElem? (i := 769) (by decide +kernel), List.mem_of_getElem? (i := 770) (by decide +kernel)⟩
theorem lw_p25 : lw_okq (⟨"HeardNext$Ways", "fill", "(ILHeardNext$Terrace;LHeardNext$Life;LHeardNext$Air;)V"⟩, 2) := ⟨⟨by decide +kernel, by decide +kernel⟩, List.mem_of_getElem? (i := 262) (by decide +kernel), List.mem_of_getElem? (i := 777) (by decide +kernel), List.mem_of_getElem? (i := 778) (by decide +kernel)⟩
theorem lw_p26 : lw_okq (⟨"HeardNext", "takeCode", "([II)I"⟩, 17) := ⟨⟨by decide +kernel, by decide +kernel⟩, List.mem_of_getElem? (i := 22) (by decide +kernel), List.mem_of_getElem? (i := 806) (by decide +kernel), List.mem_of_getElem? (i := 807) (by decide +kernel)⟩
theorem lw_p27 : lw_okq (⟨"HeardNext", "chooseTimes", "(I)I"⟩, 17) := ⟨⟨by decide +kernel, by decide +kernel⟩, List.mem_of_getElem? (i := 22) (by decide +kernel), List.mem_of_getElem? (i := 834) (by decide +kernel), List.mem_of_getElem? (i := 835) (by decide +kernel)⟩
theorem lw_p28 : lw_okq (⟨"HeardNext", "allComing", "(II)I"⟩, 17) := ⟨⟨by decide +kernel, by decide +kernel⟩, List.mem_of_getElem? (i := 22) (by decide +kernel), List.mem_of_getElem? (i := 842) (by decide +kernel), List.mem_of_getElem? (i := 843) (by decide +kernel)⟩
theorem lw_p29 : lw_okq (⟨"HeardNext", "chooseSoMany", "(II)Z"⟩, 17) := ⟨⟨by decide +kernel, by decide +kernel⟩, List.mem_of_getElem? (i := 22) (by decide +kernel), List.mem_of_getElem? (i := 847) (by decide +kernel), List.mem_of_getElem? (i := 848) (by decide +kernel)⟩
theorem lw_p30 : lw_okq (⟨"HeardNext", "addUpHeard", "(I)V"⟩, 17) := ⟨⟨by decide +kernel, by decide +kernel⟩, List.mem_of_getElem? (i := 22) (by decide +kernel), List.mem_of_getElem? (i := 863) (by decide +kernel), List.mem_of_getElem? (i := 864) (by decide +kernel)⟩
theorem lw_p31 : lw_okq (⟨"HeardNext", "dreamOn", "(IZI)V"⟩, 17) := ⟨⟨by decide +kernel, by decide +kernel⟩, List.mem_of_getElem? (i := 22) (by decide +kernel), List.mem_of_getElem? (i := 872) (by decide +kernel), List.mem_of_getElem? (i := 873) (by decide +kernel)⟩
def lw_privs_2 : List (MethodName × Nat) := [(⟨"HeardNext$Reader", "readUnit", "(I)Z"⟩, 9), (⟨"HeardNext$Reader", "readGrief", "()Z"⟩, 9), (⟨"HeardNext$Reader", "readSeed", "()Z"⟩, 9), (⟨"HeardNext", "beginAnew", "()V"⟩, 17), (⟨"HeardNext", "isHouse", "(I)Z"⟩, 17), (⟨"HeardNext", "lawNow", "(II)I"⟩, 17), (⟨"HeardNext$Air", "keeping", "(II)I"⟩, 6), (⟨"HeardNext", "beforeDoing", "()V"⟩, 17), (⟨"HeardNext", "comingTo", "(I)[I"⟩, 17), (⟨"HeardNext$Ways", "fill", "(ILHeardNext$Terrace;LHeardNext$Life;LHeardNext$Air;)V"⟩, 2), (⟨"HeardNext", "takeCode", "([II)I"⟩, 17), (⟨"HeardNext", "chooseTimes", "(I)I"⟩, 17), (⟨"HeardNext", "allComing", "(II)I"⟩, 17), (⟨"HeardNext", "chooseSoMany", "(II)Z"⟩, 17), (⟨"HeardNext", "addUpHeard", "(I)V"⟩, 17), (⟨"HeardNext", "dreamOn", "(IZI)V"⟩, 17)]
theorem lw_r2 : ∀ q ∈ lw_privs_2, lw_okq q := List.forall_mem_cons.mpr ⟨lw_p16, List.forall_mem_cons.mpr ⟨lw_p17, List.forall_mem_cons.mpr ⟨lw_p18, List.forall_mem_cons.mpr ⟨lw_p19, List.forall_mem_cons.mpr ⟨lw_p20, List.forall_mem_cons.mpr ⟨lw_p21, List.forall_mem_cons.mpr ⟨lw_p22, List.forall_mem_cons.mpr ⟨lw_p23, List.forall_mem_cons.mpr ⟨lw_p24, List.forall_mem_cons.mpr ⟨lw_p25, List.forall_mem_cons.mpr ⟨lw_p26, List.forall_mem_cons.mpr ⟨lw_p27, List.forall_mem_cons.mpr ⟨lw_p28, List.forall_mem_cons.mpr ⟨lw_p29, List.forall_mem_cons.mpr ⟨lw_p30, List.forall_mem_cons.mpr ⟨lw_p31, fun _ h => absurd h List.not_mem_nil⟩⟩⟩⟩⟩⟩⟩⟩⟩⟩⟩⟩⟩⟩⟩⟩
theorem lw_p32 : lw_okq (⟨"HeardNext", "contentBehindChange", "(II)I"⟩, 17) := ⟨⟨by decide +kernel, by decide +kernel⟩, List.mem_of_getElem? (i := 22) (by decide +kernel), List.mem_of_getElem? (i := 921) (by decide +kernel), List.mem_of_getElem? (i := 922) (by decide +kernel)⟩
theorem lw_p33 : lw_okq (⟨"HeardNext", "takeLeft", "(I)I"⟩, 17) := ⟨⟨by decide +kernel, by decide +kernel⟩, List.mem_of_getElem? (i := 22) (by decide +kernel), List.mem_of_getElem? (i := 949) (by decide +kernel), List.mem_of_getElem? (i := 950) (by decide +kernel)⟩
theorem lw_p34 : lw_okq (⟨"HeardNext", "mostAlike", "([II)I"⟩, 17) := ⟨⟨by decide +kernel, by decide +kernel⟩, List.mem_of_getElem? (i := 22) (by decide +kernel), List.mem_of_getElem? (i := 957) (by decide +kernel), List.mem_of_getElem? (i := 958) (by decide +kernel)⟩
theorem lw_p35 : lw_okq (⟨"HeardNext", "partsOf", "([I)I"⟩, 17) := ⟨⟨by decide +kernel, by decide +kernel⟩, List.mem_of_getElem? (i := 22) (by decide +kernel), List.mem_of_getElem? (i := 975) (by decide +kernel), List.mem_of_getElem? (i := 976) (by decide +kernel)⟩
theorem lw_p36 : lw_okq (⟨"HeardNextModel", "plain", "(I)V"⟩, 64) := ⟨⟨by decide +kernel, by decide +kernel⟩, List.mem_of_getElem? (i := 983) (by decide +kernel), List.mem_of_getElem? (i := 989) (by decide +kernel), List.mem_of_getElem? (i := 990) (by decide +kernel)⟩
theorem lw_p37 : lw_okq (⟨"HeardNextModel", "begins", "()V"⟩, 64) := ⟨⟨by decide +kernel, by decide +kernel⟩, List.mem_of_getElem? (i := 983) (by decide +kernel), List.mem_of_getElem? (i := 1000) (by decide +kernel), List.mem_of_getElem? (i := 1001) (by decide +kernel)⟩
theorem lw_p38 : lw_okq (⟨"HeardNextModel", "keepsRow", "()V"⟩, 64) := ⟨⟨by decide +kernel, by decide +kernel⟩, List.mem_of_getElem? (i := 983) (by decide +kernel), List.mem_of_getElem? (i := 1004) (by decide +kernel), List.mem_of_getElem? (i := 1005) (by decide +kernel)⟩
theorem lw_p39 : lw_okq (⟨"HeardNextModel", "put", "(I)V"⟩, 64) := ⟨⟨by decide +kernel, by decide +kernel⟩, List.mem_of_getElem? (i := 983) (by decide +kernel), List.mem_of_getElem? (i := 1205) (by decide +kernel), List.mem_of_getElem? (i := 1206) (by decide +kernel)⟩
theorem lw_p40 : lw_okq (⟨"HeardNextModel", "cut", "()V"⟩, 64) := ⟨⟨by decide +kernel, by decide +kernel⟩, List.mem_of_getElem? (i := 983) (by decide +kernel), List.mem_of_getElem? (i := 1217) (by decide +kernel), List.mem_of_getElem? (i := 1218) (by decide +kernel)⟩
theorem lw_p41 : lw_okq (⟨"HeardNextModel", "byteAt", "(I)I"⟩, 64) := ⟨⟨by decide +kernel, by decide +kernel⟩, List.mem_of_getElem? (i := 983) (by decide +kernel), List.mem_of_getElem? (i := 1221) (by decide +kernel), List.mem_of_getElem? (i := 1222) (by decide +kernel)⟩
theorem lw_p42 : lw_okq (⟨"HeardNextModel", "token", "(IIIJ)V"⟩, 64) := ⟨⟨by decide +kernel, by decide +kernel⟩, List.mem_of_getElem? (i := 983) (by decide +kernel), List.mem_of_getElem? (i := 1225) (by decide +kernel), List.mem_of_getElem? (i := 1226) (by decide +kernel)⟩
theorem lw_p43 : lw_okq (⟨"HeardNextModel", "sign", "(III)I"⟩, 64) := ⟨⟨by decide +kernel, by decide +kernel⟩, List.mem_of_getElem? (i := 983) (by decide +kernel), List.mem_of_getElem? (i := 1235) (by decide +kernel), List.mem_of_getElem? (i := 1236) (by decide +kernel)⟩
theorem lw_p44 : lw_okq (⟨"HeardNextModel", "is", "(I)Z"⟩, 64) := ⟨⟨by decide +kernel, by decide +kernel⟩, List.mem_of_getElem? (i := 983) (by decide +kernel), List.mem_of_getElem? (i := 1239) (by decide +kernel), List.mem_of_getElem? (i := 1240) (by decide +kernel)⟩
theorem lw_p45 : lw_okq (⟨"HeardNextModel", "tellOne", "()V"⟩, 64) := ⟨⟨by decide +kernel, by decide +kernel⟩, List.mem_of_getElem? (i := 983) (by decide +kernel), List.mem_of_getElem? (i := 1243) (by decide +kernel), List.mem_of_getElem? (i := 1244) (by decide +kernel)⟩
theorem lw_p46 : lw_okq (⟨"HeardNextModel", "roomFor", "(II)V"⟩, 64) := ⟨⟨by decide +kernel, by decide +kernel⟩, List.mem_of_getElem? (i := 983) (by decide +kernel), List.mem_of_getElem? (i := 1247) (by decide +kernel), List.mem_of_getElem? (i := 1248) (by decide +kernel)⟩
theorem lw_p47 : lw_okq (⟨"HeardNextModel", "fail", "(I)V"⟩, 64) := ⟨⟨by decide +kernel, by decide +kernel⟩, List.mem_of_getElem? (i := 983) (by decide +kernel), List.mem_of_getElem? (i := 1251) (by decide +kernel), List.mem_of_getElem? (i := 1252) (by decide +kernel)⟩
def lw_privs_3 : List (MethodName × Nat) := [(⟨"HeardNext", "contentBehindChange", "(II)I"⟩, 17), (⟨"HeardNext", "takeLeft", "(I)I"⟩, 17), (⟨"HeardNext", "mostAlike", "([II)I"⟩, 17), (⟨"HeardNext", "partsOf", "([I)I"⟩, 17), (⟨"HeardNextModel", "plain", "(I)V"⟩, 64), (⟨"HeardNextModel", "begins", "()V"⟩, 64), (⟨"HeardNextModel", "keepsRow", "()V"⟩, 64), (⟨"HeardNextModel", "put", "(I)V"⟩, 64), (⟨"HeardNextModel", "cut", "()V"⟩, 64), (⟨"HeardNextModel", "byteAt", "(I)I"⟩, 64), (⟨"HeardNextModel", "token", "(IIIJ)V"⟩, 64), (⟨"HeardNextModel", "sign", "(III)I"⟩, 64), (⟨"HeardNextModel", "is", "(I)Z"⟩, 64), (⟨"HeardNextModel", "tellOne", "()V"⟩, 64), (⟨"HeardNextModel", "roomFor", "(II)V"⟩, 64), (⟨"HeardNextModel", "fail", "(I)V"⟩, 64)]
theorem lw_r3 : ∀ q ∈ lw_privs_3, lw_okq q := List.forall_mem_cons.mpr ⟨lw_p32, List.forall_mem_cons.mpr ⟨lw_p33, List.forall_mem_cons.mpr ⟨lw_p34, List.forall_mem_cons.mpr ⟨lw_p35, List.forall_mem_cons.mpr ⟨lw_p36, List.forall_mem_cons.mpr ⟨lw_p37, List.forall_mem_cons.mpr ⟨lw_p38, List.forall_mem_cons.mpr ⟨lw_p39, List.forall_mem_cons.mpr ⟨lw_p40, List.forall_mem_cons.mpr ⟨lw_p41, List.forall_mem_cons.mpr ⟨lw_p42, List.forall_mem_cons.mpr ⟨lw_p43, List.forall_mem_cons.mpr ⟨lw_p44, List.forall_mem_cons.mpr ⟨lw_p45, List.forall_mem_cons.mpr ⟨lw_p46, List.forall_mem_cons.mpr ⟨lw_p47, fun _ h => absurd h List.not_mem_nil⟩⟩⟩⟩⟩⟩⟩⟩⟩⟩⟩⟩⟩⟩⟩⟩
theorem lw_p48 : lw_okq (⟨"HeardNextModel", "goesOn", "()V"⟩, 64) := ⟨⟨by decide +kernel, by decide +kernel⟩, List.mem_of_getElem? (i := 983) (by decide +kernel), List.mem_of_getElem? (i := 1255) (by decide +kernel), List.mem_of_getElem? (i := 1256) (by decide +kernel)⟩
theorem lw_p49 : lw_okq (⟨"HeardNextModel", "tellHouse", "()V"⟩, 64) := ⟨⟨by decide +kernel, by decide +kernel⟩, List.mem_of_getElem? (i := 983) (by decide +kernel), List.mem_of_getElem? (i := 1259) (by decide +kernel), List.mem_of_getElem? (i := 1260) (by decide +kernel)⟩
theorem lw_p50 : lw_okq (⟨"HeardNextModel", "must", "(I)V"⟩, 64) := ⟨⟨by decide +kernel, by decide +kernel⟩, List.mem_of_getElem? (i := 983) (by decide +kernel), List.mem_of_getElem? (i := 1263) (by decide +kernel), List.mem_of_getElem? (i := 1264) (by decide +kernel)⟩
theorem lw_p51 : lw_okq (⟨"HeardNextModel", "wrong", "(II)V"⟩, 64) := ⟨⟨by decide +kernel, by decide +kernel⟩, List.mem_of_getElem? (i := 983) (by decide +kernel), List.mem_of_getElem? (i := 1267) (by decide +kernel), List.mem_of_getElem? (i := 1268) (by decide +kernel)⟩
theorem lw_p52 : lw_okq (⟨"HeardNextModel", "bounded", "(II)I"⟩, 64) := ⟨⟨by decide +kernel, by decide +kernel⟩, List.mem_of_getElem? (i := 983) (by decide +kernel), List.mem_of_getElem? (i := 1271) (by decide +kernel), List.mem_of_getElem? (i := 1272) (by decide +kernel)⟩
theorem lw_p53 : lw_okq (⟨"HeardNextModel", "toldInt", "(II)I"⟩, 64) := ⟨⟨by decide +kernel, by decide +kernel⟩, List.mem_of_getElem? (i := 983) (by decide +kernel), List.mem_of_getElem? (i := 1275) (by decide +kernel), List.mem_of_getElem? (i := 1276) (by decide +kernel)⟩
theorem lw_p54 : lw_okq (⟨"HeardNextModel", "tellLaw", "(I)V"⟩, 64) := ⟨⟨by decide +kernel, by decide +kernel⟩, List.mem_of_getElem? (i := 983) (by decide +kernel), List.mem_of_getElem? (i := 1279) (by decide +kernel), List.mem_of_getElem? (i := 1280) (by decide +kernel)⟩
theorem lw_p55 : lw_okq (⟨"HeardNextModel", "expression", "()V"⟩, 64) := ⟨⟨by decide +kernel, by decide +kernel⟩, List.mem_of_getElem? (i := 983) (by decide +kernel), List.mem_of_getElem? (i := 1283) (by decide +kernel), List.mem_of_getElem? (i := 1284) (by decide +kernel)⟩
theorem lw_p56 : lw_okq (⟨"HeardNextModel", "unit", "()V"⟩, 64) := ⟨⟨by decide +kernel, by decide +kernel⟩, List.mem_of_getElem? (i := 983) (by decide +kernel), List.mem_of_getElem? (i := 1287) (by decide +kernel), List.mem_of_getElem? (i := 1288) (by decide +kernel)⟩
theorem lw_p57 : lw_okq (⟨"HeardNextModel", "emit", "(II)V"⟩, 64) := ⟨⟨by decide +kernel, by decide +kernel⟩, List.mem_of_getElem? (i := 983) (by decide +kernel), List.mem_of_getElem? (i := 1291) (by decide +kernel), List.mem_of_getElem? (i := 1292) (by decide +kernel)⟩
theorem lw_p58 : lw_okq (⟨"HeardNextModel", "comesOut", "(Z)V"⟩, 64) := ⟨⟨by decide +kernel, by decide +kernel⟩, List.mem_of_getElem? (i := 983) (by decide +kernel), List.mem_of_getElem? (i := 1295) (by decide +kernel), List.mem_of_getElem? (i := 1296) (by decide +kernel)⟩
theorem lw_p59 : lw_okq (⟨"HeardNextModel", "term", "()V"⟩, 64) := ⟨⟨by decide +kernel, by decide +kernel⟩, List.mem_of_getElem? (i := 983) (by decide +kernel), List.mem_of_getElem? (i := 1299) (by decide +kernel), List.mem_of_getElem? (i := 1300) (by decide +kernel)⟩
theorem lw_p60 : lw_okq (⟨"HeardNextModel", "isHouse", "(I)Z"⟩, 64) := ⟨⟨by decide +kernel, by decide +kernel⟩, List.mem_of_getElem? (i := 983) (by decide +kernel), List.mem_of_getElem? (i := 1311) (by decide +kernel), List.mem_of_getElem? (i := 1312) (by decide +kernel)⟩
theorem lw_p61 : lw_okq (⟨"HeardNextModel", "copies", "()V"⟩, 64) := ⟨⟨by decide +kernel, by decide +kernel⟩, List.mem_of_getElem? (i := 983) (by decide +kernel), List.mem_of_getElem? (i := 1318) (by decide +kernel), List.mem_of_getElem? (i := 1319) (by decide +kernel)⟩
theorem lw_p62 : lw_okq (⟨"HeardNextModel", "turnsOf", "(III)I"⟩, 64) := ⟨⟨by decide +kernel, by decide +kernel⟩, List.mem_of_getElem? (i := 983) (by decide +kernel), List.mem_of_getElem? (i := 1325) (by decide +kernel), List.mem_of_getElem? (i := 1326) (by decide +kernel)⟩
theorem lw_p63 : lw_okq (⟨"HeardNextModel", "looks", "(IIII)V"⟩, 64) := ⟨⟨by decide +kernel, by decide +kernel⟩, List.mem_of_getElem? (i := 983) (by decide +kernel), List.mem_of_getElem? (i := 1329) (by decide +kernel), List.mem_of_getElem? (i := 1330) (by decide +kernel)⟩
def lw_privs_4 : List (MethodName × Nat) := [(⟨"HeardNextModel", "goesOn", "()V"⟩, 64), (⟨"HeardNextModel", "tellHouse", "()V"⟩, 64), (⟨"HeardNextModel", "must", "(I)V"⟩, 64), (⟨"HeardNextModel", "wrong", "(II)V"⟩, 64), (⟨"HeardNextModel", "bounded", "(II)I"⟩, 64), (⟨"HeardNextModel", "toldInt", "(II)I"⟩, 64), (⟨"HeardNextModel", "tellLaw", "(I)V"⟩, 64), (⟨"HeardNextModel", "expression", "()V"⟩, 64), (⟨"HeardNextModel", "unit", "()V"⟩, 64), (⟨"HeardNextModel", "emit", "(II)V"⟩, 64), (⟨"HeardNextModel", "comesOut", "(Z)V"⟩, 64), (⟨"HeardNextModel", "term", "()V"⟩, 64), (⟨"HeardNextModel", "isHouse", "(I)Z"⟩, 64), (⟨"HeardNextModel", "copies", "()V"⟩, 64), (⟨"HeardNextModel", "turnsOf", "(III)I"⟩, 64), (⟨"HeardNextModel", "looks", "(IIII)V"⟩, 64)]
theorem lw_r4 : ∀ q ∈ lw_privs_4, lw_okq q := List.forall_mem_cons.mpr ⟨lw_p48, List.forall_mem_cons.mpr ⟨lw_p49, List.forall_mem_cons.mpr ⟨lw_p50, List.forall_mem_cons.mpr ⟨lw_p51, List.forall_mem_cons.mpr ⟨lw_p52, List.forall_mem_cons.mpr ⟨lw_p53, List.forall_mem_cons.mpr ⟨lw_p54, List.forall_mem_cons.mpr ⟨lw_p55, List.forall_mem_cons.mpr ⟨lw_p56, List.forall_mem_cons.mpr ⟨lw_p57, List.forall_mem_cons.mpr ⟨lw_p58, List.forall_mem_cons.mpr ⟨lw_p59, List.forall_mem_cons.mpr ⟨lw_p60, List.forall_mem_cons.mpr ⟨lw_p61, List.forall_mem_cons.mpr ⟨lw_p62, List.forall_mem_cons.mpr ⟨lw_p63, fun _ h => absurd h List.not_mem_nil⟩⟩⟩⟩⟩⟩⟩⟩⟩⟩⟩⟩⟩⟩⟩⟩
theorem lw_p64 : lw_okq (⟨"HeardNextModel", "lawTells", "(II)I"⟩, 64) := ⟨⟨by decide +kernel, by decide +kernel⟩, List.mem_of_getElem? (i := 983) (by decide +kernel), List.mem_of_getElem? (i := 1333) (by decide +kernel), List.mem_of_getElem? (i := 1334) (by decide +kernel)⟩
theorem lw_p65 : lw_okq (⟨"HeardNextModel", "termOf", "(II)I"⟩, 64) := ⟨⟨by decide +kernel, by decide +kernel⟩, List.mem_of_getElem? (i := 983) (by decide +kernel), List.mem_of_getElem? (i := 1337) (by decide +kernel), List.mem_of_getElem? (i := 1338) (by decide +kernel)⟩
theorem lw_p66 : lw_okq (⟨"HeardNextModel", "humsOf", "(II)I"⟩, 64) := ⟨⟨by decide +kernel, by decide +kernel⟩, List.mem_of_getElem? (i := 983) (by decide +kernel), List.mem_of_getElem? (i := 1344) (by decide +kernel), List.mem_of_getElem? (i := 1345) (by decide +kernel)⟩
theorem lw_p67 : lw_okq (⟨"HeardNextModel", "diesOf", "(I)I"⟩, 64) := ⟨⟨by decide +kernel, by decide +kernel⟩, List.mem_of_getElem? (i := 983) (by decide +kernel), List.mem_of_getElem? (i := 1348) (by decide +kernel), List.mem_of_getElem? (i := 1349) (by decide +kernel)⟩
theorem lw_p68 : lw_okq (⟨"HeardNextModel", "passes", "(III)I"⟩, 64) := ⟨⟨by decide +kernel, by decide +kernel⟩, List.mem_of_getElem? (i := 983) (by decide +kernel), List.mem_of_getElem? (i := 1359) (by decide +kernel), List.mem_of_getElem? (i := 1360) (by decide +kernel)⟩
theorem lw_p69 : lw_okq (⟨"HeardNextModel", "isKept", "(IIII)Z"⟩, 64) := ⟨⟨by decide +kernel, by decide +kernel⟩, List.mem_of_getElem? (i := 983) (by decide +kernel), List.mem_of_getElem? (i := 1363) (by decide +kernel), List.mem_of_getElem? (i := 1364) (by decide +kernel)⟩
theorem lw_p70 : lw_okq (⟨"HeardNextModel", "records", "()V"⟩, 64) := ⟨⟨by decide +kernel, by decide +kernel⟩, List.mem_of_getElem? (i := 983) (by decide +kernel), List.mem_of_getElem? (i := 1371) (by decide +kernel), List.mem_of_getElem? (i := 1372) (by decide +kernel)⟩
theorem lw_p71 : lw_okq (⟨"HeardNextModel", "changes", "(II)V"⟩, 64) := ⟨⟨by decide +kernel, by decide +kernel⟩, List.mem_of_getElem? (i := 983) (by decide +kernel), List.mem_of_getElem? (i := 1387) (by decide +kernel), List.mem_of_getElem? (i := 1388) (by decide +kernel)⟩
theorem lw_p72 : lw_okq (⟨"HeardNextModel", "goes", "(I)V"⟩, 64) := ⟨⟨by decide +kernel, by decide +kernel⟩, List.mem_of_getElem? (i := 983) (by decide +kernel), List.mem_of_getElem? (i := 1398) (by decide +kernel), List.mem_of_getElem? (i := 1399) (by decide +kernel)⟩
theorem lw_p73 : lw_okq (⟨"HeardNextModel", "hourGoes", "()V"⟩, 64) := ⟨⟨by decide +kernel, by decide +kernel⟩, List.mem_of_getElem? (i := 983) (by decide +kernel), List.mem_of_getElem? (i := 1402) (by decide +kernel), List.mem_of_getElem? (i := 1403) (by decide +kernel)⟩
theorem lw_p74 : lw_okq (⟨"HeardNextModel", "hears", "(I)Z"⟩, 64) := ⟨⟨by decide +kernel, by decide +kernel⟩, List.mem_of_getElem? (i := 983) (by decide +kernel), List.mem_of_getElem? (i := 1406) (by decide +kernel), List.mem_of_getElem? (i := 1407) (by decide +kernel)⟩
theorem lw_p75 : lw_okq (⟨"HeardNextModel", "sentNow", "()I"⟩, 64) := ⟨⟨by decide +kernel, by decide +kernel⟩, List.mem_of_getElem? (i := 983) (by decide +kernel), List.mem_of_getElem? (i := 1410) (by decide +kernel), List.mem_of_getElem? (i := 1411) (by decide +kernel)⟩
theorem lw_p76 : lw_okq (⟨"HeardNextModel", "lotOf", "(I)I"⟩, 64) := ⟨⟨by decide +kernel, by decide +kernel⟩, List.mem_of_getElem? (i := 983) (by decide +kernel), List.mem_of_getElem? (i := 1414) (by decide +kernel), List.mem_of_getElem? (i := 1415) (by decide +kernel)⟩
theorem lw_p77 : lw_okq (⟨"HeardNextModel", "comesNow", "(II)I"⟩, 64) := ⟨⟨by decide +kernel, by decide +kernel⟩, List.mem_of_getElem? (i := 983) (by decide +kernel), List.mem_of_getElem? (i := 1430) (by decide +kernel), List.mem_of_getElem? (i := 1431) (by decide +kernel)⟩
theorem lw_p78 : lw_okq (⟨"HeardNextModel", "comesAt", "(III)I"⟩, 64) := ⟨⟨by decide +kernel, by decide +kernel⟩, List.mem_of_getElem? (i := 983) (by decide +kernel), List.mem_of_getElem? (i := 1434) (by decide +kernel), List.mem_of_getElem? (i := 1435) (by decide +kernel)⟩
theorem lw_p79 : lw_okq (⟨"HeardNextModel", "breakTo", "(I)I"⟩, 64) := ⟨⟨by decide +kernel, by decide +kernel⟩, List.mem_of_getElem? (i := 983) (by decide +kernel), List.mem_of_getElem? (i := 1438) (by decide +kernel), List.mem_of_getElem? (i := 1439) (by decide +kernel)⟩
def lw_privs_5 : List (MethodName × Nat) := [(⟨"HeardNextModel", "lawTells", "(II)I"⟩, 64), (⟨"HeardNextModel", "termOf", "(II)I"⟩, 64), (⟨"HeardNextModel", "humsOf", "(II)I"⟩, 64), (⟨"HeardNextModel", "diesOf", "(I)I"⟩, 64), (⟨"HeardNextModel", "passes", "(III)I"⟩, 64), (⟨"HeardNextModel", "isKept", "(IIII)Z"⟩, 64), (⟨"HeardNextModel", "records", "()V"⟩, 64), (⟨"HeardNextModel", "changes", "(II)V"⟩, 64), (⟨"HeardNextModel", "goes", "(I)V"⟩, 64), (⟨"HeardNextModel", "hourGoes", "()V"⟩, 64), (⟨"HeardNextModel", "hears", "(I)Z"⟩, 64), (⟨"HeardNextModel", "sentNow", "()I"⟩, 64), (⟨"HeardNextModel", "lotOf", "(I)I"⟩, 64), (⟨"HeardNextModel", "comesNow", "(II)I"⟩, 64), (⟨"HeardNextModel", "comesAt", "(III)I"⟩, 64), (⟨"HeardNextModel", "breakTo", "(I)I"⟩, 64)]
theorem lw_r5 : ∀ q ∈ lw_privs_5, lw_okq q := List.forall_mem_cons.mpr ⟨lw_p64, List.forall_mem_cons.mpr ⟨lw_p65, List.forall_mem_cons.mpr ⟨lw_p66, List.forall_mem_cons.mpr ⟨lw_p67, List.forall_mem_cons.mpr ⟨lw_p68, List.forall_mem_cons.mpr ⟨lw_p69, List.forall_mem_cons.mpr ⟨lw_p70, List.forall_mem_cons.mpr ⟨lw_p71, List.forall_mem_cons.mpr ⟨lw_p72, List.forall_mem_cons.mpr ⟨lw_p73, List.forall_mem_cons.mpr ⟨lw_p74, List.forall_mem_cons.mpr ⟨lw_p75, List.forall_mem_cons.mpr ⟨lw_p76, List.forall_mem_cons.mpr ⟨lw_p77, List.forall_mem_cons.mpr ⟨lw_p78, List.forall_mem_cons.mpr ⟨lw_p79, fun _ h => absurd h List.not_mem_nil⟩⟩⟩⟩⟩⟩⟩⟩⟩⟩⟩⟩⟩⟩⟩⟩
theorem lw_p80 : lw_okq (⟨"HeardNextModel", "fillsComes", "(I)V"⟩, 64) := ⟨⟨by decide +kernel, by decide +kernel⟩, List.mem_of_getElem? (i := 983) (by decide +kernel), List.mem_of_getElem? (i := 1450) (by decide +kernel), List.mem_of_getElem? (i := 1451) (by decide +kernel)⟩
theorem lw_p81 : lw_okq (⟨"HeardNextModel", "fillsAll", "(I)V"⟩, 64) := ⟨⟨by decide +kernel, by decide +kernel⟩, List.mem_of_getElem? (i := 983) (by decide +kernel), List.mem_of_getElem? (i := 1486) (by decide +kernel), List.mem_of_getElem? (i := 1487) (by decide +kernel)⟩
theorem lw_p82 : lw_okq (⟨"HeardNextModel", "findsTimes", "(I)I"⟩, 64) := ⟨⟨by decide +kernel, by decide +kernel⟩, List.mem_of_getElem? (i := 983) (by decide +kernel), List.mem_of_getElem? (i := 1490) (by decide +kernel), List.mem_of_getElem? (i := 1491) (by decide +kernel)⟩
theorem lw_p83 : lw_okq (⟨"HeardNextModel", "copiesStill", "()V"⟩, 64) := ⟨⟨by decide +kernel, by decide +kernel⟩, List.mem_of_getElem? (i := 983) (by decide +kernel), List.mem_of_getElem? (i := 1509) (by decide +kernel), List.mem_of_getElem? (i := 1510) (by decide +kernel)⟩
theorem lw_p84 : lw_okq (⟨"HeardNextModel", "hadAllMany", "()I"⟩, 64) := ⟨⟨by decide +kernel, by decide +kernel⟩, List.mem_of_getElem? (i := 983) (by decide +kernel), List.mem_of_getElem? (i := 1529) (by decide +kernel), List.mem_of_getElem? (i := 1530) (by decide +kernel)⟩
theorem lw_p85 : lw_okq (⟨"HeardNextModel", "hadAll", "(I)Z"⟩, 64) := ⟨⟨by decide +kernel, by decide +kernel⟩, List.mem_of_getElem? (i := 983) (by decide +kernel), List.mem_of_getElem? (i := 1533) (by decide +kernel), List.mem_of_getElem? (i := 1534) (by decide +kernel)⟩
theorem lw_p86 : lw_okq (⟨"HeardNextModel", "griefBits", "()I"⟩, 64) := ⟨⟨by decide +kernel, by decide +kernel⟩, List.mem_of_getElem? (i := 983) (by decide +kernel), List.mem_of_getElem? (i := 1545) (by decide +kernel), List.mem_of_getElem? (i := 1546) (by decide +kernel)⟩
theorem lw_p87 : lw_okq (⟨"HeardNextModel", "fillsSent", "(I)I"⟩, 64) := ⟨⟨by decide +kernel, by decide +kernel⟩, List.mem_of_getElem? (i := 983) (by decide +kernel), List.mem_of_getElem? (i := 1581) (by decide +kernel), List.mem_of_getElem? (i := 1582) (by decide +kernel)⟩
theorem lw_p88 : lw_okq (⟨"HeardNextModel", "worstAt", "(I)I"⟩, 64) := ⟨⟨by decide +kernel, by decide +kernel⟩, List.mem_of_getElem? (i := 983) (by decide +kernel), List.mem_of_getElem? (i := 1589) (by decide +kernel), List.mem_of_getElem? (i := 1590) (by decide +kernel)⟩
theorem lw_p89 : lw_okq (⟨"HeardNextModel", "bitsOf", "(II)I"⟩, 64) := ⟨⟨by decide +kernel, by decide +kernel⟩, List.mem_of_getElem? (i := 983) (by decide +kernel), List.mem_of_getElem? (i := 1605) (by decide +kernel), List.mem_of_getElem? (i := 1606) (by decide +kernel)⟩
def lw_privs_6 : List (MethodName × Nat) := [(⟨"HeardNextModel", "fillsComes", "(I)V"⟩, 64), (⟨"HeardNextModel", "fillsAll", "(I)V"⟩, 64), (⟨"HeardNextModel", "findsTimes", "(I)I"⟩, 64), (⟨"HeardNextModel", "copiesStill", "()V"⟩, 64), (⟨"HeardNextModel", "hadAllMany", "()I"⟩, 64), (⟨"HeardNextModel", "hadAll", "(I)Z"⟩, 64), (⟨"HeardNextModel", "griefBits", "()I"⟩, 64), (⟨"HeardNextModel", "fillsSent", "(I)I"⟩, 64), (⟨"HeardNextModel", "worstAt", "(I)I"⟩, 64), (⟨"HeardNextModel", "bitsOf", "(II)I"⟩, 64)]
theorem lw_r6 : ∀ q ∈ lw_privs_6, lw_okq q := List.forall_mem_cons.mpr ⟨lw_p80, List.forall_mem_cons.mpr ⟨lw_p81, List.forall_mem_cons.mpr ⟨lw_p82, List.forall_mem_cons.mpr ⟨lw_p83, List.forall_mem_cons.mpr ⟨lw_p84, List.forall_mem_cons.mpr ⟨lw_p85, List.forall_mem_cons.mpr ⟨lw_p86, List.forall_mem_cons.mpr ⟨lw_p87, List.forall_mem_cons.mpr ⟨lw_p88, List.forall_mem_cons.mpr ⟨lw_p89, fun _ h => absurd h List.not_mem_nil⟩⟩⟩⟩⟩⟩⟩⟩⟩⟩
def lw_privs : List (MethodName × Nat) := lw_privs_1 ++ (lw_privs_2 ++ (lw_privs_3 ++ (lw_privs_4 ++ (lw_privs_5 ++ (lw_privs_6)))))
def lw_tbl : List Cond := k2_sels lw_privs ++ tables_1
theorem lw_privs_ok : ∀ q ∈ lw_privs, lw_okq q := by
  show ∀ q ∈ lw_privs_1 ++ (lw_privs_2 ++ (lw_privs_3 ++ (lw_privs_4 ++ (lw_privs_5 ++ (lw_privs_6))))), lw_okq q
  exact List.forall_mem_append.mpr ⟨lw_r1, List.forall_mem_append.mpr ⟨lw_r2, List.forall_mem_append.mpr ⟨lw_r3, List.forall_mem_append.mpr ⟨lw_r4, List.forall_mem_append.mpr ⟨lw_r5, lw_r6⟩⟩⟩⟩⟩
def RX0 : String := "HeardNext$Air"
def TX0 : u_T := fun k => match k with
  | 0 => ("HeardNext$Air", "vars", "[I", true)
  | 1 => ("HeardNext$Air", "known", "[I", true)
  | 2 => ("HeardNext$Air", "kept", "[I", true)
  | 3 => ("HeardNext$Air", "turn", "[I", true)
  | 4 => ("HeardNext$Air", "hum", "I", false)
  | _ => ("HeardNext$Air", "laws", "LHeardNext$Laws;", false)
def tyX0 : Nat → FieldType := fun k => match k with
  | 0 => .array .int
  | 1 => .array .int
  | 2 => .array .int
  | 3 => .array .int
  | 4 => .int
  | _ => .object "HeardNext$Laws"
abbrev wsX00 : List Cond := u_ws RX0 TX0 6
theorem nmX0 : ∀ a, a < 6 → ∀ b, b < 6 → a ≠ b → (TX0 a).2.1 ≠ (TX0 b).2.1 := by decide +kernel
theorem tyX0_ok : ∀ k, k < 6 → parseFieldDescriptor (TX0 k).2.2.1 = some (tyX0 k) := by decide +kernel
def RX1 : String := "HeardNext$Laws"
def TX1 : u_T := fun k => match k with
  | 0 => ("HeardNext$Laws", "steps", "[I", true)
  | 1 => ("HeardNext$Laws", "first", "[I", true)
  | 2 => ("HeardNext$Laws", "looks", "[I", true)
  | 3 => ("HeardNext$Laws", "pile", "[I", true)
  | 4 => ("HeardNext$Laws", "size", "I", false)
  | _ => ("HeardNext$Laws", "looked", "I", false)
def tyX1 : Nat → FieldType := fun k => match k with
  | 0 => .array .int
  | 1 => .array .int
  | 2 => .array .int
  | 3 => .array .int
  | 4 => .int
  | _ => .int
abbrev wsX10 : List Cond := u_ws RX1 TX1 6
theorem nmX1 : ∀ a, a < 6 → ∀ b, b < 6 → a ≠ b → (TX1 a).2.1 ≠ (TX1 b).2.1 := by decide +kernel
theorem tyX1_ok : ∀ k, k < 6 → parseFieldDescriptor (TX1 k).2.2.1 = some (tyX1 k) := by decide +kernel
def RX2 : String := "HeardNext$Life"
def TX2 : u_T := fun k => match k with
  | 0 => ("HeardNext$Life", "wanted", "[I", true)
  | 1 => ("HeardNext$Life", "age", "[I", true)
  | 2 => ("HeardNext$Life", "had", "[I", true)
  | 3 => ("HeardNext$Life", "who", "[I", true)
  | 4 => ("HeardNext$Life", "heard", "[I", true)
  | 5 => ("HeardNext$Life", "grief", "[I", true)
  | 6 => ("HeardNext$Life", "houses", "I", false)
  | 7 => ("HeardNext$Life", "hour", "I", false)
  | 8 => ("HeardNext$Life", "byHand", "I", false)
  | 9 => ("HeardNext$Life", "on", "I", false)
  | _ => ("HeardNext$Life", "deaths", "I", false)
def tyX2 : Nat → FieldType := fun k => match k with
  | 0 => .array .int
  | 1 => .array .int
  | 2 => .array .int
  | 3 => .array .int
  | 4 => .array .int
  | 5 => .array .int
  | 6 => .int
  | 7 => .int
  | 8 => .int
  | 9 => .int
  | _ => .int
abbrev wsX20 : List Cond := u_ws RX2 TX2 11
theorem nmX2 : ∀ a, a < 11 → ∀ b, b < 11 → a ≠ b → (TX2 a).2.1 ≠ (TX2 b).2.1 := by decide +kernel
theorem tyX2_ok : ∀ k, k < 11 → parseFieldDescriptor (TX2 k).2.2.1 = some (tyX2 k) := by decide +kernel
def RX3 : String := "HeardNext$Past"
def TX3 : u_T := fun k => match k with
  | 0 => ("HeardNext$Past", "lives", "[LHeardNext$Life;", true)
  | 1 => ("HeardNext$Past", "first", "I", false)
  | _ => ("HeardNext$Past", "size", "I", false)
def tyX3 : Nat → FieldType := fun k => match k with
  | 0 => .array (.object "HeardNext$Life")
  | 1 => .int
  | _ => .int
abbrev wsX30 : List Cond := u_ws RX3 TX3 3
theorem nmX3 : ∀ a, a < 3 → ∀ b, b < 3 → a ≠ b → (TX3 a).2.1 ≠ (TX3 b).2.1 := by decide +kernel
theorem tyX3_ok : ∀ k, k < 3 → parseFieldDescriptor (TX3 k).2.2.1 = some (tyX3 k) := by decide +kernel
def RX4 : String := "HeardNext$Reader"
def TX4 : u_T := fun k => match k with
  | 0 => ("HeardNext$Reader", "tokens", "LHeardNext$Tokens;", true)
  | 1 => ("HeardNext$Reader", "names", "[J", true)
  | 2 => ("HeardNext$Reader", "terrace", "LHeardNext$Terrace;", false)
  | 3 => ("HeardNext$Reader", "next", "I", false)
  | 4 => ("HeardNext$Reader", "number", "I", false)
  | 5 => ("HeardNext$Reader", "fault", "I", false)
  | 6 => ("HeardNext$Reader", "faultPlace", "I", false)
  | 7 => ("HeardNext$Reader", "lateFault", "I", false)
  | _ => ("HeardNext$Reader", "latePlace", "I", false)
def tyX4 : Nat → FieldType := fun k => match k with
  | 0 => .object "HeardNext$Tokens"
  | 1 => .array .long
  | 2 => .object "HeardNext$Terrace"
  | 3 => .int
  | 4 => .int
  | 5 => .int
  | 6 => .int
  | 7 => .int
  | _ => .int
abbrev wsX40 : List Cond := u_ws RX4 TX4 9
theorem nmX4 : ∀ a, a < 9 → ∀ b, b < 9 → a ≠ b → (TX4 a).2.1 ≠ (TX4 b).2.1 := by decide +kernel
theorem tyX4_ok : ∀ k, k < 9 → parseFieldDescriptor (TX4 k).2.2.1 = some (tyX4 k) := by decide +kernel
def RX5 : String := "HeardNext$Terrace"
def TX5 : u_T := fun k => match k with
  | 0 => ("HeardNext$Terrace", "wanted", "[I", true)
  | 1 => ("HeardNext$Terrace", "age", "[I", true)
  | 2 => ("HeardNext$Terrace", "programmeAt", "[I", true)
  | 3 => ("HeardNext$Terrace", "laws", "LHeardNext$Laws;", true)
  | 4 => ("HeardNext$Terrace", "houses", "I", false)
  | 5 => ("HeardNext$Terrace", "sends", "I", false)
  | 6 => ("HeardNext$Terrace", "grief", "I", false)
  | _ => ("HeardNext$Terrace", "seed", "I", false)
def tyX5 : Nat → FieldType := fun k => match k with
  | 0 => .array .int
  | 1 => .array .int
  | 2 => .array .int
  | 3 => .object "HeardNext$Laws"
  | 4 => .int
  | 5 => .int
  | 6 => .int
  | _ => .int
abbrev wsX50 : List Cond := u_ws RX5 TX5 8
theorem nmX5 : ∀ a, a < 8 → ∀ b, b < 8 → a ≠ b → (TX5 a).2.1 ≠ (TX5 b).2.1 := by decide +kernel
theorem tyX5_ok : ∀ k, k < 8 → parseFieldDescriptor (TX5 k).2.2.1 = some (tyX5 k) := by decide +kernel
def RX6 : String := "HeardNext$Tokens"
def TX6 : u_T := fun k => match k with
  | 0 => ("HeardNext$Tokens", "kind", "[I", true)
  | 1 => ("HeardNext$Tokens", "value", "[J", true)
  | 2 => ("HeardNext$Tokens", "start", "[I", true)
  | _ => ("HeardNext$Tokens", "size", "I", false)
def tyX6 : Nat → FieldType := fun k => match k with
  | 0 => .array .int
  | 1 => .array .long
  | 2 => .array .int
  | _ => .int
abbrev wsX60 : List Cond := u_ws RX6 TX6 4
theorem nmX6 : ∀ a, a < 4 → ∀ b, b < 4 → a ≠ b → (TX6 a).2.1 ≠ (TX6 b).2.1 := by decide +kernel
theorem tyX6_ok : ∀ k, k < 4 → parseFieldDescriptor (TX6 k).2.2.1 = some (tyX6 k) := by decide +kernel
def RX7 : String := "HeardNext$Told"
def TX7 : u_T := fun k => match k with
  | 0 => ("HeardNext$Told", "house", "[I", true)
  | 1 => ("HeardNext$Told", "programme", "[I", true)
  | _ => ("HeardNext$Told", "size", "I", false)
def tyX7 : Nat → FieldType := fun k => match k with
  | 0 => .array .int
  | 1 => .array .int
  | _ => .int
abbrev wsX70 : List Cond := u_ws RX7 TX7 3
theorem nmX7 : ∀ a, a < 3 → ∀ b, b < 3 → a ≠ b → (TX7 a).2.1 ≠ (TX7 b).2.1 := by decide +kernel
theorem tyX7_ok : ∀ k, k < 3 → parseFieldDescriptor (TX7 k).2.2.1 = some (tyX7 k) := by decide +kernel
def RX8 : String := "HeardNext$Ways"
def TX8 : u_T := fun k => match k with
  | 0 => ("HeardNext$Ways", "rows", "[[I", true)
  | _ => ("HeardNext$Ways", "filled", "I", false)
def tyX8 : Nat → FieldType := fun k => match k with
  | 0 => .array (.array .int)
  | _ => .int
abbrev wsX80 : List Cond := u_ws RX8 TX8 2
theorem nmX8 : ∀ a, a < 2 → ∀ b, b < 2 → a ≠ b → (TX8 a).2.1 ≠ (TX8 b).2.1 := by decide +kernel
theorem tyX8_ok : ∀ k, k < 2 → parseFieldDescriptor (TX8 k).2.2.1 = some (tyX8 k) := by decide +kernel
def RX9 : String := "HeardNext"
def TX9 : u_T := fun k => match k with
  | 0 => ("HeardNext", "tape", "[B", true)
  | 1 => ("HeardNext", "tapeLength", "I", false)
  | 2 => ("HeardNext", "faultPlace", "I", false)
  | 3 => ("HeardNext", "terrace", "LHeardNext$Terrace;", false)
  | 4 => ("HeardNext", "draft", "LHeardNext$Terrace;", false)
  | 5 => ("HeardNext", "reader", "LHeardNext$Reader;", true)
  | 6 => ("HeardNext", "life", "LHeardNext$Life;", true)
  | 7 => ("HeardNext", "dream", "LHeardNext$Life;", true)
  | 8 => ("HeardNext", "past", "LHeardNext$Past;", true)
  | 9 => ("HeardNext", "slots", "[LHeardNext$Life;", true)
  | 10 => ("HeardNext", "held", "I", false)
  | 11 => ("HeardNext", "air", "LHeardNext$Air;", true)
  | 12 => ("HeardNext", "ways", "LHeardNext$Ways;", true)
  | 13 => ("HeardNext", "told", "LHeardNext$Told;", true)
  | 14 => ("HeardNext", "taken", "[I", true)
  | 15 => ("HeardNext", "sums", "[I", true)
  | _ => ("HeardNext", "chosen", "[I", true)
def tyX9 : Nat → FieldType := fun k => match k with
  | 0 => .array .byte
  | 1 => .int
  | 2 => .int
  | 3 => .object "HeardNext$Terrace"
  | 4 => .object "HeardNext$Terrace"
  | 5 => .object "HeardNext$Reader"
  | 6 => .object "HeardNext$Life"
  | 7 => .object "HeardNext$Life"
  | 8 => .object "HeardNext$Past"
  | 9 => .array (.object "HeardNext$Life")
  | 10 => .int
  | 11 => .object "HeardNext$Air"
  | 12 => .object "HeardNext$Ways"
  | 13 => .object "HeardNext$Told"
  | 14 => .array .int
  | 15 => .array .int
  | _ => .array .int
abbrev wsX90 : List Cond := u_ws RX9 TX9 17
theorem nmX9 : ∀ a, a < 17 → ∀ b, b < 17 → a ≠ b → (TX9 a).2.1 ≠ (TX9 b).2.1 := by decide +kernel
theorem tyX9_ok : ∀ k, k < 17 → parseFieldDescriptor (TX9 k).2.2.1 = some (tyX9 k) := by decide +kernel
def RX10 : String := "HeardNextModel"
def TX10 : u_T := fun k => match k with
  | 0 => ("HeardNextModel", "thrown", "I", false)
  | 1 => ("HeardNextModel", "tape", "[B", true)
  | 2 => ("HeardNextModel", "taped", "I", false)
  | 3 => ("HeardNextModel", "text", "[B", true)
  | 4 => ("HeardNextModel", "size", "I", false)
  | 5 => ("HeardNextModel", "tKind", "[I", true)
  | 6 => ("HeardNextModel", "tPlace", "[I", true)
  | 7 => ("HeardNextModel", "tValue", "[I", true)
  | 8 => ("HeardNextModel", "tName", "[J", true)
  | 9 => ("HeardNextModel", "keys", "[J", true)
  | 10 => ("HeardNextModel", "tokens", "I", false)
  | 11 => ("HeardNextModel", "t", "I", false)
  | 12 => ("HeardNextModel", "open", "I", false)
  | 13 => ("HeardNextModel", "fault", "I", false)
  | 14 => ("HeardNextModel", "faultPlace", "I", false)
  | 15 => ("HeardNextModel", "worst", "I", false)
  | 16 => ("HeardNextModel", "worstPlace", "I", false)
  | 17 => ("HeardNextModel", "place", "I", false)
  | 18 => ("HeardNextModel", "live", "I", false)
  | 19 => ("HeardNextModel", "side", "I", false)
  | 20 => ("HeardNextModel", "names", "I", false)
  | 21 => ("HeardNextModel", "nameOf", "[J", true)
  | 22 => ("HeardNextModel", "houses", "[I", true)
  | 23 => ("HeardNextModel", "wantsTold", "[I", true)
  | 24 => ("HeardNextModel", "ageTold", "[I", true)
  | 25 => ("HeardNextModel", "sendsMany", "[I", true)
  | 26 => ("HeardNextModel", "sendsAt", "[I", true)
  | 27 => ("HeardNextModel", "grief", "[I", true)
  | 28 => ("HeardNextModel", "seed", "[I", true)
  | 29 => ("HeardNextModel", "lawFirst", "[I", true)
  | 30 => ("HeardNextModel", "lawLast", "[I", true)
  | 31 => ("HeardNextModel", "branches", "I", false)
  | 32 => ("HeardNextModel", "hasTest", "[Z", true)
  | 33 => ("HeardNextModel", "testFrom", "[I", true)
  | 34 => ("HeardNextModel", "testMid", "[I", true)
  | 35 => ("HeardNextModel", "testTo", "[I", true)
  | 36 => ("HeardNextModel", "termTo", "[I", true)
  | 37 => ("HeardNextModel", "codes", "I", false)
  | 38 => ("HeardNextModel", "codeKind", "[I", true)
  | 39 => ("HeardNextModel", "codeInt", "[I", true)
  | 40 => ("HeardNextModel", "waits", "[I", true)
  | 41 => ("HeardNextModel", "waiting", "I", false)
  | 42 => ("HeardNextModel", "variables", "[I", true)
  | 43 => ("HeardNextModel", "pile", "[I", true)
  | 44 => ("HeardNextModel", "isBroken", "Z", false)
  | 45 => ("HeardNextModel", "now", "[I", true)
  | 46 => ("HeardNextModel", "row", "[I", true)
  | 47 => ("HeardNextModel", "lots", "I", false)
  | 48 => ("HeardNextModel", "isStill", "Z", false)
  | 49 => ("HeardNextModel", "heardThen", "[I", true)
  | 50 => ("HeardNextModel", "diesNow", "[Z", true)
  | 51 => ("HeardNextModel", "undos", "I", false)
  | 52 => ("HeardNextModel", "history", "[I", true)
  | 53 => ("HeardNextModel", "comesOf", "[I", true)
  | 54 => ("HeardNextModel", "isSo", "[Z", true)
  | 55 => ("HeardNextModel", "taken", "[I", true)
  | 56 => ("HeardNextModel", "allAt", "[I", true)
  | 57 => ("HeardNextModel", "timesAt", "[I", true)
  | 58 => ("HeardNextModel", "partsOf", "[I", true)
  | 59 => ("HeardNextModel", "tolds", "I", false)
  | 60 => ("HeardNextModel", "toldHouse", "[I", true)
  | 61 => ("HeardNextModel", "toldWhat", "[I", true)
  | 62 => ("HeardNextModel", "isHeld", "[Z", true)
  | _ => ("HeardNextModel", "heldRows", "[I", true)
def tyX10 : Nat → FieldType := fun k => match k with
  | 0 => .int
  | 1 => .array .byte
  | 2 => .int
  | 3 => .array .byte
  | 4 => .int
  | 5 => .array .int
  | 6 => .array .int
  | 7 => .array .int
  | 8 => .array .long
  | 9 => .array .long
  | 10 => .int
  | 11 => .int
  | 12 => .int
  | 13 => .int
  | 14 => .int
  | 15 => .int
  | 16 => .int
  | 17 => .int
  | 18 => .int
  | 19 => .int
  | 20 => .int
  | 21 => .array .long
  | 22 => .array .int
  | 23 => .array .int
  | 24 => .array .int
  | 25 => .array .int
  | 26 => .array .int
  | 27 => .array .int
  | 28 => .array .int
  | 29 => .array .int
  | 30 => .array .int
  | 31 => .int
  | 32 => .array .boolean
  | 33 => .array .int
  | 34 => .array .int
  | 35 => .array .int
  | 36 => .array .int
  | 37 => .int
  | 38 => .array .int
  | 39 => .array .int
  | 40 => .array .int
  | 41 => .int
  | 42 => .array .int
  | 43 => .array .int
  | 44 => .boolean
  | 45 => .array .int
  | 46 => .array .int
  | 47 => .int
  | 48 => .boolean
  | 49 => .array .int
  | 50 => .array .boolean
  | 51 => .int
  | 52 => .array .int
  | 53 => .array .int
  | 54 => .array .boolean
  | 55 => .array .int
  | 56 => .array .int
  | 57 => .array .int
  | 58 => .array .int
  | 59 => .int
  | 60 => .array .int
  | 61 => .array .int
  | 62 => .array .boolean
  | _ => .array .int
abbrev wsX100 : List Cond := u_ws RX10 TX10 64
theorem nmX10 : ∀ a, a < 64 → ∀ b, b < 64 → a ≠ b → (TX10 a).2.1 ≠ (TX10 b).2.1 := by decide +kernel
theorem tyX10_ok : ∀ k, k < 64 → parseFieldDescriptor (TX10 k).2.2.1 = some (tyX10 k) := by decide +kernel
abbrev vwCl : List vw_C := [(RX0, TX0, 6), (RX1, TX1, 6), (RX2, TX2, 11), (RX3, TX3, 3), (RX4, TX4, 9), (RX5, TX5, 8), (RX6, TX6, 4), (RX7, TX7, 3), (RX8, TX8, 2), (RX9, TX9, 17), (RX10, TX10, 64)]
end
section
/-! THE WORLD: the script at b, cells from the address B on, numbered from 1; a symbol (.float j) is the script's int j -/
abbrev hv_E : Type := (Nat × Nat × (Nat → Value)) ⊕ (Nat × (Nat → Value))
abbrev hv_H : Type := Nat → Option hv_E
abbrev hv_G : Type := (Nat × Nat × Nat) × (Nat → Int32) × va_G × (Nat → ClassId)
def hv_ad (G : hv_G) (i : Nat) : Nat := match i with
  | 0 => G.1.2.1
  | i + 1 => G.1.1 + i
def hx_k (k : Nat) : Nat := match k with
  | 0 => 0
  | _ => 1
def hv_v (G : hv_G) (v : Value) : Value := match v with
  | .ref i => .ref (hv_ad G i)
  | .float j => .int (G.2.1 j.toNat)
  | .int x => .int x
  | .long x => .long x
  | .null => .null
  | .double x => .double x
  | .retAddr x => .ref (G.2.2.2 (1000 + hx_k x))
def hv_tyl : List FieldType := [.byte, .int, .long, .boolean, .object "HeardNext$Life", .array .int]
def hv_tys (G : hv_G) : List (ClassId × FieldType) := [(G.2.2.2 0, .byte), (G.2.2.2 1, .int), (G.2.2.2 2, .long), (G.2.2.2 3, .boolean), (G.2.2.2 4, .object "HeardNext$Life"), (G.2.2.2 5, .array .int)]
theorem hv_tys_at {G : hv_G} {t : Nat} {ty : FieldType} (h : hv_tyl[t]? = some ty) : (hv_tys G)[t]? = some (G.2.2.2 t, ty) := by
  match t, h with
  | 0, h => cases h; rfl
  | 1, h => cases h; rfl
  | 2, h => cases h; rfl
  | 3, h => cases h; rfl
  | 4, h => cases h; rfl
  | 5, h => cases h; rfl
  | t + 6, h => simp [hv_tyl] at h
def hv_at (G : hv_G) (i : Nat) (e : hv_E) (H : Heap) : Prop := match e with
  | .inl a => H[G.1.1 + i]? = some (arrV (G.2.2.2 a.1) a.2.1 (fun j => hv_v G (a.2.2 j)))
  | .inr o => ∃ r : vw_C, vwCl[o.1]? = some r ∧ t_OB (G.1.1 + i) (G.2.2.1.1 o.1) r.2.2 (G.2.2.1.2 o.1) H (fun k => hv_v G (o.2 k))
def hv_P (G : hv_G) (n : Nat) (hp : hv_H) (H : Heap) : Prop := H.size = G.1.1 + n ∧ ∀ (i : Nat) (e : hv_E), hp i = some e → hv_at G i e H
def hv_up (hp : hv_H) (i : Nat) (e : hv_E) : hv_H := fun j => if j = i then some e else hp j
def hv_uv (f : Nat → Value) (k : Nat) (v : Value) : Nat → Value := fun j => if j = k then v else f j
theorem hv_v_uv (G : hv_G) (f : Nat → Value) (k : Nat) (v : Value) : (fun j => hv_v G (hv_uv f k v j)) = updV (fun j => hv_v G (f j)) k (hv_v G v) := by
  funext j
  unfold hv_uv updV
  by_cases h : j = k <;> simp [h]
theorem hv_at.kept {G : hv_G} {i : Nat} {e : hv_E} {H H1 : Heap} (h : hv_at G i e H) (hq : H1[G.1.1 + i]? = H[G.1.1 + i]?) : hv_at G i e H1 := by
  match e, h with
  | .inl a, h => exact hq.trans h
  | .inr o, h =>
    obtain ⟨r, h1, h2⟩ := h
    exact ⟨r, h1, h2.kept hq⟩
theorem hv_at.lt {G : hv_G} {i : Nat} {e : hv_E} {H : Heap} (h : hv_at G i e H) : G.1.1 + i < H.size := by
  match e, h with
  | .inl a, h => exact (Array.getElem?_eq_some_iff.mp h).1
  | .inr o, h =>
    obtain ⟨r, h1, cell, h2, -⟩ := h
    exact (Array.getElem?_eq_some_iff.mp h2).1
theorem hv_P.set {G : hv_G} {n : Nat} {hp : hv_H} {i : Nat} {e : hv_E} {H H1 : Heap} (h : hv_P G n hp H) (he : hv_at G i e H1) (hz : H1.size = H.size) (oq : ∀ q : Nat, q ≠ G.1.1 + i → H1[q]? = H[q]?) : hv_P G n (hv_up hp i e) H1 := by
  refine ⟨hz.trans h.1, fun j x hj => ?_⟩
  unfold hv_up at hj
  by_cases hji : j = i
  · subst hji
    rw [if_pos rfl] at hj
    cases hj
    exact he
  · rw [if_neg hji] at hj
    exact (h.2 j x hj).kept (oq _ (by omega))
theorem hv_P.push {G : hv_G} {n : Nat} {hp : hv_H} {e : hv_E} {H H1 : Heap} (h : hv_P G n hp H) (he : hv_at G n e H1) (hz : H1.size = H.size + 1) (oq : ∀ q : Nat, q < H.size → H1[q]? = H[q]?) : hv_P G (n + 1) (hv_up hp n e) H1 := by
  refine ⟨by rw [hz, h.1]; omega, fun j x hj => ?_⟩
  unfold hv_up at hj
  by_cases hji : j = n
  · subst hji
    rw [if_pos rfl] at hj
    cases hj
    exact he
  · rw [if_neg hji] at hj
    exact (h.2 j x hj).kept (oq _ (h.2 j x hj).lt)
def hv_l (G : hv_G) (lv : List (Nat × Value)) : List (Nat × Value) := lv.map (fun q => (q.1, hv_v G q.2))
/-! THE TEXTS: where they lie (G.2.2.2 at 1000 and 1001), what they say, at a state z that all later ones keep -/
/-- the text constants: .retAddr k on the pile stands for the k-th -/
def hc_txt (k : Nat) : List Nat := match k with
  | 0 => [59, 61, 43, 45, 42, 47, 60, 40, 41]
  | _ => [104, 111, 117, 115, 101, 32, 115, 101, 110, 100, 115, 32, 107, 101, 101, 112, 115, 32, 116, 117, 114, 110, 115, 32, 104, 117, 109, 115, 32, 100, 105, 101, 115, 32, 103, 114, 105, 101, 102, 32, 115, 101, 101, 100, 32, 105, 102, 32, 116, 104, 101, 110, 32, 101, 108, 115, 101, 32, 100, 111, 111, 114, 32, 104, 111, 117, 114, 32, 100, 97, 121, 32, 112, 97, 114, 116, 32, 119, 97, 110, 116, 115, 32, 97, 103, 101, 32, 112, 97, 114, 116, 115, 32, 109, 97, 110, 121, 32, 104, 97, 100, 32]
def hx_ix (k : Nat) : Nat := match k with
  | 0 => 39
  | _ => 50
def hx_tt (k : Nat) : String := match k with
  | 0 => ";=+-*/<()"
  | _ => "house sends keeps turns hums dies grief seed if then else door hour day part wants age parts many had "
def hx_T (a : Nat) (bs : List Nat) (z : State) : Prop := ∃ (d : Nat) (C arr : Cell), z.heap[a]? = some C ∧ C.vm.isStatics = false ∧ z.vm.findClass "java/lang/String" = some C.cls ∧ (Cond.exactly (.arg 0) "java/lang/String").before #[.ref a] z = true ∧ z.fieldOf? a "java/lang/String" "value" "[B" = some (.ref d) ∧ z.fieldOf? a "java/lang/String" "coder" "B" = some (.int 0) ∧ z.heap[d]? = some arr ∧ z.isArrayOf arr .byte ∧ arr.vm ≠ .unknown ∧ arr.slots.size = bs.length ∧ ∀ (i b : Nat), bs[i]? = some b → arr.slots[i]? = some (.int (Int32.ofNat b))
def hx_Z (z : State) : Prop := Jvm.Lib.Cold.StaticIs z "java/lang/String" "COMPACT_STRINGS" "Z" (.int 1) ∧ ∃ fmt : Value, Jvm.Lib.Cold.StaticIs z "jdk/internal/util/Preconditions" "SIOOBE_FORMATTER" "Ljava/util/function/BiFunction;" fmt ∧ fmt.isRef = true
def hx_R (G : hv_G) (U : State) : Prop := ∀ k : Nat, (Cond.stringRef "HeardNext$Tokens" (hx_ix k) (hx_tt k)).before #[] U = true ∧ (Term.string "HeardNext$Tokens" (hx_ix k)).eval #[] U none [] U = some (.ref (G.2.2.2 (1000 + hx_k k)))
def hx_K (G : hv_G) (U : State) : Prop := hx_R G U ∧ ∃ z : State, z.heap.size ≤ G.1.1 ∧ (∀ (y : Nat) (c : Cell), z.heap[y]? = some c → U.heap[y]? = some c) ∧ z.vm.Alike U.vm ∧ hx_Z z ∧ ∀ k : Nat, hx_T (G.2.2.2 (1000 + hx_k k)) (hc_txt k) z
theorem hx_keepT {a : Nat} {bs : List Nat} {z U : State} (hal : z.vm.Alike U.vm) (hk : ∀ (y : Nat) (c : Cell), z.heap[y]? = some c → U.heap[y]? = some c) (h : hx_T a bs z) : hx_T a bs U := by
  obtain ⟨d, C, arr, h1, h2, h3, h4, h5, h6, h7, h8, h9, h10, h11⟩ := h
  have fk : ∀ (name desc : String), U.fieldOf? a "java/lang/String" name desc = z.fieldOf? a "java/lang/String" name desc := fun name desc => by
    have e1 : U.fieldOf? a "java/lang/String" name desc = (z.setVm U.vm).fieldOf? a "java/lang/String" name desc := by
      have e0 : U.heap[a]? = (z.setVm U.vm).heap[a]? := (hk a C h1).trans h1.symm
      simp only [State.fieldOf?, State.fieldNamed?, State.fieldFound?, e0]
      rfl
    exact e1.trans (State.fieldOf?_setVm hal a _ _ _)
  refine ⟨d, C, arr, hk _ _ h1, h2, by rw [hal.findClass]; exact h3, ?_, by rw [fk]; exact h5, by rw [fk]; exact h6, hk _ _ h7, State.isArrayOf_alike hal h8, h9, h10, h11⟩
  have e2 : (Cond.exactly (.arg 0) "java/lang/String").before #[.ref a] (z.setVm U.vm) = true := (exactly_setVm_of hal (b := a) rfl rfl).trans h4
  have e3 : (Cond.exactly (.arg 0) "java/lang/String").before #[.ref a] U = (Cond.exactly (.arg 0) "java/lang/String").before #[.ref a] (z.setVm U.vm) := by
    have e0 : U.heap[a]? = (z.setVm U.vm).heap[a]? := (hk a C h1).trans h1.symm
    have e4 : (#[Value.ref a] : Array Value)[0]? = some (.ref a) := rfl
    simp only [Cond.before, Cond.holds, Cond.value, Term.eval, e4, State.vm_setVm]
    cases hf : U.vm.findClass "java/lang/String" with
    | none => rfl
    | some c =>
      simp only [e0]
  rw [e3]
  exact e2
theorem hx_keepS {z U : State} {cls name desc : String} {v : Value} (hal : z.vm.Alike U.vm) (hk : ∀ (y : Nat) (c : Cell), z.heap[y]? = some c → U.heap[y]? = some c) (h : Jvm.Lib.Cold.StaticIs z cls name desc v) : Jvm.Lib.Cold.StaticIs U cls name desc v := by
  obtain ⟨cf, i, k, f, a1, cell1, h1, h2, h3, h4, h5, h6, h7⟩ := h
  obtain ⟨k', hk', he⟩ := State.fieldFound?_setVm hal h1
  exact ⟨cf, i, k', f, a1, cell1, hk', h2, by rw [he]; exact h3, by rw [he]; exact h4, hk _ _ h5, h6, h7⟩
/-- what a state knows of the texts -/
theorem hx_K.at {G : hv_G} {U : State} (h : hx_K G U) : hx_Z U ∧ ∀ k : Nat, hx_T (G.2.2.2 (1000 + hx_k k)) (hc_txt k) U := by
  obtain ⟨-, z, -, hk, hal, ⟨z1, fmt, z2, z3⟩, ht⟩ := h
  exact ⟨⟨hx_keepS hal hk z1, fmt, hx_keepS hal hk z2, z3⟩, fun k => hx_keepT hal hk (ht k)⟩
theorem hx_R.moved {G : hv_G} {s U : State} (hW : s.WarmedH U.vm) (h : hx_R G s) : hx_R G U := by
  intro k
  obtain ⟨h1, h2⟩ := h k
  have hcur : ∃ cur, s.vm.findClass "HeardNext$Tokens" = some cur := by
    simp only [Term.eval] at h2
    cases hf : s.vm.findClass "HeardNext$Tokens" with
    | none => simp [hf] at h2
    | some c => exact ⟨c, rfl⟩
  obtain ⟨cur, hcur⟩ := hcur
  have g1 := Cond.stringRef_warmed hW h1
  have g2 := Term.string_eval_warmed hW hcur h1 h2
  refine ⟨?_, ?_⟩
  · rw [← g1]
    simp only [Cond.before, Cond.holds, Cond.value, State.vm_setVm, State.names, State.poolOf?, State.resolvedAt?]
    rfl
  · rw [← g2]
    exact Term.string_eval_of_vm rfl
theorem hx_K.moved {G : hv_G} {s U : State} (hW : s.WarmedH U.vm) (hU : ∀ q : Nat, q < G.1.1 → U.heap[q]? = s.heap[q]?) (h : hx_K G s) : hx_K G U := by
  obtain ⟨h1, z, hz, hk, hal, hZ⟩ := h
  refine ⟨h1.moved hW, z, hz, fun y c hy => ?_, hal.trans hW.alike, hZ⟩
  have hlt : y < z.heap.size := (Array.getElem?_eq_some_iff.mp hy).1
  rw [hU y (by omega)]
  exact hk y c hy
def hv_X (G : hv_G) (p : Program) (s : State) (m : MethodId) (args : Array Value) (c : Code) (Ts : List Cond) (own : String) (cc : ByteArray) (nL : Nat) : Prop :=
  p.tables.exec = Jvm.exec ∧ c.code = cc ∧ c.maxLocals = nL ∧ s.vm.findClass own = some m.cls ∧ (∀ w ∈ Ts, w.before args s = true) ∧ va_K G.2.2.1 vwCl (hv_tys G) s ∧ G.1.1 ≤ s.heap.size ∧ G.1.2.1 < G.1.1 ∧ hx_K G s ∧ va_X G.1.2.1 G.1.2.2 G.2.1 s s.heap
def hv_W (G : hv_G) (p : Program) (l : Launch) (e : Env) (R : Room) (s : State) (m : MethodId) (args : Array Value) (below : List Frame) (meth : Method) (c : Code) (nL : Nat) (Q : State → Prop) (n : Nat) (hp : hv_H) (cells slots pc : Nat) (lv : List (Nat × Value)) (st : List Value) : Prop :=
  ∀ (H : Heap) (locs : List Loc) (ls : Array Slot), hv_P G n hp H → (∀ q : Nat, q < G.1.1 → H[q]? = s.heap[q]?) → (∀ q ∈ locs, G.1.1 ≤ q.base) → lv_has ls nL (hv_l G lv) → W p l e R s m args below meth c H locs cells slots Q (F0 m pc ls (st.map (hv_v G)))
def hv_s1 (i : Nat) (v : Value) (lv : List (Nat × Value)) : List (Nat × Value) := (i, v) :: lv.filter (fun q => !(q.1 == i) && !(q.1 + 1 == i && q.2.category == 2))
def hv_s2 (i : Nat) (v : Value) (lv : List (Nat × Value)) : List (Nat × Value) := (i, v) :: lv.filter (fun q => !(q.1 == i) && (!(q.1 == i + 1) && !(q.1 + 1 == i && q.2.category == 2)))
theorem hv_cat (G : hv_G) (v : Value) : (hv_v G v).category = v.category := by cases v <;> rfl
theorem hv_l_s1 (G : hv_G) (i : Nat) (v : Value) (lv : List (Nat × Value)) : (i, hv_v G v) :: (hv_l G lv).filter (fun q => !(q.1 == i) && !(q.1 + 1 == i && q.2.category == 2)) = hv_l G (hv_s1 i v lv) := by
  unfold hv_l hv_s1
  rw [List.map_cons, List.filter_map]
  congr 3
  funext q
  simp only [Function.comp, hv_cat]
theorem hv_l_s2 (G : hv_G) (i : Nat) (v : Value) (lv : List (Nat × Value)) : (i, hv_v G v) :: (hv_l G lv).filter (fun q => !(q.1 == i) && (!(q.1 == i + 1) && !(q.1 + 1 == i && q.2.category == 2))) = hv_l G (hv_s2 i v lv) := by
  unfold hv_l hv_s2
  rw [List.map_cons, List.filter_map]
  congr 3
  funext q
  simp only [Function.comp, hv_cat]
theorem hv_l_at {G : hv_G} {ls : Array Slot} {nL : Nat} {lv : List (Nat × Value)} (h : lv_has ls nL (hv_l G lv)) {i : Nat} {v : Value} (hm : (i, v) ∈ lv) : ls[i]? = some (.val (hv_v G v)) := h.2.2 (i, hv_v G v) (List.mem_map.mpr ⟨(i, v), hm, rfl⟩)
theorem hv_cats (G : hv_G) (st : List Value) : ((st.map (hv_v G)).map fun v => v.category).sum = (st.map fun v => v.category).sum := by
  rw [List.map_map]
  congr 1
  apply List.map_congr_left
  intro v _
  exact hv_cat G v
section HW
variable {G : hv_G} {p : Program} {l : Launch} {e : Env} {R : Room} {s : State} {m : MethodId} {args : Array Value} {below : List Frame} {meth : Method} {c : Code} {nL : Nat} {Q : State → Prop} {n : Nat} {hp : hv_H} {cells slots pc : Nat} {lv : List (Nat × Value)} {st : List Value} {Ts : List Cond} {own : String} {cc : ByteArray}
theorem hw_iconst (X : hv_X G p s m args c Ts own cc nL) {z : Int} {v : Int32} (hd : decode cc pc = .ok (.iconst z, 1)) (hv : Int32.ofInt z = v) (k : hv_W G p l e R s m args below meth c nL Q n hp cells slots (pc + 1) lv (.int v :: st)) : hv_W G p l e R s m args below meth c nL Q n hp cells slots pc lv st := fun H locs ls h1 h2 h3 h4 => lv_iconst X.1 X.2.1 hd hv (k H locs ls h1 h2 h3 h4)
theorem hw_bipush (X : hv_X G p s m args c Ts own cc nL) {z : Int} {v : Int32} (hd : decode cc pc = .ok (.bipush z, 2)) (hv : (Int8.ofInt z).toInt32 = v) (k : hv_W G p l e R s m args below meth c nL Q n hp cells slots (pc + 2) lv (.int v :: st)) : hv_W G p l e R s m args below meth c nL Q n hp cells slots pc lv st := fun H locs ls h1 h2 h3 h4 => lv_bipush X.1 X.2.1 hd hv (k H locs ls h1 h2 h3 h4)
theorem hw_sipush (X : hv_X G p s m args c Ts own cc nL) {z : Int} {v : Int32} (hd : decode cc pc = .ok (.sipush z, 3)) (hv : (Int16.ofInt z).toInt32 = v) (k : hv_W G p l e R s m args below meth c nL Q n hp cells slots (pc + 3) lv (.int v :: st)) : hv_W G p l e R s m args below meth c nL Q n hp cells slots pc lv st := fun H locs ls h1 h2 h3 h4 => lv_sipush X.1 X.2.1 hd hv (k H locs ls h1 h2 h3 h4)
theorem hw_lconst (X : hv_X G p s m args c Ts own cc nL) {z : Fin 2} {v : Int64} (hd : decode cc pc = .ok (.lconst z, 1)) (hv : Int64.ofNat (z : Nat) = v) (k : hv_W G p l e R s m args below meth c nL Q n hp cells slots (pc + 1) lv (.long v :: st)) : hv_W G p l e R s m args below meth c nL Q n hp cells slots pc lv st := fun H locs ls h1 h2 h3 h4 => lv_lconst X.1 X.2.1 hd hv (k H locs ls h1 h2 h3 h4)
theorem hw_ldc (X : hv_X G p s m args c Ts own cc nL) {ix : Nat} {v : Int32} (hd : decode cc pc = .ok (.ldc ix, 2)) (hw : Cond.constant own ix v ∈ Ts) (k : hv_W G p l e R s m args below meth c nL Q n hp cells slots (pc + 2) lv (.int v :: st)) : hv_W G p l e R s m args below meth c nL Q n hp cells slots pc lv st := fun H locs ls h1 h2 h3 h4 => lv_ldc X.1 X.2.1 X.2.2.2.1 (X.2.2.2.2.1 _ hw) hd (k H locs ls h1 h2 h3 h4)
theorem hw_ldcw (X : hv_X G p s m args c Ts own cc nL) {ix : Nat} {v : Int32} (hd : decode cc pc = .ok (.ldc_w ix, 3)) (hw : Cond.constant own ix v ∈ Ts) (k : hv_W G p l e R s m args below meth c nL Q n hp cells slots (pc + 3) lv (.int v :: st)) : hv_W G p l e R s m args below meth c nL Q n hp cells slots pc lv st := fun H locs ls h1 h2 h3 h4 => lv_ldcw X.1 X.2.1 X.2.2.2.1 (X.2.2.2.2.1 _ hw) hd (k H locs ls h1 h2 h3 h4)
theorem hw_ldc2 (X : hv_X G p s m args c Ts own cc nL) {ix : Nat} {v : Int64} (hd : decode cc pc = .ok (.ldc2_w ix, 3)) (hw : Cond.constantLong own ix v ∈ Ts) (k : hv_W G p l e R s m args below meth c nL Q n hp cells slots (pc + 3) lv (.long v :: st)) : hv_W G p l e R s m args below meth c nL Q n hp cells slots pc lv st := fun H locs ls h1 h2 h3 h4 => lv_ldc2 X.1 X.2.1 X.2.2.2.1 (X.2.2.2.2.1 _ hw) hd (k H locs ls h1 h2 h3 h4)
theorem hw_iload_n (X : hv_X G p s m args c Ts own cc nL) {kf : Fin 4} {i : Nat} {x : Int32} (hd : decode cc pc = .ok (.iload_n kf, 1)) (hi : (kf : Nat) = i) (hm : (i, .int x) ∈ lv) (k : hv_W G p l e R s m args below meth c nL Q n hp cells slots (pc + 1) lv (.int x :: st)) : hv_W G p l e R s m args below meth c nL Q n hp cells slots pc lv st := fun H locs ls h1 h2 h3 h4 => lv_iload_n X.1 X.2.1 hd hi (hv_l_at h4 hm) (k H locs ls h1 h2 h3 h4)
theorem hw_iload_nS (X : hv_X G p s m args c Ts own cc nL) {kf : Fin 4} {i : Nat} {x : UInt32} (hd : decode cc pc = .ok (.iload_n kf, 1)) (hi : (kf : Nat) = i) (hm : (i, .float x) ∈ lv) (k : hv_W G p l e R s m args below meth c nL Q n hp cells slots (pc + 1) lv (.float x :: st)) : hv_W G p l e R s m args below meth c nL Q n hp cells slots pc lv st := fun H locs ls h1 h2 h3 h4 => lv_iload_n X.1 X.2.1 hd hi (hv_l_at h4 hm) (k H locs ls h1 h2 h3 h4)
theorem hw_iload (X : hv_X G p s m args c Ts own cc nL) {i : Nat} {x : Int32} (hd : decode cc pc = .ok (.iload i, 2)) (hm : (i, .int x) ∈ lv) (k : hv_W G p l e R s m args below meth c nL Q n hp cells slots (pc + 2) lv (.int x :: st)) : hv_W G p l e R s m args below meth c nL Q n hp cells slots pc lv st := fun H locs ls h1 h2 h3 h4 => lv_iload X.1 X.2.1 hd (hv_l_at h4 hm) (k H locs ls h1 h2 h3 h4)
theorem hw_iloadS (X : hv_X G p s m args c Ts own cc nL) {i : Nat} {x : UInt32} (hd : decode cc pc = .ok (.iload i, 2)) (hm : (i, .float x) ∈ lv) (k : hv_W G p l e R s m args below meth c nL Q n hp cells slots (pc + 2) lv (.float x :: st)) : hv_W G p l e R s m args below meth c nL Q n hp cells slots pc lv st := fun H locs ls h1 h2 h3 h4 => lv_iload X.1 X.2.1 hd (hv_l_at h4 hm) (k H locs ls h1 h2 h3 h4)
theorem hw_lload_n (X : hv_X G p s m args c Ts own cc nL) {kf : Fin 4} {i : Nat} {x : Int64} (hd : decode cc pc = .ok (.lload_n kf, 1)) (hi : (kf : Nat) = i) (hm : (i, .long x) ∈ lv) (k : hv_W G p l e R s m args below meth c nL Q n hp cells slots (pc + 1) lv (.long x :: st)) : hv_W G p l e R s m args below meth c nL Q n hp cells slots pc lv st := fun H locs ls h1 h2 h3 h4 => lv_lload_n X.1 X.2.1 hd hi (hv_l_at h4 hm) (k H locs ls h1 h2 h3 h4)
theorem hw_lload (X : hv_X G p s m args c Ts own cc nL) {i : Nat} {x : Int64} (hd : decode cc pc = .ok (.lload i, 2)) (hm : (i, .long x) ∈ lv) (k : hv_W G p l e R s m args below meth c nL Q n hp cells slots (pc + 2) lv (.long x :: st)) : hv_W G p l e R s m args below meth c nL Q n hp cells slots pc lv st := fun H locs ls h1 h2 h3 h4 => lv_lload X.1 X.2.1 hd (hv_l_at h4 hm) (k H locs ls h1 h2 h3 h4)
theorem hw_aload_n (X : hv_X G p s m args c Ts own cc nL) {kf : Fin 4} {i : Nat} {x : Nat} (hd : decode cc pc = .ok (.aload_n kf, 1)) (hi : (kf : Nat) = i) (hm : (i, .ref x) ∈ lv) (k : hv_W G p l e R s m args below meth c nL Q n hp cells slots (pc + 1) lv (.ref x :: st)) : hv_W G p l e R s m args below meth c nL Q n hp cells slots pc lv st := fun H locs ls h1 h2 h3 h4 => lv_aload_n X.1 X.2.1 hd hi (hv_l_at h4 hm) (k H locs ls h1 h2 h3 h4)
theorem hw_aload (X : hv_X G p s m args c Ts own cc nL) {i : Nat} {x : Nat} (hd : decode cc pc = .ok (.aload i, 2)) (hm : (i, .ref x) ∈ lv) (k : hv_W G p l e R s m args below meth c nL Q n hp cells slots (pc + 2) lv (.ref x :: st)) : hv_W G p l e R s m args below meth c nL Q n hp cells slots pc lv st := fun H locs ls h1 h2 h3 h4 => lv_aload X.1 X.2.1 hd (hv_l_at h4 hm) (k H locs ls h1 h2 h3 h4)
theorem hw_istore_n (X : hv_X G p s m args c Ts own cc nL) {kf : Fin 4} {i : Nat} {x : Int32} (hd : decode cc pc = .ok (.istore_n kf, 1)) (hi : (kf : Nat) = i) (hn : i < nL) (k : hv_W G p l e R s m args below meth c nL Q n hp cells slots (pc + 1) (hv_s1 i (.int x) lv) st) : hv_W G p l e R s m args below meth c nL Q n hp cells slots pc lv (.int x :: st) := fun H locs ls h1 h2 h3 h4 => lv_istore_n X.1 X.2.1 hd hi h4 hn (hv_l_s1 G i (.int x) lv) (fun ls h4 => k H locs ls h1 h2 h3 h4)
theorem hw_istore_nS (X : hv_X G p s m args c Ts own cc nL) {kf : Fin 4} {i : Nat} {x : UInt32} (hd : decode cc pc = .ok (.istore_n kf, 1)) (hi : (kf : Nat) = i) (hn : i < nL) (k : hv_W G p l e R s m args below meth c nL Q n hp cells slots (pc + 1) (hv_s1 i (.float x) lv) st) : hv_W G p l e R s m args below meth c nL Q n hp cells slots pc lv (.float x :: st) := fun H locs ls h1 h2 h3 h4 => lv_istore_n X.1 X.2.1 hd hi h4 hn (hv_l_s1 G i (.float x) lv) (fun ls h4 => k H locs ls h1 h2 h3 h4)
theorem hw_istore (X : hv_X G p s m args c Ts own cc nL) {i : Nat} {x : Int32} (hd : decode cc pc = .ok (.istore i, 2)) (hn : i < nL) (k : hv_W G p l e R s m args below meth c nL Q n hp cells slots (pc + 2) (hv_s1 i (.int x) lv) st) : hv_W G p l e R s m args below meth c nL Q n hp cells slots pc lv (.int x :: st) := fun H locs ls h1 h2 h3 h4 => lv_istore X.1 X.2.1 hd h4 hn (hv_l_s1 G i (.int x) lv) (fun ls h4 => k H locs ls h1 h2 h3 h4)
theorem hw_istoreS (X : hv_X G p s m args c Ts own cc nL) {i : Nat} {x : UInt32} (hd : decode cc pc = .ok (.istore i, 2)) (hn : i < nL) (k : hv_W G p l e R s m args below meth c nL Q n hp cells slots (pc + 2) (hv_s1 i (.float x) lv) st) : hv_W G p l e R s m args below meth c nL Q n hp cells slots pc lv (.float x :: st) := fun H locs ls h1 h2 h3 h4 => lv_istore X.1 X.2.1 hd h4 hn (hv_l_s1 G i (.float x) lv) (fun ls h4 => k H locs ls h1 h2 h3 h4)
theorem hw_lstore_n (X : hv_X G p s m args c Ts own cc nL) {kf : Fin 4} {i : Nat} {x : Int64} (hd : decode cc pc = .ok (.lstore_n kf, 1)) (hi : (kf : Nat) = i) (hn : i + 1 < nL) (k : hv_W G p l e R s m args below meth c nL Q n hp cells slots (pc + 1) (hv_s2 i (.long x) lv) st) : hv_W G p l e R s m args below meth c nL Q n hp cells slots pc lv (.long x :: st) := fun H locs ls h1 h2 h3 h4 => lv_lstore_n X.1 X.2.1 hd hi h4 hn (hv_l_s2 G i (.long x) lv) (fun ls h4 => k H locs ls h1 h2 h3 h4)
theorem hw_lstore (X : hv_X G p s m args c Ts own cc nL) {i : Nat} {x : Int64} (hd : decode cc pc = .ok (.lstore i, 2)) (hn : i + 1 < nL) (k : hv_W G p l e R s m args below meth c nL Q n hp cells slots (pc + 2) (hv_s2 i (.long x) lv) st) : hv_W G p l e R s m args below meth c nL Q n hp cells slots pc lv (.long x :: st) := fun H locs ls h1 h2 h3 h4 => lv_lstore X.1 X.2.1 hd h4 hn (hv_l_s2 G i (.long x) lv) (fun ls h4 => k H locs ls h1 h2 h3 h4)
theorem hw_astore_n (X : hv_X G p s m args c Ts own cc nL) {kf : Fin 4} {i : Nat} {x : Nat} (hd : decode cc pc = .ok (.astore_n kf, 1)) (hi : (kf : Nat) = i) (hn : i < nL) (k : hv_W G p l e R s m args below meth c nL Q n hp cells slots (pc + 1) (hv_s1 i (.ref x) lv) st) : hv_W G p l e R s m args below meth c nL Q n hp cells slots pc lv (.ref x :: st) := fun H locs ls h1 h2 h3 h4 => lv_astore_n X.1 X.2.1 hd hi h4 hn (hv_l_s1 G i (.ref x) lv) (fun ls h4 => k H locs ls h1 h2 h3 h4)
theorem hw_astore (X : hv_X G p s m args c Ts own cc nL) {i : Nat} {x : Nat} (hd : decode cc pc = .ok (.astore i, 2)) (hn : i < nL) (k : hv_W G p l e R s m args below meth c nL Q n hp cells slots (pc + 2) (hv_s1 i (.ref x) lv) st) : hv_W G p l e R s m args below meth c nL Q n hp cells slots pc lv (.ref x :: st) := fun H locs ls h1 h2 h3 h4 => lv_astore X.1 X.2.1 hd h4 hn (hv_l_s1 G i (.ref x) lv) (fun ls h4 => k H locs ls h1 h2 h3 h4)
theorem hw_iinc (X : hv_X G p s m args c Ts own cc nL) {i : Nat} {z : Int} {x : Int32} (hd : decode cc pc = .ok (.iinc i z, 3)) (hm : (i, .int x) ∈ lv) (hn : i < nL) (k : hv_W G p l e R s m args below meth c nL Q n hp cells slots (pc + 3) (hv_s1 i (.int (x + Int32.ofInt z)) lv) st) : hv_W G p l e R s m args below meth c nL Q n hp cells slots pc lv st := by
  intro H locs ls h1 h2 h3 h4
  have hm' : (i, Value.int x) ∈ hv_l G lv := List.mem_map.mpr ⟨(i, .int x), hm, rfl⟩
  obtain ⟨k0, hk0⟩ := List.mem_iff_getElem?.mp hm'
  exact lv_iinc X.1 X.2.1 hd h4 hk0 rfl hn (hv_l_s1 G i (.int (x + Int32.ofInt z)) lv) (fun ls h4 => k H locs ls h1 h2 h3 h4)
theorem hw_iadd (X : hv_X G p s m args c Ts own cc nL) {x y : Int32} (hd : decode cc pc = .ok (.iadd, 1))  (k : hv_W G p l e R s m args below meth c nL Q n hp cells slots (pc + 1) lv (.int (x + y) :: st)) : hv_W G p l e R s m args below meth c nL Q n hp cells slots pc lv (.int y :: .int x :: st) := fun H locs ls h1 h2 h3 h4 => lv_iadd X.1 X.2.1 hd (k H locs ls h1 h2 h3 h4)
theorem hw_isub (X : hv_X G p s m args c Ts own cc nL) {x y : Int32} (hd : decode cc pc = .ok (.isub, 1))  (k : hv_W G p l e R s m args below meth c nL Q n hp cells slots (pc + 1) lv (.int (x - y) :: st)) : hv_W G p l e R s m args below meth c nL Q n hp cells slots pc lv (.int y :: .int x :: st) := fun H locs ls h1 h2 h3 h4 => lv_isub X.1 X.2.1 hd (k H locs ls h1 h2 h3 h4)
theorem hw_imul (X : hv_X G p s m args c Ts own cc nL) {x y : Int32} (hd : decode cc pc = .ok (.imul, 1))  (k : hv_W G p l e R s m args below meth c nL Q n hp cells slots (pc + 1) lv (.int (x * y) :: st)) : hv_W G p l e R s m args below meth c nL Q n hp cells slots pc lv (.int y :: .int x :: st) := fun H locs ls h1 h2 h3 h4 => lv_imul X.1 X.2.1 hd (k H locs ls h1 h2 h3 h4)
theorem hw_iand (X : hv_X G p s m args c Ts own cc nL) {x y : Int32} (hd : decode cc pc = .ok (.iand, 1))  (k : hv_W G p l e R s m args below meth c nL Q n hp cells slots (pc + 1) lv (.int (x &&& y) :: st)) : hv_W G p l e R s m args below meth c nL Q n hp cells slots pc lv (.int y :: .int x :: st) := fun H locs ls h1 h2 h3 h4 => lv_iand X.1 X.2.1 hd (k H locs ls h1 h2 h3 h4)
theorem hw_ior (X : hv_X G p s m args c Ts own cc nL) {x y : Int32} (hd : decode cc pc = .ok (.ior, 1))  (k : hv_W G p l e R s m args below meth c nL Q n hp cells slots (pc + 1) lv (.int (x ||| y) :: st)) : hv_W G p l e R s m args below meth c nL Q n hp cells slots pc lv (.int y :: .int x :: st) := fun H locs ls h1 h2 h3 h4 => lv_ior X.1 X.2.1 hd (k H locs ls h1 h2 h3 h4)
theorem hw_ixor (X : hv_X G p s m args c Ts own cc nL) {x y : Int32} (hd : decode cc pc = .ok (.ixor, 1))  (k : hv_W G p l e R s m args below meth c nL Q n hp cells slots (pc + 1) lv (.int (x ^^^ y) :: st)) : hv_W G p l e R s m args below meth c nL Q n hp cells slots pc lv (.int y :: .int x :: st) := fun H locs ls h1 h2 h3 h4 => lv_ixor X.1 X.2.1 hd (k H locs ls h1 h2 h3 h4)
theorem hw_idiv (X : hv_X G p s m args c Ts own cc nL) {x y : Int32} (hd : decode cc pc = .ok (.idiv, 1)) (hne : ¬ y = 0) (k : hv_W G p l e R s m args below meth c nL Q n hp cells slots (pc + 1) lv (.int (x / y) :: st)) : hv_W G p l e R s m args below meth c nL Q n hp cells slots pc lv (.int y :: .int x :: st) := fun H locs ls h1 h2 h3 h4 => lv_idiv X.1 X.2.1 hd hne (k H locs ls h1 h2 h3 h4)
theorem hw_irem (X : hv_X G p s m args c Ts own cc nL) {x y : Int32} (hd : decode cc pc = .ok (.irem, 1)) (hne : ¬ y = 0) (k : hv_W G p l e R s m args below meth c nL Q n hp cells slots (pc + 1) lv (.int (x - x / y * y) :: st)) : hv_W G p l e R s m args below meth c nL Q n hp cells slots pc lv (.int y :: .int x :: st) := fun H locs ls h1 h2 h3 h4 => lv_irem X.1 X.2.1 hd hne (k H locs ls h1 h2 h3 h4)
theorem hw_ishl (X : hv_X G p s m args c Ts own cc nL) {x y : Int32} (hd : decode cc pc = .ok (.ishl, 1))  (k : hv_W G p l e R s m args below meth c nL Q n hp cells slots (pc + 1) lv (.int (x <<< (y &&& 31)) :: st)) : hv_W G p l e R s m args below meth c nL Q n hp cells slots pc lv (.int y :: .int x :: st) := fun H locs ls h1 h2 h3 h4 => lv_ishl X.1 X.2.1 hd (k H locs ls h1 h2 h3 h4)
theorem hw_ishr (X : hv_X G p s m args c Ts own cc nL) {x y : Int32} (hd : decode cc pc = .ok (.ishr, 1))  (k : hv_W G p l e R s m args below meth c nL Q n hp cells slots (pc + 1) lv (.int (x >>> (y &&& 31)) :: st)) : hv_W G p l e R s m args below meth c nL Q n hp cells slots pc lv (.int y :: .int x :: st) := fun H locs ls h1 h2 h3 h4 => lv_ishr X.1 X.2.1 hd (k H locs ls h1 h2 h3 h4)
theorem hw_iushr (X : hv_X G p s m args c Ts own cc nL) {x y : Int32} (hd : decode cc pc = .ok (.iushr, 1))  (k : hv_W G p l e R s m args below meth c nL Q n hp cells slots (pc + 1) lv (.int ((x.toUInt32 >>> (y.toUInt32 &&& Int32.toUInt32 31)).toInt32) :: st)) : hv_W G p l e R s m args below meth c nL Q n hp cells slots pc lv (.int y :: .int x :: st) := fun H locs ls h1 h2 h3 h4 => lv_iushr X.1 X.2.1 hd rfl (k H locs ls h1 h2 h3 h4)
theorem hw_ladd (X : hv_X G p s m args c Ts own cc nL) {x y : Int64} (hd : decode cc pc = .ok (.ladd, 1))  (k : hv_W G p l e R s m args below meth c nL Q n hp cells slots (pc + 1) lv (.long (x + y) :: st)) : hv_W G p l e R s m args below meth c nL Q n hp cells slots pc lv (.long y :: .long x :: st) := fun H locs ls h1 h2 h3 h4 => lv_ladd X.1 X.2.1 hd (k H locs ls h1 h2 h3 h4)
theorem hw_lsub (X : hv_X G p s m args c Ts own cc nL) {x y : Int64} (hd : decode cc pc = .ok (.lsub, 1))  (k : hv_W G p l e R s m args below meth c nL Q n hp cells slots (pc + 1) lv (.long (x - y) :: st)) : hv_W G p l e R s m args below meth c nL Q n hp cells slots pc lv (.long y :: .long x :: st) := fun H locs ls h1 h2 h3 h4 => lv_lsub X.1 X.2.1 hd (k H locs ls h1 h2 h3 h4)
theorem hw_lmul (X : hv_X G p s m args c Ts own cc nL) {x y : Int64} (hd : decode cc pc = .ok (.lmul, 1))  (k : hv_W G p l e R s m args below meth c nL Q n hp cells slots (pc + 1) lv (.long (x * y) :: st)) : hv_W G p l e R s m args below meth c nL Q n hp cells slots pc lv (.long y :: .long x :: st) := fun H locs ls h1 h2 h3 h4 => lv_lmul X.1 X.2.1 hd (k H locs ls h1 h2 h3 h4)
theorem hw_lor (X : hv_X G p s m args c Ts own cc nL) {x y : Int64} (hd : decode cc pc = .ok (.lor, 1))  (k : hv_W G p l e R s m args below meth c nL Q n hp cells slots (pc + 1) lv (.long (x ||| y) :: st)) : hv_W G p l e R s m args below meth c nL Q n hp cells slots pc lv (.long y :: .long x :: st) := fun H locs ls h1 h2 h3 h4 => lv_lor X.1 X.2.1 hd (k H locs ls h1 h2 h3 h4)
theorem hw_lshl (X : hv_X G p s m args c Ts own cc nL) {x : Int64} {y : Int32} (hd : decode cc pc = .ok (.lshl, 1))  (k : hv_W G p l e R s m args below meth c nL Q n hp cells slots (pc + 1) lv (.long (x <<< (y.toInt64 &&& 63)) :: st)) : hv_W G p l e R s m args below meth c nL Q n hp cells slots pc lv (.int y :: .long x :: st) := fun H locs ls h1 h2 h3 h4 => lv_lshl X.1 X.2.1 hd rfl (k H locs ls h1 h2 h3 h4)
theorem hw_lcmp (X : hv_X G p s m args c Ts own cc nL) {x y : Int64} (hd : decode cc pc = .ok (.lcmp, 1))  (k : hv_W G p l e R s m args below meth c nL Q n hp cells slots (pc + 1) lv (.int (lg_cmp x y) :: st)) : hv_W G p l e R s m args below meth c nL Q n hp cells slots pc lv (.long y :: .long x :: st) := fun H locs ls h1 h2 h3 h4 => W.lcmp X.1 X.2.1 hd (k H locs ls h1 h2 h3 h4)
theorem hw_i2l (X : hv_X G p s m args c Ts own cc nL) {x : Int32} (hd : decode cc pc = .ok (.i2l, 1))  (k : hv_W G p l e R s m args below meth c nL Q n hp cells slots (pc + 1) lv (.long x.toInt64 :: st)) : hv_W G p l e R s m args below meth c nL Q n hp cells slots pc lv (.int x :: st) := fun H locs ls h1 h2 h3 h4 => lv_i2l X.1 X.2.1 hd rfl (k H locs ls h1 h2 h3 h4)
theorem hw_l2i (X : hv_X G p s m args c Ts own cc nL) {x : Int64} (hd : decode cc pc = .ok (.l2i, 1))  (k : hv_W G p l e R s m args below meth c nL Q n hp cells slots (pc + 1) lv (.int x.toInt32 :: st)) : hv_W G p l e R s m args below meth c nL Q n hp cells slots pc lv (.long x :: st) := fun H locs ls h1 h2 h3 h4 => lv_l2i X.1 X.2.1 hd rfl (k H locs ls h1 h2 h3 h4)
theorem hw_i2b (X : hv_X G p s m args c Ts own cc nL) {x : Int32} (hd : decode cc pc = .ok (.i2b, 1))  (k : hv_W G p l e R s m args below meth c nL Q n hp cells slots (pc + 1) lv (.int x.toInt8.toInt32 :: st)) : hv_W G p l e R s m args below meth c nL Q n hp cells slots pc lv (.int x :: st) := fun H locs ls h1 h2 h3 h4 => lv_i2b X.1 X.2.1 hd rfl (k H locs ls h1 h2 h3 h4)
theorem hw_i2c (X : hv_X G p s m args c Ts own cc nL) {x : Int32} (hd : decode cc pc = .ok (.i2c, 1))  (k : hv_W G p l e R s m args below meth c nL Q n hp cells slots (pc + 1) lv (.int (x.toUInt32 % 65536).toInt32 :: st)) : hv_W G p l e R s m args below meth c nL Q n hp cells slots pc lv (.int x :: st) := fun H locs ls h1 h2 h3 h4 => lv_i2c X.1 X.2.1 hd rfl (k H locs ls h1 h2 h3 h4)
theorem hw_iushrS (X : hv_X G p s m args c Ts own cc nL) {y : Int32} {j i : UInt32} (hd : decode cc pc = .ok (.iushr, 1)) (hv : G.2.1 i.toNat = ((G.2.1 j.toNat).toUInt32 >>> (y.toUInt32 &&& Int32.toUInt32 31)).toInt32) (k : hv_W G p l e R s m args below meth c nL Q n hp cells slots (pc + 1) lv (.float i :: st)) : hv_W G p l e R s m args below meth c nL Q n hp cells slots pc lv (.int y :: .float j :: st) := by
  intro H locs ls h1 h2 h3 h4
  have hk := k H locs ls h1 h2 h3 h4
  have e : hv_v G (.float i) = .int (((G.2.1 j.toNat).toUInt32 >>> (y.toUInt32 &&& Int32.toUInt32 31)).toInt32) := congrArg Value.int hv
  rw [List.map_cons, e] at hk
  exact lv_iushr X.1 X.2.1 hd rfl hk
theorem hw_ishrS (X : hv_X G p s m args c Ts own cc nL) {y : Int32} {j i : UInt32} (hd : decode cc pc = .ok (.ishr, 1)) (hv : G.2.1 i.toNat = (G.2.1 j.toNat) >>> (y &&& 31)) (k : hv_W G p l e R s m args below meth c nL Q n hp cells slots (pc + 1) lv (.float i :: st)) : hv_W G p l e R s m args below meth c nL Q n hp cells slots pc lv (.int y :: .float j :: st) := by
  intro H locs ls h1 h2 h3 h4
  have hk := k H locs ls h1 h2 h3 h4
  have e : hv_v G (.float i) = .int ((G.2.1 j.toNat) >>> (y &&& 31)) := congrArg Value.int hv
  rw [List.map_cons, e] at hk
  exact lv_ishr X.1 X.2.1 hd hk
theorem hw_i2bS (X : hv_X G p s m args c Ts own cc nL) {j i : UInt32} (hd : decode cc pc = .ok (.i2b, 1)) (hv : G.2.1 i.toNat = (G.2.1 j.toNat).toInt8.toInt32) (k : hv_W G p l e R s m args below meth c nL Q n hp cells slots (pc + 1) lv (.float i :: st)) : hv_W G p l e R s m args below meth c nL Q n hp cells slots pc lv (.float j :: st) := by
  intro H locs ls h1 h2 h3 h4
  have hk := k H locs ls h1 h2 h3 h4
  have e : hv_v G (.float i) = .int (G.2.1 j.toNat).toInt8.toInt32 := congrArg Value.int hv
  rw [List.map_cons, e] at hk
  exact lv_i2b X.1 X.2.1 hd rfl hk
theorem hw_dup (X : hv_X G p s m args c Ts own cc nL) {v : Value} (hd : decode cc pc = .ok (.dup, 1)) (hc : v.category = 1) (k : hv_W G p l e R s m args below meth c nL Q n hp cells slots (pc + 1) lv (v :: v :: st)) : hv_W G p l e R s m args below meth c nL Q n hp cells slots pc lv (v :: st) := fun H locs ls h1 h2 h3 h4 => lv_dup X.1 X.2.1 hd ((hv_cat G v).trans hc) (k H locs ls h1 h2 h3 h4)
theorem hw_pop (X : hv_X G p s m args c Ts own cc nL) {v : Value} (hd : decode cc pc = .ok (.pop, 1)) (hc : v.category = 1) (k : hv_W G p l e R s m args below meth c nL Q n hp cells slots (pc + 1) lv st) : hv_W G p l e R s m args below meth c nL Q n hp cells slots pc lv (v :: st) := fun H locs ls h1 h2 h3 h4 => lv_pop X.1 X.2.1 hd ((hv_cat G v).trans hc) (k H locs ls h1 h2 h3 h4)
theorem hw_dup2 (X : hv_X G p s m args c Ts own cc nL) {v w : Value} (hd : decode cc pc = .ok (.dup2, 1)) (hc : v.category = 1) (hw : w.category = 1) (k : hv_W G p l e R s m args below meth c nL Q n hp cells slots (pc + 1) lv (v :: w :: v :: w :: st)) : hv_W G p l e R s m args below meth c nL Q n hp cells slots pc lv (v :: w :: st) := fun H locs ls h1 h2 h3 h4 => lv_dup2_11 X.1 X.2.1 hd ((hv_cat G v).trans hc) ((hv_cat G w).trans hw) (k H locs ls h1 h2 h3 h4)
theorem hw_if_eq (X : hv_X G p s m args c Ts own cc nL) {x : Int32} {off : Int} {tgt : Nat} (hd : decode cc pc = .ok (.ifCond .eq off, 3)) (ht : (pc : Int) + off = (tgt : Int)) (kt : x = 0 → hv_W G p l e R s m args below meth c nL Q n hp cells slots tgt lv st) (kf : ¬ x = 0 → hv_W G p l e R s m args below meth c nL Q n hp cells slots (pc + 3) lv st) : hv_W G p l e R s m args below meth c nL Q n hp cells slots pc lv (.int x :: st) := fun H locs ls h1 h2 h3 h4 => lv_if_eq X.1 X.2.1 hd ht (fun q => kt q H locs ls h1 h2 h3 h4) (fun q => kf q H locs ls h1 h2 h3 h4)
theorem hw_ifS_eq (X : hv_X G p s m args c Ts own cc nL) {j : UInt32} {x : Int32} {off : Int} {tgt : Nat} (hd : decode cc pc = .ok (.ifCond .eq off, 3)) (ht : (pc : Int) + off = (tgt : Int)) (hj : G.2.1 j.toNat = x) (kt : x = 0 → hv_W G p l e R s m args below meth c nL Q n hp cells slots tgt lv st) (kf : ¬ x = 0 → hv_W G p l e R s m args below meth c nL Q n hp cells slots (pc + 3) lv st) : hv_W G p l e R s m args below meth c nL Q n hp cells slots pc lv (.float j :: st) := by
  subst hj
  exact fun H locs ls h1 h2 h3 h4 => lv_if_eq X.1 X.2.1 hd ht (fun q => kt q H locs ls h1 h2 h3 h4) (fun q => kf q H locs ls h1 h2 h3 h4)
theorem hw_icmp_eq (X : hv_X G p s m args c Ts own cc nL) {x y : Int32} {off : Int} {tgt : Nat} (hd : decode cc pc = .ok (.if_icmp .eq off, 3)) (ht : (pc : Int) + off = (tgt : Int)) (kt : x = y → hv_W G p l e R s m args below meth c nL Q n hp cells slots tgt lv st) (kf : ¬ x = y → hv_W G p l e R s m args below meth c nL Q n hp cells slots (pc + 3) lv st) : hv_W G p l e R s m args below meth c nL Q n hp cells slots pc lv (.int y :: .int x :: st) := fun H locs ls h1 h2 h3 h4 => lv_icmp_eq X.1 X.2.1 hd ht (fun q => kt q H locs ls h1 h2 h3 h4) (fun q => kf q H locs ls h1 h2 h3 h4)
theorem hw_icmpSI_eq (X : hv_X G p s m args c Ts own cc nL) {jx : UInt32} {x y : Int32} {off : Int} {tgt : Nat} (hd : decode cc pc = .ok (.if_icmp .eq off, 3)) (ht : (pc : Int) + off = (tgt : Int)) (hj : G.2.1 jx.toNat = x) (kt : x = y → hv_W G p l e R s m args below meth c nL Q n hp cells slots tgt lv st) (kf : ¬ x = y → hv_W G p l e R s m args below meth c nL Q n hp cells slots (pc + 3) lv st) : hv_W G p l e R s m args below meth c nL Q n hp cells slots pc lv (.int y :: .float jx :: st) := by
  subst hj
  exact fun H locs ls h1 h2 h3 h4 => lv_icmp_eq X.1 X.2.1 hd ht (fun q => kt q H locs ls h1 h2 h3 h4) (fun q => kf q H locs ls h1 h2 h3 h4)
theorem hw_icmpIS_eq (X : hv_X G p s m args c Ts own cc nL) {jy : UInt32} {x y : Int32} {off : Int} {tgt : Nat} (hd : decode cc pc = .ok (.if_icmp .eq off, 3)) (ht : (pc : Int) + off = (tgt : Int)) (hj : G.2.1 jy.toNat = y) (kt : x = y → hv_W G p l e R s m args below meth c nL Q n hp cells slots tgt lv st) (kf : ¬ x = y → hv_W G p l e R s m args below meth c nL Q n hp cells slots (pc + 3) lv st) : hv_W G p l e R s m args below meth c nL Q n hp cells slots pc lv (.float jy :: .int x :: st) := by
  subst hj
  exact fun H locs ls h1 h2 h3 h4 => lv_icmp_eq X.1 X.2.1 hd ht (fun q => kt q H locs ls h1 h2 h3 h4) (fun q => kf q H locs ls h1 h2 h3 h4)
theorem hw_if_ne (X : hv_X G p s m args c Ts own cc nL) {x : Int32} {off : Int} {tgt : Nat} (hd : decode cc pc = .ok (.ifCond .ne off, 3)) (ht : (pc : Int) + off = (tgt : Int)) (kt : ¬ x = 0 → hv_W G p l e R s m args below meth c nL Q n hp cells slots tgt lv st) (kf : x = 0 → hv_W G p l e R s m args below meth c nL Q n hp cells slots (pc + 3) lv st) : hv_W G p l e R s m args below meth c nL Q n hp cells slots pc lv (.int x :: st) := fun H locs ls h1 h2 h3 h4 => lv_if_ne X.1 X.2.1 hd ht (fun q => kt q H locs ls h1 h2 h3 h4) (fun q => kf q H locs ls h1 h2 h3 h4)
theorem hw_ifS_ne (X : hv_X G p s m args c Ts own cc nL) {j : UInt32} {x : Int32} {off : Int} {tgt : Nat} (hd : decode cc pc = .ok (.ifCond .ne off, 3)) (ht : (pc : Int) + off = (tgt : Int)) (hj : G.2.1 j.toNat = x) (kt : ¬ x = 0 → hv_W G p l e R s m args below meth c nL Q n hp cells slots tgt lv st) (kf : x = 0 → hv_W G p l e R s m args below meth c nL Q n hp cells slots (pc + 3) lv st) : hv_W G p l e R s m args below meth c nL Q n hp cells slots pc lv (.float j :: st) := by
  subst hj
  exact fun H locs ls h1 h2 h3 h4 => lv_if_ne X.1 X.2.1 hd ht (fun q => kt q H locs ls h1 h2 h3 h4) (fun q => kf q H locs ls h1 h2 h3 h4)
theorem hw_icmp_ne (X : hv_X G p s m args c Ts own cc nL) {x y : Int32} {off : Int} {tgt : Nat} (hd : decode cc pc = .ok (.if_icmp .ne off, 3)) (ht : (pc : Int) + off = (tgt : Int)) (kt : ¬ x = y → hv_W G p l e R s m args below meth c nL Q n hp cells slots tgt lv st) (kf : x = y → hv_W G p l e R s m args below meth c nL Q n hp cells slots (pc + 3) lv st) : hv_W G p l e R s m args below meth c nL Q n hp cells slots pc lv (.int y :: .int x :: st) := fun H locs ls h1 h2 h3 h4 => lv_icmp_ne X.1 X.2.1 hd ht (fun q => kt q H locs ls h1 h2 h3 h4) (fun q => kf q H locs ls h1 h2 h3 h4)
theorem hw_icmpSI_ne (X : hv_X G p s m args c Ts own cc nL) {jx : UInt32} {x y : Int32} {off : Int} {tgt : Nat} (hd : decode cc pc = .ok (.if_icmp .ne off, 3)) (ht : (pc : Int) + off = (tgt : Int)) (hj : G.2.1 jx.toNat = x) (kt : ¬ x = y → hv_W G p l e R s m args below meth c nL Q n hp cells slots tgt lv st) (kf : x = y → hv_W G p l e R s m args below meth c nL Q n hp cells slots (pc + 3) lv st) : hv_W G p l e R s m args below meth c nL Q n hp cells slots pc lv (.int y :: .float jx :: st) := by
  subst hj
  exact fun H locs ls h1 h2 h3 h4 => lv_icmp_ne X.1 X.2.1 hd ht (fun q => kt q H locs ls h1 h2 h3 h4) (fun q => kf q H locs ls h1 h2 h3 h4)
theorem hw_icmpIS_ne (X : hv_X G p s m args c Ts own cc nL) {jy : UInt32} {x y : Int32} {off : Int} {tgt : Nat} (hd : decode cc pc = .ok (.if_icmp .ne off, 3)) (ht : (pc : Int) + off = (tgt : Int)) (hj : G.2.1 jy.toNat = y) (kt : ¬ x = y → hv_W G p l e R s m args below meth c nL Q n hp cells slots tgt lv st) (kf : x = y → hv_W G p l e R s m args below meth c nL Q n hp cells slots (pc + 3) lv st) : hv_W G p l e R s m args below meth c nL Q n hp cells slots pc lv (.float jy :: .int x :: st) := by
  subst hj
  exact fun H locs ls h1 h2 h3 h4 => lv_icmp_ne X.1 X.2.1 hd ht (fun q => kt q H locs ls h1 h2 h3 h4) (fun q => kf q H locs ls h1 h2 h3 h4)
theorem hw_if_lt (X : hv_X G p s m args c Ts own cc nL) {x : Int32} {off : Int} {tgt : Nat} (hd : decode cc pc = .ok (.ifCond .lt off, 3)) (ht : (pc : Int) + off = (tgt : Int)) (kt : x < 0 → hv_W G p l e R s m args below meth c nL Q n hp cells slots tgt lv st) (kf : ¬ x < 0 → hv_W G p l e R s m args below meth c nL Q n hp cells slots (pc + 3) lv st) : hv_W G p l e R s m args below meth c nL Q n hp cells slots pc lv (.int x :: st) := fun H locs ls h1 h2 h3 h4 => lv_if_lt X.1 X.2.1 hd ht (fun q => kt q H locs ls h1 h2 h3 h4) (fun q => kf q H locs ls h1 h2 h3 h4)
theorem hw_ifS_lt (X : hv_X G p s m args c Ts own cc nL) {j : UInt32} {x : Int32} {off : Int} {tgt : Nat} (hd : decode cc pc = .ok (.ifCond .lt off, 3)) (ht : (pc : Int) + off = (tgt : Int)) (hj : G.2.1 j.toNat = x) (kt : x < 0 → hv_W G p l e R s m args below meth c nL Q n hp cells slots tgt lv st) (kf : ¬ x < 0 → hv_W G p l e R s m args below meth c nL Q n hp cells slots (pc + 3) lv st) : hv_W G p l e R s m args below meth c nL Q n hp cells slots pc lv (.float j :: st) := by
  subst hj
  exact fun H locs ls h1 h2 h3 h4 => lv_if_lt X.1 X.2.1 hd ht (fun q => kt q H locs ls h1 h2 h3 h4) (fun q => kf q H locs ls h1 h2 h3 h4)
theorem hw_icmp_lt (X : hv_X G p s m args c Ts own cc nL) {x y : Int32} {off : Int} {tgt : Nat} (hd : decode cc pc = .ok (.if_icmp .lt off, 3)) (ht : (pc : Int) + off = (tgt : Int)) (kt : x < y → hv_W G p l e R s m args below meth c nL Q n hp cells slots tgt lv st) (kf : ¬ x < y → hv_W G p l e R s m args below meth c nL Q n hp cells slots (pc + 3) lv st) : hv_W G p l e R s m args below meth c nL Q n hp cells slots pc lv (.int y :: .int x :: st) := fun H locs ls h1 h2 h3 h4 => lv_icmp_lt X.1 X.2.1 hd ht (fun q => kt q H locs ls h1 h2 h3 h4) (fun q => kf q H locs ls h1 h2 h3 h4)
theorem hw_icmpSI_lt (X : hv_X G p s m args c Ts own cc nL) {jx : UInt32} {x y : Int32} {off : Int} {tgt : Nat} (hd : decode cc pc = .ok (.if_icmp .lt off, 3)) (ht : (pc : Int) + off = (tgt : Int)) (hj : G.2.1 jx.toNat = x) (kt : x < y → hv_W G p l e R s m args below meth c nL Q n hp cells slots tgt lv st) (kf : ¬ x < y → hv_W G p l e R s m args below meth c nL Q n hp cells slots (pc + 3) lv st) : hv_W G p l e R s m args below meth c nL Q n hp cells slots pc lv (.int y :: .float jx :: st) := by
  subst hj
  exact fun H locs ls h1 h2 h3 h4 => lv_icmp_lt X.1 X.2.1 hd ht (fun q => kt q H locs ls h1 h2 h3 h4) (fun q => kf q H locs ls h1 h2 h3 h4)
theorem hw_icmpIS_lt (X : hv_X G p s m args c Ts own cc nL) {jy : UInt32} {x y : Int32} {off : Int} {tgt : Nat} (hd : decode cc pc = .ok (.if_icmp .lt off, 3)) (ht : (pc : Int) + off = (tgt : Int)) (hj : G.2.1 jy.toNat = y) (kt : x < y → hv_W G p l e R s m args below meth c nL Q n hp cells slots tgt lv st) (kf : ¬ x < y → hv_W G p l e R s m args below meth c nL Q n hp cells slots (pc + 3) lv st) : hv_W G p l e R s m args below meth c nL Q n hp cells slots pc lv (.float jy :: .int x :: st) := by
  subst hj
  exact fun H locs ls h1 h2 h3 h4 => lv_icmp_lt X.1 X.2.1 hd ht (fun q => kt q H locs ls h1 h2 h3 h4) (fun q => kf q H locs ls h1 h2 h3 h4)
theorem hw_if_ge (X : hv_X G p s m args c Ts own cc nL) {x : Int32} {off : Int} {tgt : Nat} (hd : decode cc pc = .ok (.ifCond .ge off, 3)) (ht : (pc : Int) + off = (tgt : Int)) (kt : 0 ≤ x → hv_W G p l e R s m args below meth c nL Q n hp cells slots tgt lv st) (kf : ¬ 0 ≤ x → hv_W G p l e R s m args below meth c nL Q n hp cells slots (pc + 3) lv st) : hv_W G p l e R s m args below meth c nL Q n hp cells slots pc lv (.int x :: st) := fun H locs ls h1 h2 h3 h4 => lv_if_ge X.1 X.2.1 hd ht (fun q => kt q H locs ls h1 h2 h3 h4) (fun q => kf q H locs ls h1 h2 h3 h4)
theorem hw_ifS_ge (X : hv_X G p s m args c Ts own cc nL) {j : UInt32} {x : Int32} {off : Int} {tgt : Nat} (hd : decode cc pc = .ok (.ifCond .ge off, 3)) (ht : (pc : Int) + off = (tgt : Int)) (hj : G.2.1 j.toNat = x) (kt : 0 ≤ x → hv_W G p l e R s m args below meth c nL Q n hp cells slots tgt lv st) (kf : ¬ 0 ≤ x → hv_W G p l e R s m args below meth c nL Q n hp cells slots (pc + 3) lv st) : hv_W G p l e R s m args below meth c nL Q n hp cells slots pc lv (.float j :: st) := by
  subst hj
  exact fun H locs ls h1 h2 h3 h4 => lv_if_ge X.1 X.2.1 hd ht (fun q => kt q H locs ls h1 h2 h3 h4) (fun q => kf q H locs ls h1 h2 h3 h4)
theorem hw_icmp_ge (X : hv_X G p s m args c Ts own cc nL) {x y : Int32} {off : Int} {tgt : Nat} (hd : decode cc pc = .ok (.if_icmp .ge off, 3)) (ht : (pc : Int) + off = (tgt : Int)) (kt : y ≤ x → hv_W G p l e R s m args below meth c nL Q n hp cells slots tgt lv st) (kf : ¬ y ≤ x → hv_W G p l e R s m args below meth c nL Q n hp cells slots (pc + 3) lv st) : hv_W G p l e R s m args below meth c nL Q n hp cells slots pc lv (.int y :: .int x :: st) := fun H locs ls h1 h2 h3 h4 => lv_icmp_ge X.1 X.2.1 hd ht (fun q => kt q H locs ls h1 h2 h3 h4) (fun q => kf q H locs ls h1 h2 h3 h4)
theorem hw_icmpSI_ge (X : hv_X G p s m args c Ts own cc nL) {jx : UInt32} {x y : Int32} {off : Int} {tgt : Nat} (hd : decode cc pc = .ok (.if_icmp .ge off, 3)) (ht : (pc : Int) + off = (tgt : Int)) (hj : G.2.1 jx.toNat = x) (kt : y ≤ x → hv_W G p l e R s m args below meth c nL Q n hp cells slots tgt lv st) (kf : ¬ y ≤ x → hv_W G p l e R s m args below meth c nL Q n hp cells slots (pc + 3) lv st) : hv_W G p l e R s m args below meth c nL Q n hp cells slots pc lv (.int y :: .float jx :: st) := by
  subst hj
  exact fun H locs ls h1 h2 h3 h4 => lv_icmp_ge X.1 X.2.1 hd ht (fun q => kt q H locs ls h1 h2 h3 h4) (fun q => kf q H locs ls h1 h2 h3 h4)
theorem hw_icmpIS_ge (X : hv_X G p s m args c Ts own cc nL) {jy : UInt32} {x y : Int32} {off : Int} {tgt : Nat} (hd : decode cc pc = .ok (.if_icmp .ge off, 3)) (ht : (pc : Int) + off = (tgt : Int)) (hj : G.2.1 jy.toNat = y) (kt : y ≤ x → hv_W G p l e R s m args below meth c nL Q n hp cells slots tgt lv st) (kf : ¬ y ≤ x → hv_W G p l e R s m args below meth c nL Q n hp cells slots (pc + 3) lv st) : hv_W G p l e R s m args below meth c nL Q n hp cells slots pc lv (.float jy :: .int x :: st) := by
  subst hj
  exact fun H locs ls h1 h2 h3 h4 => lv_icmp_ge X.1 X.2.1 hd ht (fun q => kt q H locs ls h1 h2 h3 h4) (fun q => kf q H locs ls h1 h2 h3 h4)
theorem hw_if_gt (X : hv_X G p s m args c Ts own cc nL) {x : Int32} {off : Int} {tgt : Nat} (hd : decode cc pc = .ok (.ifCond .gt off, 3)) (ht : (pc : Int) + off = (tgt : Int)) (kt : 0 < x → hv_W G p l e R s m args below meth c nL Q n hp cells slots tgt lv st) (kf : ¬ 0 < x → hv_W G p l e R s m args below meth c nL Q n hp cells slots (pc + 3) lv st) : hv_W G p l e R s m args below meth c nL Q n hp cells slots pc lv (.int x :: st) := fun H locs ls h1 h2 h3 h4 => lv_if_gt X.1 X.2.1 hd ht (fun q => kt q H locs ls h1 h2 h3 h4) (fun q => kf q H locs ls h1 h2 h3 h4)
theorem hw_ifS_gt (X : hv_X G p s m args c Ts own cc nL) {j : UInt32} {x : Int32} {off : Int} {tgt : Nat} (hd : decode cc pc = .ok (.ifCond .gt off, 3)) (ht : (pc : Int) + off = (tgt : Int)) (hj : G.2.1 j.toNat = x) (kt : 0 < x → hv_W G p l e R s m args below meth c nL Q n hp cells slots tgt lv st) (kf : ¬ 0 < x → hv_W G p l e R s m args below meth c nL Q n hp cells slots (pc + 3) lv st) : hv_W G p l e R s m args below meth c nL Q n hp cells slots pc lv (.float j :: st) := by
  subst hj
  exact fun H locs ls h1 h2 h3 h4 => lv_if_gt X.1 X.2.1 hd ht (fun q => kt q H locs ls h1 h2 h3 h4) (fun q => kf q H locs ls h1 h2 h3 h4)
theorem hw_icmp_gt (X : hv_X G p s m args c Ts own cc nL) {x y : Int32} {off : Int} {tgt : Nat} (hd : decode cc pc = .ok (.if_icmp .gt off, 3)) (ht : (pc : Int) + off = (tgt : Int)) (kt : y < x → hv_W G p l e R s m args below meth c nL Q n hp cells slots tgt lv st) (kf : ¬ y < x → hv_W G p l e R s m args below meth c nL Q n hp cells slots (pc + 3) lv st) : hv_W G p l e R s m args below meth c nL Q n hp cells slots pc lv (.int y :: .int x :: st) := fun H locs ls h1 h2 h3 h4 => lv_icmp_gt X.1 X.2.1 hd ht (fun q => kt q H locs ls h1 h2 h3 h4) (fun q => kf q H locs ls h1 h2 h3 h4)
theorem hw_icmpSI_gt (X : hv_X G p s m args c Ts own cc nL) {jx : UInt32} {x y : Int32} {off : Int} {tgt : Nat} (hd : decode cc pc = .ok (.if_icmp .gt off, 3)) (ht : (pc : Int) + off = (tgt : Int)) (hj : G.2.1 jx.toNat = x) (kt : y < x → hv_W G p l e R s m args below meth c nL Q n hp cells slots tgt lv st) (kf : ¬ y < x → hv_W G p l e R s m args below meth c nL Q n hp cells slots (pc + 3) lv st) : hv_W G p l e R s m args below meth c nL Q n hp cells slots pc lv (.int y :: .float jx :: st) := by
  subst hj
  exact fun H locs ls h1 h2 h3 h4 => lv_icmp_gt X.1 X.2.1 hd ht (fun q => kt q H locs ls h1 h2 h3 h4) (fun q => kf q H locs ls h1 h2 h3 h4)
theorem hw_icmpIS_gt (X : hv_X G p s m args c Ts own cc nL) {jy : UInt32} {x y : Int32} {off : Int} {tgt : Nat} (hd : decode cc pc = .ok (.if_icmp .gt off, 3)) (ht : (pc : Int) + off = (tgt : Int)) (hj : G.2.1 jy.toNat = y) (kt : y < x → hv_W G p l e R s m args below meth c nL Q n hp cells slots tgt lv st) (kf : ¬ y < x → hv_W G p l e R s m args below meth c nL Q n hp cells slots (pc + 3) lv st) : hv_W G p l e R s m args below meth c nL Q n hp cells slots pc lv (.float jy :: .int x :: st) := by
  subst hj
  exact fun H locs ls h1 h2 h3 h4 => lv_icmp_gt X.1 X.2.1 hd ht (fun q => kt q H locs ls h1 h2 h3 h4) (fun q => kf q H locs ls h1 h2 h3 h4)
theorem hw_if_le (X : hv_X G p s m args c Ts own cc nL) {x : Int32} {off : Int} {tgt : Nat} (hd : decode cc pc = .ok (.ifCond .le off, 3)) (ht : (pc : Int) + off = (tgt : Int)) (kt : x ≤ 0 → hv_W G p l e R s m args below meth c nL Q n hp cells slots tgt lv st) (kf : ¬ x ≤ 0 → hv_W G p l e R s m args below meth c nL Q n hp cells slots (pc + 3) lv st) : hv_W G p l e R s m args below meth c nL Q n hp cells slots pc lv (.int x :: st) := fun H locs ls h1 h2 h3 h4 => lv_if_le X.1 X.2.1 hd ht (fun q => kt q H locs ls h1 h2 h3 h4) (fun q => kf q H locs ls h1 h2 h3 h4)
theorem hw_ifS_le (X : hv_X G p s m args c Ts own cc nL) {j : UInt32} {x : Int32} {off : Int} {tgt : Nat} (hd : decode cc pc = .ok (.ifCond .le off, 3)) (ht : (pc : Int) + off = (tgt : Int)) (hj : G.2.1 j.toNat = x) (kt : x ≤ 0 → hv_W G p l e R s m args below meth c nL Q n hp cells slots tgt lv st) (kf : ¬ x ≤ 0 → hv_W G p l e R s m args below meth c nL Q n hp cells slots (pc + 3) lv st) : hv_W G p l e R s m args below meth c nL Q n hp cells slots pc lv (.float j :: st) := by
  subst hj
  exact fun H locs ls h1 h2 h3 h4 => lv_if_le X.1 X.2.1 hd ht (fun q => kt q H locs ls h1 h2 h3 h4) (fun q => kf q H locs ls h1 h2 h3 h4)
theorem hw_icmp_le (X : hv_X G p s m args c Ts own cc nL) {x y : Int32} {off : Int} {tgt : Nat} (hd : decode cc pc = .ok (.if_icmp .le off, 3)) (ht : (pc : Int) + off = (tgt : Int)) (kt : x ≤ y → hv_W G p l e R s m args below meth c nL Q n hp cells slots tgt lv st) (kf : ¬ x ≤ y → hv_W G p l e R s m args below meth c nL Q n hp cells slots (pc + 3) lv st) : hv_W G p l e R s m args below meth c nL Q n hp cells slots pc lv (.int y :: .int x :: st) := fun H locs ls h1 h2 h3 h4 => lv_icmp_le X.1 X.2.1 hd ht (fun q => kt q H locs ls h1 h2 h3 h4) (fun q => kf q H locs ls h1 h2 h3 h4)
theorem hw_icmpSI_le (X : hv_X G p s m args c Ts own cc nL) {jx : UInt32} {x y : Int32} {off : Int} {tgt : Nat} (hd : decode cc pc = .ok (.if_icmp .le off, 3)) (ht : (pc : Int) + off = (tgt : Int)) (hj : G.2.1 jx.toNat = x) (kt : x ≤ y → hv_W G p l e R s m args below meth c nL Q n hp cells slots tgt lv st) (kf : ¬ x ≤ y → hv_W G p l e R s m args below meth c nL Q n hp cells slots (pc + 3) lv st) : hv_W G p l e R s m args below meth c nL Q n hp cells slots pc lv (.int y :: .float jx :: st) := by
  subst hj
  exact fun H locs ls h1 h2 h3 h4 => lv_icmp_le X.1 X.2.1 hd ht (fun q => kt q H locs ls h1 h2 h3 h4) (fun q => kf q H locs ls h1 h2 h3 h4)
theorem hw_icmpIS_le (X : hv_X G p s m args c Ts own cc nL) {jy : UInt32} {x y : Int32} {off : Int} {tgt : Nat} (hd : decode cc pc = .ok (.if_icmp .le off, 3)) (ht : (pc : Int) + off = (tgt : Int)) (hj : G.2.1 jy.toNat = y) (kt : x ≤ y → hv_W G p l e R s m args below meth c nL Q n hp cells slots tgt lv st) (kf : ¬ x ≤ y → hv_W G p l e R s m args below meth c nL Q n hp cells slots (pc + 3) lv st) : hv_W G p l e R s m args below meth c nL Q n hp cells slots pc lv (.float jy :: .int x :: st) := by
  subst hj
  exact fun H locs ls h1 h2 h3 h4 => lv_icmp_le X.1 X.2.1 hd ht (fun q => kt q H locs ls h1 h2 h3 h4) (fun q => kf q H locs ls h1 h2 h3 h4)
theorem hw_goto (X : hv_X G p s m args c Ts own cc nL) {off : Int} {tgt : Nat} (hd : decode cc pc = .ok (.goto off, 3)) (ht : (pc : Int) + off = (tgt : Int)) (k : hv_W G p l e R s m args below meth c nL Q n hp cells slots tgt lv st) : hv_W G p l e R s m args below meth c nL Q n hp cells slots pc lv st := fun H locs ls h1 h2 h3 h4 => lv_goto X.1 X.2.1 hd ht (k H locs ls h1 h2 h3 h4)
theorem hw_tableOut (X : hv_X G p s m args c Ts own cc nL) {dflt lo hi : Int} {offs : Array Int} {len : Nat} {x : Int32} {tgt : Nat} (hd : decode cc pc = .ok (.tableswitch dflt lo hi offs, len)) (h : x.toInt < lo ∨ hi < x.toInt) (ht : (pc : Int) + dflt = (tgt : Int)) (k : hv_W G p l e R s m args below meth c nL Q n hp cells slots tgt lv st) : hv_W G p l e R s m args below meth c nL Q n hp cells slots pc lv (.int x :: st) := fun H locs ls h1 h2 h3 h4 => lv_tableOut X.1 X.2.1 hd h ht (k H locs ls h1 h2 h3 h4)
theorem hw_tableIn (X : hv_X G p s m args c Ts own cc nL) {dflt lo hi : Int} {offs : Array Int} {len : Nat} {x : Int32} {off : Int} {tgt : Nat} (hd : decode cc pc = .ok (.tableswitch dflt lo hi offs, len)) (g1 : ¬ x.toInt < lo) (g2 : ¬ hi < x.toInt) (ho : offs[(x.toInt - lo).toNat]? = some off) (ht : (pc : Int) + off = (tgt : Int)) (k : hv_W G p l e R s m args below meth c nL Q n hp cells slots tgt lv st) : hv_W G p l e R s m args below meth c nL Q n hp cells slots pc lv (.int x :: st) := fun H locs ls h1 h2 h3 h4 => lv_tableIn X.1 X.2.1 hd g1 g2 ho ht (k H locs ls h1 h2 h3 h4)
theorem hw_tableOutS (X : hv_X G p s m args c Ts own cc nL) {dflt lo hi : Int} {offs : Array Int} {len : Nat} {j : UInt32} {tgt : Nat} (hd : decode cc pc = .ok (.tableswitch dflt lo hi offs, len)) (h : (G.2.1 j.toNat).toInt < lo ∨ hi < (G.2.1 j.toNat).toInt) (ht : (pc : Int) + dflt = (tgt : Int)) (k : hv_W G p l e R s m args below meth c nL Q n hp cells slots tgt lv st) : hv_W G p l e R s m args below meth c nL Q n hp cells slots pc lv (.float j :: st) := fun H locs ls h1 h2 h3 h4 => lv_tableOut X.1 X.2.1 hd h ht (k H locs ls h1 h2 h3 h4)
end HW
end
section
section HWH
variable {G : hv_G} {p : Program} {l : Launch} {e : Env} {R : Room} {s : State} {m : MethodId} {args : Array Value} {below : List Frame} {meth : Method} {c : Code} {nL : Nat} {Q : State → Prop} {n : Nat} {hp : hv_H} {cells slots pc : Nat} {lv : List (Nat × Value)} {st : List Value} {Ts : List Cond} {own : String} {cc : ByteArray}
theorem hv_world {i ci : Nat} {f : Nat → Value} {H : Heap} {C : String} {T : u_T} {N : Nat} (h : hv_at G i (.inr (ci, f)) H) (hcl : vwCl[ci]? = some (C, T, N)) : va_P G.2.2.1 vwCl [(G.1.1 + i, .inr (ci, (List.range N).map (fun k => hv_v G (f k))))] H := by
  obtain ⟨r, h1, h2⟩ := h
  have hr : r = (C, T, N) := Option.some.inj (h1.symm.trans hcl)
  subst hr
  intro k q hq
  have hk : k < 1 := (List.getElem?_eq_some_iff.mp hq).1
  rw [show k = 0 by omega] at hq
  cases hq
  exact ⟨_, hcl, h2.to (fun j hj => by
    have hj' : j < N := hj
    show hv_v G (f j) = vp_V _ j
    unfold vp_V
    rw [List.getD_eq_getElem?_getD]
    simp [hj'])⟩
theorem hv_fld {N k : Nat} (f : Nat → Value) (hk : k < N) : ((List.range N).map (fun k => hv_v G (f k)))[k]? = some (hv_v G (f k)) := by simp [hk]
theorem hw_get (X : hv_X G p s m args c Ts own cc nL) {ix ci kf i N : Nat} {C : String} {T : u_T} {f : Nat → Value} (hd : decode cc pc = .ok (.getfield ix, 3)) (hcl : vwCl[ci]? = some (C, T, N)) (hin : ∀ w ∈ u_ws C T N, w ∈ Ts) (hk : kf < N)
    (hl : Cond.fieldLink own ix (T kf).1 (T kf).2.1 (T kf).2.2.1 ∈ Ts ∨ ∃ host : String, Cond.fieldLinkNest own ix (T kf).1 (T kf).2.1 (T kf).2.2.1 host ∈ Ts) (hi : hp i = some (.inr (ci, f)))
    (k : hv_W G p l e R s m args below meth c nL Q n hp cells slots (pc + 3) lv (f kf :: st)) : hv_W G p l e R s m args below meth c nL Q n hp cells slots pc lv (.ref (i + 1) :: st) := by
  intro H locs ls h1 h2 h3 h4
  have hw := hv_world (h1.2 i _ hi) hcl
  obtain ⟨hx, hb, hml, hown, hts, hK, hB, hbB, hxK, hX⟩ := X
  rcases hl with hl | ⟨host, hl⟩
  · exact va_get hx hb hts hin hown hK hw 0 rfl hcl kf hk (hts _ hl) (fun _ h => h) (hv_fld f hk) hd (k H locs ls h1 h2 h3 h4)
  · exact va_getN hx hb hts hin hown hK hw 0 rfl hcl kf hk (hts _ hl) (fun _ h => h) (hv_fld f hk) hd (k H locs ls h1 h2 h3 h4)
theorem hv_locs {B : Nat} {locs : List Loc} {a k : Nat} (h3 : ∀ q ∈ locs, B ≤ q.base) (ha : B ≤ a) : ∀ q ∈ locs ++ [⟨a, k⟩], B ≤ q.base := by
  intro q hq
  rcases List.mem_append.mp hq with h | h
  · exact h3 q h
  · cases List.mem_singleton.mp h
    exact ha
theorem hv_low {B a : Nat} {H H1 Hs : Heap} (h2 : ∀ q : Nat, q < B → H[q]? = Hs[q]?) (oq : ∀ q : Nat, q ≠ a → H1[q]? = H[q]?) (ha : B ≤ a) : ∀ q : Nat, q < B → H1[q]? = Hs[q]? := fun q hq => (oq q (by omega)).trans (h2 q hq)
theorem hw_put (X : hv_X G p s m args c Ts own cc nL) {ix ci kf i N : Nat} {C : String} {T : u_T} {f : Nat → Value} {ty0 : Nat → FieldType} {v : Value} (hd : decode cc pc = .ok (.putfield ix, 3)) (hcl : vwCl[ci]? = some (C, T, N)) (hin : ∀ w ∈ u_ws C T N, w ∈ Ts) (hty : ∀ k, k < N → parseFieldDescriptor (T k).2.2.1 = some (ty0 k)) (hnm : ∀ a, a < N → ∀ b, b < N → a ≠ b → (T a).2.1 ≠ (T b).2.1) (hk : kf < N)
    (hl : (Cond.fieldLink own ix (T kf).1 (T kf).2.1 (T kf).2.2.1 ∈ Ts ∧ (T kf).2.2.2 = false) ∨ (∃ host : String, Cond.fieldLinkNest own ix (T kf).1 (T kf).2.1 (T kf).2.2.1 host ∈ Ts ∧ (T kf).2.2.2 = false) ∨ (Cond.fieldLink own ix (T kf).1 (T kf).2.1 (T kf).2.2.1 ∈ Ts ∧ (T kf).2.2.2 = true ∧ meth.name = "<init>" ∧ (T kf).1 = own))
    (hn : narrow (ty0 kf) (hv_v G v) = hv_v G v) (hf : fits (ty0 kf) (hv_v G v) = true) (hi : hp i = some (.inr (ci, f)))
    (k : hv_W G p l e R s m args below meth c nL Q n (hv_up hp i (.inr (ci, hv_uv f kf v))) cells slots (pc + 3) lv st) : hv_W G p l e R s m args below meth c nL Q n hp cells slots pc lv (v :: .ref (i + 1) :: st) := by
  intro H locs ls h1 h2 h3 h4
  obtain ⟨hx, hb, hml, hown, hts, hK, hB, hbB, hxK, hX⟩ := X
  have hap := va_apart (own := own) hts hin ty0 hty hnm hK hcl
  obtain ⟨r, g1, cell, q1, q2, q3, q4⟩ := h1.2 i _ hi
  have hr : r = (C, T, N) := Option.some.inj (g1.symm.trans hcl)
  subst hr
  obtain ⟨hS, hfc, kC, hkC, hkind⟩ := hK.1 ci _ hcl
  obtain ⟨cf, kf1, fi, f1, hfi, hsl⟩ := hS kf hk
  have hlay := hts _ (hin _ (u_in_lay hk))
  unfold u_lay at hlay
  have hst := (u_facts hfc hkC (u_lays hts hin hk) hfi).1
  have done : ∀ H' : Heap, H'[G.1.1 + i]? = some (cell.setSlot f1.slot (hv_v G v)) → H'.size = H.size → (∀ q : Nat, q ≠ G.1.1 + i → H'[q]? = H[q]?) → W p l e R s m args below meth c H' (locs ++ [⟨G.1.1 + i, f1.slot⟩]) cells slots Q (F0 m (pc + 3) ls (st.map (hv_v G))) := by
    intro H' e1 e2 e3
    refine k H' _ ls (h1.set ?_ e2 e3) (hv_low h2 e3 (Nat.le_add_right _ _)) (hv_locs h3 (Nat.le_add_right _ _)) h4
    refine ⟨_, hcl, ?_⟩
    rw [hv_v_uv]
    rw [hsl] at e1
    exact ⟨_, e1, q2, q3, t_set q4 hap hk (hv_v G v)⟩
  rcases hl with ⟨hl, hfin⟩ | ⟨host, hl, hfin⟩ | ⟨hl, hfin, hin2, hdecl⟩
  · rw [if_neg (by rw [hfin]; decide)] at hlay
    have h6 := u_store hfc hkC hkind hlay hfi (hty kf hk) hn hf
    exact W.putK hx hb (f := f1) ⟨hown, hts _ hl, ⟨_, _, _, hfi⟩, hst⟩ (by rw [q2]; exact h6) q1 q3 (by rw [hsl]; exact k2_hasslot (q4 kf hk)) rfl rfl hd done
  · rw [if_neg (by rw [hfin]; decide)] at hlay
    have h6 := u_store hfc hkC hkind hlay hfi (hty kf hk) hn hf
    exact va_WputK hx hb (f := f1) hown (hts _ hl) hfi hst (by rw [q2]; exact h6) q1 q3 (by rw [hsl]; exact k2_hasslot (q4 kf hk)) rfl rfl hd done
  · rw [if_pos hfin] at hlay
    have hcf : m.cls = cf := by
      obtain ⟨_, _, c', _, _, _, -, -, hf', -, -, -, hown2, -⟩ := Cond.laysFinal_spec hlay
      have e1 : c' = cf := by have := hfi.symm.trans hf'; simp at this; exact this.1.symm
      rw [hdecl] at hown2
      rw [← e1]; exact Option.some.inj (hown.symm.trans hown2)
    have h6 := u_fits hfc hkC hkind (Or.inr hlay) hfi (hty kf hk) hn hf
    exact W.putFinK hx hb hown (hts _ hl) hfi hst hcf hin2 (by rw [q2]; exact h6) q1 q3 (by rw [hsl]; exact k2_hasslot (q4 kf hk)) rfl rfl hd done
theorem hv_rd {cA : ClassId} {N : Nat} {f : Nat → Value} {j : Int32} (hin : vp_in j N) : ¬ (j < 0 ∨ (arrV cA N f).slots.size ≤ j.toNatClampNeg) ∧ (arrV cA N f).slots[j.toNatClampNeg]? = some (f j.toNatClampNeg) := by
  have hlt : j.toNatClampNeg < N := Nat.not_le.mp fun q => hin (Or.inr q)
  exact ⟨by rw [arrV_size]; exact hin, arrV_read _ _ hlt⟩
theorem hv_arr (hK : va_K G.2.2.1 vwCl (hv_tys G) s) {t : Nat} {ty : FieldType} (ht : hv_tyl[t]? = some ty) (N : Nat) (f : Nat → Value) : s.isArrayOf (arrV (G.2.2.2 t) N f) ty := (hK.2 t _ (hv_tys_at ht)).1 N f
theorem hw_iald (X : hv_X G p s m args c Ts own cc nL) {i N : Nat} {f : Nat → Value} {j : Int32} (hd : decode cc pc = .ok (.iaload, 1)) (hi : hp i = some (.inl (1, N, f))) (hin : vp_in j N)
    (k : hv_W G p l e R s m args below meth c nL Q n hp cells slots (pc + 1) lv (f j.toNatClampNeg :: st)) : hv_W G p l e R s m args below meth c nL Q n hp cells slots pc lv (.int j :: .ref (i + 1) :: st) := by
  intro H locs ls h1 h2 h3 h4
  obtain ⟨g1, g2⟩ := hv_rd (cA := G.2.2.2 1) (f := fun j => hv_v G (f j)) hin
  exact W.iald X.1 X.2.1 (h1.2 i _ hi) (hv_arr X.2.2.2.2.2.1 rfl N _) (fun q => by cases q) g1 g2 rfl rfl hd (k H locs ls h1 h2 h3 h4)
theorem hw_bald (X : hv_X G p s m args c Ts own cc nL) {i N : Nat} {f : Nat → Value} {j : Int32} (hd : decode cc pc = .ok (.baload, 1)) (hi : hp i = some (.inl (0, N, f))) (hin : vp_in j N)
    (k : hv_W G p l e R s m args below meth c nL Q n hp cells slots (pc + 1) lv (f j.toNatClampNeg :: st)) : hv_W G p l e R s m args below meth c nL Q n hp cells slots pc lv (.int j :: .ref (i + 1) :: st) := by
  intro H locs ls h1 h2 h3 h4
  obtain ⟨g1, g2⟩ := hv_rd (cA := G.2.2.2 0) (f := fun j => hv_v G (f j)) hin
  exact W.bald X.1 X.2.1 (h1.2 i _ hi) (hv_arr X.2.2.2.2.2.1 rfl N _) (fun q => by cases q) g1 g2 rfl rfl hd (k H locs ls h1 h2 h3 h4)
theorem hw_zald (X : hv_X G p s m args c Ts own cc nL) {i N : Nat} {f : Nat → Value} {j : Int32} (hd : decode cc pc = .ok (.baload, 1)) (hi : hp i = some (.inl (3, N, f))) (hin : vp_in j N)
    (k : hv_W G p l e R s m args below meth c nL Q n hp cells slots (pc + 1) lv (f j.toNatClampNeg :: st)) : hv_W G p l e R s m args below meth c nL Q n hp cells slots pc lv (.int j :: .ref (i + 1) :: st) := by
  intro H locs ls h1 h2 h3 h4
  obtain ⟨g1, g2⟩ := hv_rd (cA := G.2.2.2 3) (f := fun j => hv_v G (f j)) hin
  exact W.zald X.1 X.2.1 (h1.2 i _ hi) (hv_arr X.2.2.2.2.2.1 rfl N _) (fun q => by cases q) g1 g2 rfl rfl hd (k H locs ls h1 h2 h3 h4)
theorem hw_lald (X : hv_X G p s m args c Ts own cc nL) {i N : Nat} {f : Nat → Value} {j : Int32} (hd : decode cc pc = .ok (.laload, 1)) (hi : hp i = some (.inl (2, N, f))) (hin : vp_in j N)
    (k : hv_W G p l e R s m args below meth c nL Q n hp cells slots (pc + 1) lv (f j.toNatClampNeg :: st)) : hv_W G p l e R s m args below meth c nL Q n hp cells slots pc lv (.int j :: .ref (i + 1) :: st) := by
  intro H locs ls h1 h2 h3 h4
  obtain ⟨g1, g2⟩ := hv_rd (cA := G.2.2.2 2) (f := fun j => hv_v G (f j)) hin
  exact W.lald X.1 X.2.1 (h1.2 i _ hi) (hv_arr X.2.2.2.2.2.1 rfl N _) (fun q => by cases q) g1 g2 rfl rfl hd (k H locs ls h1 h2 h3 h4)
theorem hw_aald (X : hv_X G p s m args c Ts own cc nL) {t i N : Nat} {ty : FieldType} {f : Nat → Value} {j : Int32} (hd : decode cc pc = .ok (.aaload, 1)) (ht : hv_tyl[t]? = some ty) (hr : ty.isReference = true) (hi : hp i = some (.inl (t, N, f))) (hin : vp_in j N)
    (k : hv_W G p l e R s m args below meth c nL Q n hp cells slots (pc + 1) lv (f j.toNatClampNeg :: st)) : hv_W G p l e R s m args below meth c nL Q n hp cells slots pc lv (.int j :: .ref (i + 1) :: st) := by
  intro H locs ls h1 h2 h3 h4
  obtain ⟨g1, g2⟩ := hv_rd (cA := G.2.2.2 t) (f := fun j => hv_v G (f j)) hin
  exact W.aald X.1 X.2.1 (h1.2 i _ hi) (hv_arr X.2.2.2.2.2.1 ht N _) hr (fun q => by cases q) g1 g2 rfl rfl hd (k H locs ls h1 h2 h3 h4)
theorem hv_ast {i t N : Nat} {f : Nat → Value} {H H1 : Heap} {j : Nat} {v w : Value} (h1 : hv_P G n hp H) (hvw : hv_v G v = w) (e1 : H1[G.1.1 + i]? = some ((arrV (G.2.2.2 t) N (fun j => hv_v G (f j))).setSlot j w)) (z : H1.size = H.size) (oq : ∀ q : Nat, q ≠ G.1.1 + i → H1[q]? = H[q]?) : hv_P G n (hv_up hp i (.inl (t, N, hv_uv f j v))) H1 := by
  refine h1.set ?_ z oq
  show H1[G.1.1 + i]? = some (arrV _ _ _)
  rw [e1, arrV_store, ← hvw]
  exact congrArg (fun z => some (arrV _ _ z)) (hv_v_uv G f j v).symm
theorem hw_iast (X : hv_X G p s m args c Ts own cc nL) {i N : Nat} {f : Nat → Value} {j x : Int32} {v : Value} (hd : decode cc pc = .ok (.iastore, 1)) (hv : hv_v G v = .int x) (hi : hp i = some (.inl (1, N, f))) (hin : vp_in j N)
    (k : hv_W G p l e R s m args below meth c nL Q n (hv_up hp i (.inl (1, N, hv_uv f j.toNatClampNeg v))) cells slots (pc + 1) lv st) : hv_W G p l e R s m args below meth c nL Q n hp cells slots pc lv (v :: .int j :: .ref (i + 1) :: st) := by
  intro H locs ls h1 h2 h3 h4
  obtain ⟨g1, -⟩ := hv_rd (cA := G.2.2.2 1) (f := fun j => hv_v G (f j)) hin
  show W p l e R s m args below meth c H locs cells slots Q (F0 m pc ls (hv_v G v :: .int j :: .ref (G.1.1 + i) :: st.map (hv_v G)))
  rw [hv]
  exact W.iast X.1 X.2.1 (h1.2 i _ hi) (hv_arr X.2.2.2.2.2.1 rfl N _) (fun q => by cases q) g1 rfl rfl hd (fun H1 e1 z oq => k H1 _ ls (hv_ast h1 hv e1 z oq) (hv_low h2 oq (Nat.le_add_right _ _)) (hv_locs h3 (Nat.le_add_right _ _)) h4)
theorem hw_bast (X : hv_X G p s m args c Ts own cc nL) {i N : Nat} {f : Nat → Value} {j x : Int32} (hd : decode cc pc = .ok (.bastore, 1)) (hi : hp i = some (.inl (0, N, f))) (hin : vp_in j N)
    (k : hv_W G p l e R s m args below meth c nL Q n (hv_up hp i (.inl (0, N, hv_uv f j.toNatClampNeg (.int x.toInt8.toInt32)))) cells slots (pc + 1) lv st) : hv_W G p l e R s m args below meth c nL Q n hp cells slots pc lv (.int x :: .int j :: .ref (i + 1) :: st) := by
  intro H locs ls h1 h2 h3 h4
  obtain ⟨g1, -⟩ := hv_rd (cA := G.2.2.2 0) (f := fun j => hv_v G (f j)) hin
  exact W.bast X.1 X.2.1 (h1.2 i _ hi) (hv_arr X.2.2.2.2.2.1 rfl N _) (fun q => by cases q) g1 rfl rfl hd (fun H1 e1 z oq => k H1 _ ls (hv_ast h1 rfl e1 z oq) (hv_low h2 oq (Nat.le_add_right _ _)) (hv_locs h3 (Nat.le_add_right _ _)) h4)
theorem hv_b8 (x : Int32) : x.toInt8.toInt32.toInt8.toInt32 = x.toInt8.toInt32 := by simp
theorem hw_bastS (X : hv_X G p s m args c Ts own cc nL) {i N : Nat} {f : Nat → Value} {j x : Int32} {y : UInt32} (hd : decode cc pc = .ok (.bastore, 1)) (hy : G.2.1 y.toNat = x.toInt8.toInt32) (hi : hp i = some (.inl (0, N, f))) (hin : vp_in j N)
    (k : hv_W G p l e R s m args below meth c nL Q n (hv_up hp i (.inl (0, N, hv_uv f j.toNatClampNeg (.float y)))) cells slots (pc + 1) lv st) : hv_W G p l e R s m args below meth c nL Q n hp cells slots pc lv (.float y :: .int j :: .ref (i + 1) :: st) := by
  intro H locs ls h1 h2 h3 h4
  obtain ⟨g1, -⟩ := hv_rd (cA := G.2.2.2 0) (f := fun j => hv_v G (f j)) hin
  have ev : hv_v G (.float y) = .int x.toInt8.toInt32 := congrArg Value.int hy
  show W p l e R s m args below meth c H locs cells slots Q (F0 m pc ls (hv_v G (.float y) :: .int j :: .ref (G.1.1 + i) :: st.map (hv_v G)))
  rw [ev]
  exact W.bast X.1 X.2.1 (h1.2 i _ hi) (hv_arr X.2.2.2.2.2.1 rfl N _) (fun q => by cases q) g1 rfl rfl hd (fun H1 e1 z oq => k H1 _ ls (hv_ast h1 (w := .int x.toInt8.toInt32) ev (by rw [e1]; show _ = some ((arrV _ _ _).setSlot _ _); rw [narrow_byte, hv_b8]) z oq) (hv_low h2 oq (Nat.le_add_right _ _)) (hv_locs h3 (Nat.le_add_right _ _)) h4)
theorem hw_zast (X : hv_X G p s m args c Ts own cc nL) {i N : Nat} {f : Nat → Value} {j x y : Int32} (hd : decode cc pc = .ok (.bastore, 1)) (hy : narrow .boolean (.int x) = .int y) (hi : hp i = some (.inl (3, N, f))) (hin : vp_in j N)
    (k : hv_W G p l e R s m args below meth c nL Q n (hv_up hp i (.inl (3, N, hv_uv f j.toNatClampNeg (.int y)))) cells slots (pc + 1) lv st) : hv_W G p l e R s m args below meth c nL Q n hp cells slots pc lv (.int x :: .int j :: .ref (i + 1) :: st) := by
  intro H locs ls h1 h2 h3 h4
  obtain ⟨g1, -⟩ := hv_rd (cA := G.2.2.2 3) (f := fun j => hv_v G (f j)) hin
  exact W.zast X.1 X.2.1 (h1.2 i _ hi) (hv_arr X.2.2.2.2.2.1 rfl N _) (fun q => by cases q) g1 rfl rfl hd (fun H1 e1 z oq => k H1 _ ls (hv_ast h1 hy.symm e1 z oq) (hv_low h2 oq (Nat.le_add_right _ _)) (hv_locs h3 (Nat.le_add_right _ _)) h4)
theorem hw_last (X : hv_X G p s m args c Ts own cc nL) {i N : Nat} {f : Nat → Value} {j : Int32} {x : Int64} (hd : decode cc pc = .ok (.lastore, 1)) (hi : hp i = some (.inl (2, N, f))) (hin : vp_in j N)
    (k : hv_W G p l e R s m args below meth c nL Q n (hv_up hp i (.inl (2, N, hv_uv f j.toNatClampNeg (.long x)))) cells slots (pc + 1) lv st) : hv_W G p l e R s m args below meth c nL Q n hp cells slots pc lv (.long x :: .int j :: .ref (i + 1) :: st) := by
  intro H locs ls h1 h2 h3 h4
  obtain ⟨g1, -⟩ := hv_rd (cA := G.2.2.2 2) (f := fun j => hv_v G (f j)) hin
  exact W.last X.1 X.2.1 (h1.2 i _ hi) (hv_arr X.2.2.2.2.2.1 rfl N _) (fun q => by cases q) g1 rfl rfl hd (fun H1 e1 z oq => k H1 _ ls (hv_ast h1 rfl e1 z oq) (hv_low h2 oq (Nat.le_add_right _ _)) (hv_locs h3 (Nat.le_add_right _ _)) h4)
theorem hw_aast (X : hv_X G p s m args c Ts own cc nL) {t i iv ci N : Nat} {r : vw_C} {f g : Nat → Value} {j : Int32} (hd : decode cc pc = .ok (.aastore, 1)) (ht : hv_tyl[t]? = some (.object r.1)) (hi : hp i = some (.inl (t, N, f))) (hv : hp iv = some (.inr (ci, g))) (hc : vwCl[ci]? = some r) (hin : vp_in j N)
    (k : hv_W G p l e R s m args below meth c nL Q n (hv_up hp i (.inl (t, N, hv_uv f j.toNatClampNeg (.ref (iv + 1))))) cells slots (pc + 1) lv st) : hv_W G p l e R s m args below meth c nL Q n hp cells slots pc lv (.ref (iv + 1) :: .int j :: .ref (i + 1) :: st) := by
  intro H locs ls h1 h2 h3 h4
  have hK := X.2.2.2.2.2.1
  have hlt : j.toNatClampNeg < N := Nat.not_le.mp fun q => hin (Or.inr q)
  have h0 : ¬ j < 0 := fun q => hin (Or.inl q)
  obtain ⟨r', hr', cellV, g1, g2, g3, -⟩ := h1.2 iv _ hv
  have hcls := (hK.1 ci r hc).2
  obtain ⟨kA, comp, k1, k2, k3, -⟩ := (hK.2 t _ (hv_tys_at ht)).2
  have hcomp : comp = G.2.2.1.1 ci := Option.some.inj (k3.symm.trans hcls.1)
  subst hcomp
  obtain ⟨kC, hkC, -⟩ := hcls.2
  refine W.aast X.1 X.2.1 (h1.2 i _ hi) (fun q h => by cases h) (fun h => by cases h) k1 k2 rfl hkC ⟨h0, by show _ < (arrV _ _ _).slots.size; rw [arrV_size]; exact hlt⟩ g1 (fun q h => by rw [g3] at h; cases h) (by rw [g2]; exact hkC) (by rw [g2]; exact va_assign hcls) rfl rfl hd (fun H1 e1 z oq => ?_)
  exact k H1 _ ls (hv_ast h1 rfl e1 z oq) (hv_low h2 oq (Nat.le_add_right _ _)) (hv_locs h3 (Nat.le_add_right _ _)) h4
theorem hw_alen (X : hv_X G p s m args c Ts own cc nL) {t i N : Nat} {ty : FieldType} {f : Nat → Value} {v : Int32} (hd : decode cc pc = .ok (.arraylength, 1)) (ht : hv_tyl[t]? = some ty) (hi : hp i = some (.inl (t, N, f))) (hv : Int32.ofNat N = v)
    (k : hv_W G p l e R s m args below meth c nL Q n hp cells slots (pc + 1) lv (.int v :: st)) : hv_W G p l e R s m args below meth c nL Q n hp cells slots pc lv (.ref (i + 1) :: st) := by
  intro H locs ls h1 h2 h3 h4
  exact W.alen X.1 X.2.1 (h1.2 i _ hi) (hv_arr X.2.2.2.2.2.1 ht N _) (by rw [arrV_size]; exact hv) rfl rfl hd (k H locs ls h1 h2 h3 h4)
theorem hv_low' {B : Nat} {H H1 Hs : Heap} (h2 : ∀ q : Nat, q < B → H[q]? = Hs[q]?) (hz : B ≤ H.size) (oq : ∀ q : Nat, q < H.size → H1[q]? = H[q]?) : ∀ q : Nat, q < B → H1[q]? = Hs[q]? := fun q hq => (oq q (by omega)).trans (h2 q hq)
theorem hw_new (X : hv_X G p s m args c Ts own cc nL) {ix ci N : Nat} {C : String} {T : u_T} {f : Nat → Value} {ty0 : Nat → FieldType} (hd : decode cc pc = .ok (.new ix, 3)) (hcl : vwCl[ci]? = some (C, T, N)) (hin : ∀ w ∈ u_ws C T N, w ∈ Ts) (hty : ∀ k, k < N → parseFieldDescriptor (T k).2.2.1 = some (ty0 k))
    (hw1 : Cond.classLink own ix C ∈ Ts) (hw2 : Cond.instantiable C N ∈ Ts) (hw3 : Cond.initialized C ∈ Ts) (hf : ∀ j, j < N → defaultValue (ty0 j) = hv_v G (f j)) (hc : cells + 1 ≤ R.cells) (hs : slots + N ≤ R.slots)
    (k : hv_W G p l e R s m args below meth c nL Q (n + 1) (hv_up hp n (.inr (ci, f))) (cells + 1) (slots + N) (pc + 3) lv (.ref (n + 1) :: st)) : hv_W G p l e R s m args below meth c nL Q n hp cells slots pc lv st := by
  intro H locs ls h1 h2 h3 h4
  obtain ⟨hx, hb, hml, hown, hts, hK, hB, hbB, hxK, hX⟩ := X
  have hKn := hK.1 ci _ hcl
  refine W.newcK hx hb hown (hts _ hw1) (hts _ hw2) (hts _ hw3) rfl hd hc hs hKn.2.1 h1.1 (fun H1 kC hkC e1 z1 o1 => ?_)
  have o2 : ∀ q : Nat, q < H.size → H1[q]? = H[q]? := fun q hq => o1 q (by rw [← h1.1]; exact hq)
  refine k H1 _ ls (h1.push ?_ (by rw [z1, h1.1]) o2) (hv_low' h2 (by rw [h1.1]; omega) o2) h3 h4
  exact ⟨_, hcl, (u_born ty0 hts hin hKn hkC e1 hty).to hf⟩
theorem hw_newa (X : hv_X G p s m args c Ts own cc nL) {t N : Nat} {atype : ArrayType} {ty : FieldType} {j : Int32} {v : Value} (hd : decode cc pc = .ok (.newarray atype, 2)) (hat : newarray.typeOf atype = ty) (ht : hv_tyl[t]? = some ty) (hra : ∀ C : String, ty ≠ .object C) (hw : Cond.arrayClass ty ∈ Ts) (hv : defaultValue ty = hv_v G v) (hj : ¬ j < 0) (hN : j.toNatClampNeg = N) (hby : N * componentBytes ty ≤ 536870912) (hc : cells + 1 ≤ R.cells) (hs : slots + N ≤ R.slots)
    (k : hv_W G p l e R s m args below meth c nL Q (n + 1) (hv_up hp n (.inl (t, N, fun _ => v))) (cells + 1) (slots + N) (pc + 2) lv (.ref (n + 1) :: st)) : hv_W G p l e R s m args below meth c nL Q n hp cells slots pc lv (.int j :: st) := by
  intro H locs ls h1 h2 h3 h4
  subst hat
  have hK := X.2.2.2.2.2.1
  refine va_newaK X.1 X.2.1 (X.2.2.2.2.1 _ hw) rfl hd rfl hj hN hby hc hs h1.1 (fun H1 cA e1 z1 o1 hAr hNm => ?_)
  have o2 : ∀ q : Nat, q < H.size → H1[q]? = H[q]? := fun q hq => o1 q (by rw [← h1.1]; exact hq)
  have hra2 : s.vm.findClass ("[" ++ (newarray.typeOf atype).toString) = some (G.2.2.2 t) := by
    have hR := (hK.2 t _ (hv_tys_at ht)).2
    cases atype <;> exact hR
  have hcy : cA = G.2.2.2 t := Option.some.inj (hNm.symm.trans hra2)
  subst hcy
  refine k H1 _ ls (h1.push ?_ (by rw [z1, h1.1]) o2) (hv_low' h2 (by rw [h1.1]; omega) o2) h3 h4
  show H1[G.1.1 + n]? = some (arrV _ _ _)
  rw [e1, hv]
theorem hw_newq (X : hv_X G p s m args c Ts own cc nL) {t ix N : Nat} {C : String} {j : Int32} (hd : decode cc pc = .ok (.anewarray ix, 3)) (ht : hv_tyl[t]? = some (.object C)) (hw1 : Cond.classLink own ix C ∈ Ts) (hw2 : Cond.arrayOver (.object C) ∈ Ts) (hj : ¬ j < 0) (hN : j.toNatClampNeg = N) (hby : N * 4 ≤ 536870912) (hc : cells + 1 ≤ R.cells) (hs : slots + N ≤ R.slots)
    (k : hv_W G p l e R s m args below meth c nL Q (n + 1) (hv_up hp n (.inl (t, N, fun _ => .null))) (cells + 1) (slots + N) (pc + 3) lv (.ref (n + 1) :: st)) : hv_W G p l e R s m args below meth c nL Q n hp cells slots pc lv (.int j :: st) := by
  intro H locs ls h1 h2 h3 h4
  subst hN
  have hK := X.2.2.2.2.2.1
  refine W.anew X.1 X.2.1 X.2.2.2.1 (X.2.2.2.2.1 _ hw1) (X.2.2.2.2.1 _ hw2) rfl hd rfl hj hby hc hs (fun cA kA comp f1 f2 f3 f4 => ?_)
  obtain ⟨kA', comp', -, -, -, hnm⟩ := (hK.2 t _ (hv_tys_at ht)).2
  have hcy : cA = G.2.2.2 t := Option.some.inj (f1.symm.trans hnm)
  subst hcy
  have o2 : ∀ q : Nat, q < H.size → (H.push ({ cls := G.2.2.2 t, slots := Array.replicate j.toNatClampNeg .null, vm := .none } : Cell))[q]? = H[q]? := fun q hq => by rw [Array.getElem?_push, if_neg (Nat.ne_of_lt hq)]
  have hk := k (H.push ({ cls := G.2.2.2 t, slots := Array.replicate j.toNatClampNeg .null, vm := .none } : Cell)) locs ls (h1.push ?_ (by rw [Array.size_push]) o2) (hv_low' h2 (by rw [h1.1]; omega) o2) h3 h4
  · have hsz : H.size = G.1.1 + n := h1.1
    show W p l e R s m args below meth c _ locs _ _ Q (F0 m (pc + 3) ls (.ref H.size :: st.map (hv_v G)))
    rw [hsz]
    exact hk
  · show _ = some (arrV (G.2.2.2 t) j.toNatClampNeg (fun _ => Value.null))
    rw [← h1.1, Array.getElem?_push_size, ← arrV_new]
theorem hw_sld (X : hv_X G p s m args c Ts own cc nL) {j : Int32} {x : UInt32} (hd : decode cc pc = .ok (.iaload, 1)) (hin : vp_in j G.1.2.2) (hx : x.toNat = j.toNatClampNeg)
    (k : hv_W G p l e R s m args below meth c nL Q n hp cells slots (pc + 1) lv (.float x :: st)) : hv_W G p l e R s m args below meth c nL Q n hp cells slots pc lv (.int j :: .ref 0 :: st) := by
  intro H locs ls h1 h2 h3 h4
  obtain ⟨hxx, hb, hml, hown, hts, hK, hB, hbB, hxK, scr, g1, g2, g3, g4, g5⟩ := X
  have hlt : j.toNatClampNeg < G.1.2.2 := Nat.not_le.mp fun q => hin (Or.inr q)
  have hk := k H locs ls h1 h2 h3 h4
  have hv : hv_v G (.float x) = .int (G.2.1 j.toNatClampNeg) := by show Value.int (G.2.1 x.toNat) = _; rw [hx]
  rw [List.map_cons, hv] at hk
  exact W.iald hxx hb (a := G.1.2.1) (cell := scr) (by rw [h2 _ hbB]; exact g1) g2 g3 (by rw [g4]; exact hin) (g5 _ hlt) rfl rfl hd hk
theorem hw_sldK (X : hv_X G p s m args c Ts own cc nL) {j x : Int32} (hd : decode cc pc = .ok (.iaload, 1)) (hin : vp_in j G.1.2.2) (hx : G.2.1 j.toNatClampNeg = x)
    (k : hv_W G p l e R s m args below meth c nL Q n hp cells slots (pc + 1) lv (.int x :: st)) : hv_W G p l e R s m args below meth c nL Q n hp cells slots pc lv (.int j :: .ref 0 :: st) := by
  intro H locs ls h1 h2 h3 h4
  obtain ⟨hxx, hb, hml, hown, hts, hK, hB, hbB, hxK, scr, g1, g2, g3, g4, g5⟩ := X
  have hlt : j.toNatClampNeg < G.1.2.2 := Nat.not_le.mp fun q => hin (Or.inr q)
  have hk := k H locs ls h1 h2 h3 h4
  subst hx
  exact W.iald hxx hb (a := G.1.2.1) (cell := scr) (by rw [h2 _ hbB]; exact g1) g2 g3 (by rw [g4]; exact hin) (g5 _ hlt) rfl rfl hd hk
theorem hw_slen (X : hv_X G p s m args c Ts own cc nL) {v : Int32} (hd : decode cc pc = .ok (.arraylength, 1)) (hv : Int32.ofNat G.1.2.2 = v)
    (k : hv_W G p l e R s m args below meth c nL Q n hp cells slots (pc + 1) lv (.int v :: st)) : hv_W G p l e R s m args below meth c nL Q n hp cells slots pc lv (.ref 0 :: st) := by
  intro H locs ls h1 h2 h3 h4
  obtain ⟨hxx, hb, hml, hown, hts, hK, hB, hbB, hxK, scr, g1, g2, g3, g4, g5⟩ := X
  exact W.alen hxx hb (a := G.1.2.1) (cell := scr) (by rw [h2 _ hbB]; exact g1) g2 (by rw [g4]; exact hv) rfl rfl hd (k H locs ls h1 h2 h3 h4)
theorem hw_objInit (X : hv_X G p s m args c Ts own cc nL) {ix a : Nat} (hd : decode cc pc = .ok (.invokespecial ix, 3)) (hw1 : Cond.methodLink own ix Lib.objectInit ∈ Ts) (hw2 : Cond.instanceMethod Lib.objectInit ∈ Ts) (hw3 : Cond.code Lib.objectInit ⟨#[0xb1]⟩ 1 none ∈ Ts) (hr : 1 ≤ R.frames) (hr2 : 20 ≤ R.locals) (hst : (st.map fun v => v.category).sum ≤ 8)
    (k : hv_W G p l e R s m args below meth c nL Q n hp cells slots (pc + 3) lv st) : hv_W G p l e R s m args below meth c nL Q n hp cells slots pc lv (.ref a :: st) := by
  intro H locs ls h1 h2 h3 h4
  obtain ⟨hx, hb, hml, hown, hts, hK, hB, hbB, hxK, hX⟩ := X
  refine W.objInit hx hb hown (hts _ hw1) (hts _ hw2) (hts _ hw3) rfl (by rw [hml]; exact h4.1) rfl hd hr ?_ ?_
  · have := lv_room (m := m) (pc := pc) (ls := ls) (rest := (Value.ref a :: st).map (hv_v G)) (st := st.map (hv_v G)) (by rw [hv_cats]; exact hst)
    omega
  · exact k H locs ls h1 h2 h3 h4
theorem hw_copy (X : hv_X G p s m args c Ts own cc nL) {ix i0 i1 N0 N1 : Nat} {f g : Nat → Value} {sp dp z : Int32} (hd : decode cc pc = .ok (.invokestatic ix, 3)) (hw1 : Cond.methodLink own ix arraycopyName ∈ Ts) (hw2 : Cond.native arraycopyName ∈ Ts) (hw3 : Cond.static arraycopyName ∈ Ts) (hw4 : Cond.initialized "java/lang/System" ∈ Ts) (hi0 : hp i0 = some (.inl (1, N0, f))) (hi1 : hp i1 = some (.inl (1, N1, g)))
    (g1 : ¬ sp < 0) (g2 : ¬ dp < 0) (g3 : ¬ z < 0) (g4 : sp.toNatClampNeg + z.toNatClampNeg ≤ N0) (g5 : dp.toNatClampNeg + z.toNatClampNeg ≤ N1) (hint : ∀ i, i < z.toNatClampNeg → ∃ x : Int32, hv_v G (f (sp.toNatClampNeg + i)) = .int x) (hr : 1 ≤ R.frames) (hr2 : 8 + (nativeFrameWords "java/lang/System" "arraycopy" 5 + 11) ≤ R.locals) (hst : (st.map fun v => v.category).sum ≤ 8)
    (k : hv_W G p l e R s m args below meth c nL Q n (hv_up hp i1 (.inl (1, N1, va_cpy f g sp.toNatClampNeg dp.toNatClampNeg z.toNatClampNeg))) cells slots (pc + 3) lv st) : hv_W G p l e R s m args below meth c nL Q n hp cells slots pc lv (.int z :: .int dp :: .ref (i1 + 1) :: .int sp :: .ref (i0 + 1) :: st) := by
  intro H locs ls h1 h2 h3 h4
  obtain ⟨hx, hb, hml, hown, hts, hK, hB, hbB, hxK, hX⟩ := X
  have nn : ∀ z : Int32, ¬ z < 0 → z.toInt = (z.toNatClampNeg : Int) := by
    intro z hz
    have hz0 : (0 : Int) ≤ z.toInt := by
      have := Int32.not_lt.mp hz
      simpa using Int32.le_iff_toInt_le.mp this
    show z.toInt = ((z.toInt.toNat : Nat) : Int)
    omega
  intro T hT XX
  have hc0 : H[G.1.1 + i0]? = some (arrV (G.2.2.2 1) N0 (fun j => hv_v G (f j))) := h1.2 i0 _ hi0
  have hc1 : H[G.1.1 + i1]? = some (arrV (G.2.2.2 1) N1 (fun j => hv_v G (g j))) := h1.2 i1 _ hi1
  obtain ⟨-, k0, hk0, cm0, hkk0⟩ := hv_arr hK (t := 1) rfl N0 (fun j => hv_v G (f j))
  obtain ⟨-, k1, hk1, cm1, hkk1⟩ := hv_arr hK (t := 1) rfl N1 (fun j => hv_v G (g j))
  obtain ⟨vm', X', step⟩ := XX.arraycopy hx hown (hts _ hw1) (hts _ hw2) (hts _ hw3) (hts _ hw4) (src := G.1.1 + i0) (dst := G.1.1 + i1) (cs := arrV (G.2.2.2 1) N0 (fun j => hv_v G (f j))) (cd := arrV (G.2.2.2 1) N1 (fun j => hv_v G (g j))) (srcPos := sp) (destPos := dp) (n := z) (by rw [hT]; exact hc0) (by rw [hT]; exact hc1)
    (fun _ h => by cases h) (fun _ h => by cases h) (fun h => by cases h) (fun h => by cases h) hk0 hk1 hkk0 hkk1 (by simp [refKind]) g1 g2 g3
    (by rw [nn sp g1, nn z g3, arrV_size]; omega)
    (by rw [nn dp g2, nn z g3, arrV_size]; omega)
    (fun vm₁ _ i hi => by
      obtain ⟨x, hx0⟩ := hint i hi
      have e : (arrV (G.2.2.2 1) N0 (fun j => hv_v G (f j))).slots.getD (sp.toNatClampNeg + i) .null = .int x := by
        rw [Array.getD_eq_getD_getElem?, arrV_read _ _ (by omega)]
        exact hx0
      refine ⟨?_, ?_⟩
      · rw [e]
        rfl
      · rw [e]
        exact trivial)
    (g := F0 m pc ls (.int z :: .int dp :: .ref (G.1.1 + i1) :: .int sp :: .ref (G.1.1 + i0) :: st.map (hv_v G))) rfl (by rw [hml]; exact h4.1) (rest := st.map (hv_v G)) rfl (by rw [hb]; exact hd) hr (by
      have h8 : ((st.map (hv_v G)).map fun v => v.category).sum ≤ 8 := by rw [hv_cats]; exact hst
      show 2 * 0 + _ + _ ≤ _
      omega)
  have e1 : copied (arrV (G.2.2.2 1) N0 (fun j => hv_v G (f j))) (arrV (G.2.2.2 1) N1 (fun j => hv_v G (g j))) sp dp z = arrV (G.2.2.2 1) N1 (fun j => hv_v G (va_cpy f g sp.toNatClampNeg dp.toNatClampNeg z.toNatClampNeg j)) := va_copied (hv_v G) (G.2.2.2 1) (G.2.2.2 1) f g g4
  rw [e1] at X' step
  have hl : G.1.1 + i1 < H.size := (Array.getElem?_eq_some_iff.mp hc1).1
  generalize hcell : arrV (G.2.2.2 1) N1 (fun j => hv_v G (va_cpy f g sp.toNatClampNeg dp.toNatClampNeg z.toNatClampNeg j)) = cell at X' step
  have hheap : ((T.setVm vm').setCell (G.1.1 + i1) cell).heap = H.setIfInBounds (G.1.1 + i1) cell := by rw [← hT]; rfl
  have oq : ∀ q : Nat, q ≠ G.1.1 + i1 → (H.setIfInBounds (G.1.1 + i1) cell)[q]? = H[q]? := fun q hq => by simp [Array.getElem?_setIfInBounds, Ne.symm hq]
  have hat : hv_at G i1 (.inl (1, N1, va_cpy f g sp.toNatClampNeg dp.toNatClampNeg z.toNatClampNeg)) (H.setIfInBounds (G.1.1 + i1) cell) := by
    show (H.setIfInBounds (G.1.1 + i1) cell)[G.1.1 + i1]? = some (arrV _ _ _)
    rw [hcell]
    simp [Array.getElem?_setIfInBounds, hl]
  obtain ⟨t, a1, b1⟩ := k _ _ ls (h1.set hat (by simp) oq) (hv_low h2 oq (Nat.le_add_right _ _)) (fun q hq => by
      rcases List.mem_append.mp hq with h | h
      · exact h3 q h
      · obtain ⟨z, -, hz⟩ := List.mem_map.mp h
        rw [← hz]
        exact Nat.le_add_right _ _) h4 _ hheap X'
  exact ⟨t, step t a1, b1⟩
end HWH
end
section
/-! CONTRACTS: a method at a world and its arguments, by the words gw that every state keeps -/
def hv_keep (w : Cond) : Bool := match w with
  | .fieldLinkNest .. => true
  | .methodLinkNest .. => true
  | .arrayOver (.object _) => true
  | .arrayOver (.array _) => true
  | .arrayClass _ => true
  | w => w.onTables && w.keeps
theorem hv_keeps {w : Cond} (h : hv_keep w = true) {args a' : Array Value} {s U : State} (hW : s.WarmedH U.vm) (hb : w.before args s = true) : w.before a' U = true := by
  unfold hv_keep at h
  split at h
  · exact va_Nw.use rfl (va_Nw.warmF hW (va_Nw.of rfl hb))
  · exact va_Nw.use rfl (va_Nw.warmM hW (va_Nw.of rfl hb))
  · exact va_AO.use (va_AO.moved hW.alike (va_AO.of hb))
  · exact Jvm.Stand.arrayOver_alikeB hW.alike hb
  · exact word_at hW (Or.inr ⟨_, rfl⟩) hb
  · exact word_at hW (Or.inl h) hb
def hv_Pc (G : hv_G) (n : Nat) (hp : hv_H) (as : List Value) : Array Value → State → Prop := fun v U => v = (as.map (hv_v G)).toArray ∧ hv_P G n hp U.heap ∧ va_K G.2.2.1 vwCl (hv_tys G) U ∧ G.1.2.1 < G.1.1 ∧ hx_K G U ∧ va_X G.1.2.1 G.1.2.2 G.2.1 U U.heap
def hv_Qc (G : hv_G) (n : Nat) (hp : hv_H) (r : Option Value) : Array Value → State → Outcome → State → Prop := fun _ st o t => o = .returned (r.map (hv_v G)) ∧ hv_P G n hp t.heap ∧ ∀ q : Nat, q < G.1.1 → t.heap[q]? = st.heap[q]?
def hv_C (G : hv_G) (gw : List Cond) (l : Launch) (y : MethodName) (bytes : ByteArray) (maxL : Nat) (ret : Option FieldType) (fr lo : Nat) (n : Nat) (hp : hv_H) (as : List Value) (r : Option Value) (n' : Nat) (hp' : hv_H) (mc ms : Nat) : Prop :=
  Met l y (.code y bytes maxL ret :: gw) { frames := fr, cells := mc, slots := ms, locals := lo } (hv_Pc G n hp as) (hv_Qc G n' hp' r) mc ms (fun q => G.1.1 ≤ q)
theorem hv_blind (G : hv_G) (n : Nat) (hp : hv_H) (as : List Value) : FrameBlind (hv_Pc G n hp as) := by
  intro a U g mk h
  obtain ⟨h1, h2, h3, h4, h6, h5⟩ := h
  exact ⟨h1, h2, va_K.moved (u := U) (U := U.calling g mk a) (Vm.Alike.refl U.vm) h3, h4, h6, va_X.moved (u := U) (U := U.calling g mk a) (Vm.Alike.refl U.vm) h5⟩
section HWC
variable {G : hv_G} {p : Program} {l : Launch} {e : Env} {R : Room} {s : State} {m : MethodId} {args : Array Value} {below : List Frame} {meth : Method} {c : Code} {nL : Nat} {Q : State → Prop} {n : Nat} {hp : hv_H} {cells slots pc : Nat} {lv : List (Nat × Value)} {st : List Value} {Ts : List Cond} {own : String} {cc : ByteArray}
theorem hv_pre (X : hv_X G p s m args c Ts own cc nL) {H : Heap} (h1 : hv_P G n hp H) (h2 : ∀ q : Nat, q < G.1.1 → H[q]? = s.heap[q]?) (as : List Value) : ∀ U : State, U.heap = H → s.WarmedH U.vm → hv_Pc G n hp as (as.map (hv_v G)).toArray U := by
  intro U hU hW
  obtain ⟨hx, hb, hml, hown, hts, hK, hB, hbB, hxK, hX⟩ := X
  refine ⟨rfl, by rw [hU]; exact h1, va_K.moved hW.alike hK, hbB, hxK.moved hW (fun q hq => by rw [hU]; exact h2 q hq), ?_⟩
  rw [hU]
  exact va_X.moved hW.alike (va_X.kept hX (h2 _ hbB))
/-- behind a call: what came back, the world as the contract has it -/
theorem hw_back {as : Array Value} {r : Option Value} {n' : Nat} {hp' : hv_H} {mc ms : Nat} {ls : Array Slot} {st0 : List Value} {H : Heap} {locs : List Loc}
    (hr : va_Run p l e R s m args below meth c H locs cells slots mc ms (F0 m pc ls st0) (st.map (hv_v G)) (hv_Qc G n' hp' r as) (fun q => G.1.1 ≤ q)) (h2 : ∀ q : Nat, q < G.1.1 → H[q]? = s.heap[q]?) (h3 : ∀ q ∈ locs, G.1.1 ≤ q.base) (h4 : lv_has ls nL (hv_l G lv))
    (k : hv_W G p l e R s m args below meth c nL Q n' hp' (cells + mc) (slots + ms) (pc + 3) lv (r.toList ++ st)) : W p l e R s m args below meth c H locs cells slots Q (F0 m pc ls st0) := by
  intro T hT XX
  obtain ⟨v, st₀, t, T', L, h0, X', hL, e1, e2, ⟨hv, hp1, hq⟩, stp⟩ := hr T hT XX
  cases hv
  have k1 := k T'.heap (locs ++ L) ls (by rw [e1]; exact hp1) (fun q hq1 => by rw [e1, hq q hq1, h0]; exact h2 q hq1) (fun q hq1 => by
      rcases List.mem_append.mp hq1 with h | h
      · exact h3 q h
      · exact hL q h) h4
  have er : (r.toList ++ st).map (hv_v G) = (r.map (hv_v G)).toList ++ st.map (hv_v G) := by cases r <;> simp
  rw [er] at k1
  obtain ⟨t2, a1, b1⟩ := k1 T' rfl X'
  exact ⟨t2, stp t2 a1, b1⟩
theorem hv_callB (X : hv_X G p s m args c Ts own cc nL) {gw : List Cond} {y : MethodName} {bytes : ByteArray} {maxL : Nat} {ret : Option FieldType} {fr lo mc ms ix na : Nat} (hgw : ∀ w ∈ gw, w ∈ Ts) (hkp : ∀ w ∈ gw, hv_keep w = true) (hcode : Cond.code y bytes maxL ret ∈ gw) (hini : Cond.initialized y.cls ∈ Ts) (hlink : Cond.methodLink own ix y ∈ Ts)
    (hy : y.cls ≠ "java/lang/invoke/MethodHandle" ∧ y.cls ≠ "java/lang/invoke/VarHandle") (hna : (parseMethodDescriptor y.desc).map (fun d => d.parameters.length) = some na) (hfr : fr + 1 ≤ R.frames) (hlo : 8 + (maxL + 11) + lo ≤ R.locals) :
    CallB R s args own ix y bytes maxL ret (.code y bytes maxL ret :: gw) { frames := fr, cells := mc, slots := ms, locals := lo } mc ms na := by
  have hts := X.2.2.2.2.1
  refine ⟨rfl, rfl, hfr, hlo, ?_, List.mem_cons_self, hts _ (hgw _ hcode), hts _ hini, hy, ?_, hts _ hlink⟩
  · intro w hw a' U hW
    have hw' : w ∈ gw := by
      rcases List.mem_cons.mp hw with h | h
      · rw [h]; exact hcode
      · exact h
    exact hv_keeps (hkp w hw') hW (hts _ (hgw w hw'))
  · intro sig h
    rw [h] at hna
    exact (Option.some.inj hna).symm
theorem hw_callV (X : hv_X G p s m args c Ts own cc nL) {gw : List Cond} {y : MethodName} {bytes : ByteArray} {maxL : Nat} {ret : Option FieldType} {fr lo mc ms ix na n' i ci : Nat} {hp' : hv_H} {r : Option Value} {as : List Value} {rc : vw_C} {f : Nat → Value} (hM : hv_C G gw l y bytes maxL ret fr lo n hp (.ref (i + 1) :: as) r n' hp' mc ms)
    (hd : decode cc pc = .ok (.invokevirtual ix, 3)) (hgw : ∀ w ∈ gw, w ∈ Ts) (hkp : ∀ w ∈ gw, hv_keep w = true) (hcode : Cond.code y bytes maxL ret ∈ gw) (hini : Cond.initialized y.cls ∈ Ts) (hlink : Cond.methodLink own ix y ∈ Ts) (hinst : Cond.instanceMethod y ∈ Ts) (hsel : Cond.selects rc.1 y y ∈ Ts)
    (hy : y.cls ≠ "java/lang/invoke/MethodHandle" ∧ y.cls ≠ "java/lang/invoke/VarHandle") (hna : (parseMethodDescriptor y.desc).map (fun d => d.parameters.length) = some na) (hal : as.length = na) (hi : hp i = some (.inr (ci, f))) (hc : vwCl[ci]? = some rc) (hfr : fr + 1 ≤ R.frames) (hlo : 8 + (maxL + 11) + lo ≤ R.locals) (hst : (st.map fun v => v.category).sum ≤ 8) (hcc : cells + mc ≤ R.cells) (hss : slots + ms ≤ R.slots)
    (k : hv_W G p l e R s m args below meth c nL Q n' hp' (cells + mc) (slots + ms) (pc + 3) lv (r.toList ++ st)) : hv_W G p l e R s m args below meth c nL Q n hp cells slots pc lv (as.reverse ++ .ref (i + 1) :: st) := by
  intro H locs ls h1 h2 h3 h4
  have hB := hv_callB X (mc := mc) (ms := ms) hgw hkp hcode hini hlink hy hna hfr hlo
  obtain ⟨r', hr', cell, q1, q2, q3, -⟩ := h1.2 i _ hi
  have hcl := ((X.2.2.2.2.2.1).1 ci rc hc).2.1
  refine hw_back (va_runV (As := as.map (hv_v G)) (b := G.1.1 + i) (rest := st.map (hv_v G)) ⟨X.1, X.2.1, X.2.2.1, X.2.2.2.1, X.2.2.2.2.1⟩ hM ⟨hB, X.2.2.2.2.1 _ hinst, X.2.2.2.2.1 _ hsel⟩ ⟨hv_blind G n hp _, ⟨cell, q1, by rw [q3]; rfl, by rw [q2]; exact hcl⟩, hv_pre X h1 h2 (.ref (i + 1) :: as)⟩ rfl (by rw [List.length_map]; exact hal) h4.1 ?_ (lv_room (by rw [hv_cats]; exact hst)) hd ⟨hcc, hss⟩) h2 h3 h4 k
  show List.map (hv_v G) (as.reverse ++ .ref (i + 1) :: st) = _
  rw [List.map_append, List.map_reverse]
  rfl
theorem hw_callI (X : hv_X G p s m args c Ts own cc nL) {gw : List Cond} {y : MethodName} {bytes : ByteArray} {maxL : Nat} {fr lo mc ms ix na n' a : Nat} {hp' : hv_H} {r : Option Value} {as : List Value} (hM : hv_C G gw l y bytes maxL none fr lo n hp (.ref a :: as) r n' hp' mc ms)
    (hd : decode cc pc = .ok (.invokespecial ix, 3)) (hgw : ∀ w ∈ gw, w ∈ Ts) (hkp : ∀ w ∈ gw, hv_keep w = true) (hcode : Cond.code y bytes maxL none ∈ gw) (hini : Cond.initialized y.cls ∈ Ts) (hlink : Cond.methodLink own ix y ∈ Ts) (hinst : Cond.instanceMethod y ∈ Ts) (hnm : y.name = "<init>")
    (hy : y.cls ≠ "java/lang/invoke/MethodHandle" ∧ y.cls ≠ "java/lang/invoke/VarHandle") (hna : (parseMethodDescriptor y.desc).map (fun d => d.parameters.length) = some na) (hal : as.length = na) (hfr : fr + 1 ≤ R.frames) (hlo : 8 + (maxL + 11) + lo ≤ R.locals) (hst : (st.map fun v => v.category).sum ≤ 8) (hcc : cells + mc ≤ R.cells) (hss : slots + ms ≤ R.slots)
    (k : hv_W G p l e R s m args below meth c nL Q n' hp' (cells + mc) (slots + ms) (pc + 3) lv (r.toList ++ st)) : hv_W G p l e R s m args below meth c nL Q n hp cells slots pc lv (as.reverse ++ .ref a :: st) := by
  intro H locs ls h1 h2 h3 h4
  have hB := hv_callB X (mc := mc) (ms := ms) hgw hkp hcode hini hlink hy hna hfr hlo
  refine hw_back (va_runI (As := as.map (hv_v G)) (b := hv_ad G a) (rest := st.map (hv_v G)) ⟨X.1, X.2.1, X.2.2.1, X.2.2.2.1, X.2.2.2.2.1⟩ hM ⟨hB, hnm, X.2.2.2.2.1 _ hinst⟩ ⟨hv_blind G n hp _, hv_pre X h1 h2 (.ref a :: as)⟩ rfl (by rw [List.length_map]; exact hal) h4.1 ?_ (lv_room (by rw [hv_cats]; exact hst)) hd ⟨hcc, hss⟩) h2 h3 h4 k
  show List.map (hv_v G) (as.reverse ++ .ref a :: st) = _
  rw [List.map_append, List.map_reverse]
  rfl
theorem hw_callS (X : hv_X G p s m args c Ts own cc nL) {gw : List Cond} {y : MethodName} {bytes : ByteArray} {maxL : Nat} {ret : Option FieldType} {fr lo mc ms ix na n' : Nat} {hp' : hv_H} {r : Option Value} {as : List Value} (hM : hv_C G gw l y bytes maxL ret fr lo n hp as r n' hp' mc ms)
    (hd : decode cc pc = .ok (.invokestatic ix, 3)) (hgw : ∀ w ∈ gw, w ∈ Ts) (hkp : ∀ w ∈ gw, hv_keep w = true) (hcode : Cond.code y bytes maxL ret ∈ gw) (hini : Cond.initialized y.cls ∈ Ts) (hlink : Cond.methodLink own ix y ∈ Ts) (hstat : Cond.static y ∈ Ts)
    (hy : y.cls ≠ "java/lang/invoke/MethodHandle" ∧ y.cls ≠ "java/lang/invoke/VarHandle") (hna : (parseMethodDescriptor y.desc).map (fun d => d.parameters.length) = some na) (hal : as.length = na) (hfr : fr + 1 ≤ R.frames) (hlo : 8 + (maxL + 11) + lo ≤ R.locals) (hst : (st.map fun v => v.category).sum ≤ 8) (hcc : cells + mc ≤ R.cells) (hss : slots + ms ≤ R.slots)
    (k : hv_W G p l e R s m args below meth c nL Q n' hp' (cells + mc) (slots + ms) (pc + 3) lv (r.toList ++ st)) : hv_W G p l e R s m args below meth c nL Q n hp cells slots pc lv (as.reverse ++ st) := by
  intro H locs ls h1 h2 h3 h4
  have hB := hv_callB X (mc := mc) (ms := ms) hgw hkp hcode hini hlink hy hna hfr hlo
  refine hw_back (va_runS (As := as.map (hv_v G)) (rest := st.map (hv_v G)) ⟨X.1, X.2.1, X.2.2.1, X.2.2.2.1, X.2.2.2.2.1⟩ hM ⟨hB, X.2.2.2.2.1 _ hstat⟩ ⟨hv_blind G n hp _, hv_pre X h1 h2 as⟩ rfl (by rw [List.length_map]; exact hal) h4.1 ?_ (lv_room (by rw [hv_cats]; exact hst)) hd ⟨hcc, hss⟩) h2 h3 h4 k
  show List.map (hv_v G) (as.reverse ++ st) = _
  rw [List.map_append, List.map_reverse]
theorem hw_callSN (X : hv_X G p s m args c Ts own cc nL) {gw : List Cond} {y : MethodName} {bytes : ByteArray} {maxL : Nat} {ret : Option FieldType} {fr lo mc ms ix na n' : Nat} {host : String} {hp' : hv_H} {r : Option Value} {as : List Value} (hM : hv_C G gw l y bytes maxL ret fr lo n hp as r n' hp' mc ms)
    (hd : decode cc pc = .ok (.invokestatic ix, 3)) (hgw : ∀ w ∈ gw, w ∈ Ts) (hkp : ∀ w ∈ gw, hv_keep w = true) (hcode : Cond.code y bytes maxL ret ∈ gw) (hini : Cond.initialized y.cls ∈ Ts) (hlink : Cond.methodLinkNest own ix y host ∈ Ts) (hstat : Cond.static y ∈ Ts)
    (hy : y.cls ≠ "java/lang/invoke/MethodHandle" ∧ y.cls ≠ "java/lang/invoke/VarHandle") (hna : (parseMethodDescriptor y.desc).map (fun d => d.parameters.length) = some na) (hal : as.length = na) (hfr : fr + 1 ≤ R.frames) (hlo : 8 + (maxL + 11) + lo ≤ R.locals) (hst : (st.map fun v => v.category).sum ≤ 8) (hcc : cells + mc ≤ R.cells) (hss : slots + ms ≤ R.slots)
    (k : hv_W G p l e R s m args below meth c nL Q n' hp' (cells + mc) (slots + ms) (pc + 3) lv (r.toList ++ st)) : hv_W G p l e R s m args below meth c nL Q n hp cells slots pc lv (as.reverse ++ st) := by
  intro H locs ls h1 h2 h3 h4
  have hts := X.2.2.2.2.1
  have hB : va_CN R s args own ix y host bytes maxL ret (.code y bytes maxL ret :: gw) { frames := fr, cells := mc, slots := ms, locals := lo } mc ms na := by
    refine ⟨⟨rfl, rfl, hfr, hlo, ?_, List.mem_cons_self⟩, hts _ (hgw _ hcode), hts _ hini, hy, ?_, hts _ hlink⟩
    · intro w hw a' U hW
      have hw' : w ∈ gw := by
        rcases List.mem_cons.mp hw with h | h
        · rw [h]; exact hcode
        · exact h
      exact hv_keeps (hkp w hw') hW (hts _ (hgw w hw'))
    · intro sig h
      rw [h] at hna
      exact (Option.some.inj hna).symm
  refine hw_back (va_runSN (As := as.map (hv_v G)) (rest := st.map (hv_v G)) ⟨X.1, X.2.1, X.2.2.1, X.2.2.2.1, X.2.2.2.2.1⟩ hM ⟨hB, X.2.2.2.2.1 _ hstat, trivial⟩ ⟨hv_blind G n hp _, hv_pre X h1 h2 as⟩ rfl (by rw [List.length_map]; exact hal) h4.1 ?_ (lv_room (by rw [hv_cats]; exact hst)) hd ⟨hcc, hss⟩) h2 h3 h4 k
  show List.map (hv_v G) (as.reverse ++ st) = _
  rw [List.map_append, List.map_reverse]
theorem hw_iret (X : hv_X G p s m args c Ts own cc nL) {v : Value} {x : Int32} {ty : FieldType} (hlk : meth.locks = false) (hr : meth.sig.returnType = some ty) (hv : hv_v G v = .int x) (hn : narrow ty (.int x) = .int x) (hd : decode cc pc = .ok (.ireturn, 1)) :
    hv_W G p l e R s m args below meth c nL (MQ below (hv_Qc G n hp (some v)) args s cells slots (fun q => G.1.1 ≤ q)) n hp cells slots pc lv [v] := by
  intro H locs ls h1 h2 h3 h4
  show W p l e R s m args below meth c H locs cells slots _ (F0 m pc ls [hv_v G v])
  rw [hv]
  exact W.zret X.1 X.2.1 hr hn (fun t ht _ => ⟨by rw [Option.map_some, hv], by rw [ht]; exact h1, fun q hq => by rw [ht]; exact h2 q hq⟩) h3 hd hlk
theorem hw_lret (X : hv_X G p s m args c Ts own cc nL) {x : Int64} (hlk : meth.locks = false) (hr : meth.sig.returnType = some .long) (hd : decode cc pc = .ok (.lreturn, 1)) :
    hv_W G p l e R s m args below meth c nL (MQ below (hv_Qc G n hp (some (.long x))) args s cells slots (fun q => G.1.1 ≤ q)) n hp cells slots pc lv [.long x] := by
  intro H locs ls h1 h2 h3 h4
  exact W.lret X.1 X.2.1 hr (fun t ht _ => ⟨rfl, by rw [ht]; exact h1, fun q hq => by rw [ht]; exact h2 q hq⟩) h3 hd hlk
theorem hw_aret (X : hv_X G p s m args c Ts own cc nL) {a : Nat} {ty : FieldType} (hlk : meth.locks = false) (hr : meth.sig.returnType = some ty) (hrt : (∃ n, ty = .object n) ∨ ∃ t, ty = .array t) (hd : decode cc pc = .ok (.areturn, 1)) :
    hv_W G p l e R s m args below meth c nL (MQ below (hv_Qc G n hp (some (.ref a))) args s cells slots (fun q => G.1.1 ≤ q)) n hp cells slots pc lv [.ref a] := by
  intro H locs ls h1 h2 h3 h4
  exact W.aret X.1 X.2.1 hr hrt (Or.inr ⟨_, rfl⟩) (fun t ht _ => ⟨rfl, by rw [ht]; exact h1, fun q hq => by rw [ht]; exact h2 q hq⟩) h3 hd hlk
theorem hw_vret (X : hv_X G p s m args c Ts own cc nL) (hlk : meth.locks = false) (hr : meth.sig.returnType = none) (hd : decode cc pc = .ok (.return_, 1)) :
    hv_W G p l e R s m args below meth c nL (MQ below (hv_Qc G n hp none) args s cells slots (fun q => G.1.1 ≤ q)) n hp cells slots pc lv [] := by
  intro H locs ls h1 h2 h3 h4
  exact W.vret X.1 X.2.1 hr (fun t ht _ => ⟨rfl, by rw [ht]; exact h1, fun q hq => by rw [ht]; exact h2 q hq⟩) h3 hd hlk
theorem hw_widen {k1 k2 : Nat} (h1 : cells ≤ k1) (h2 : slots ≤ k2) (k : hv_W G p l e R s m args below meth c nL Q n hp k1 k2 pc lv st) : hv_W G p l e R s m args below meth c nL Q n hp cells slots pc lv st := fun H locs ls g1 g2 g3 g4 => W.widen h1 h2 (k H locs ls g1 g2 g3 g4)
theorem hw_heap {hp' : hv_H} (h : ∀ i, hp i = hp' i) (k : hv_W G p l e R s m args below meth c nL Q n hp' cells slots pc lv st) : hv_W G p l e R s m args below meth c nL Q n hp cells slots pc lv st := by
  have : hp = hp' := funext h
  rw [this]
  exact k
end HWC
theorem hv_args_map (G : hv_G) (as : List Value) : ∀ i : Nat, lv_args i (as.map (hv_v G)) = hv_l G (lv_args i as) := by
  induction as with
  | nil => intro i; rfl
  | cons v vs ih =>
    intro i
    show (i, hv_v G v) :: lv_args (if (hv_v G v).category = 2 then i + 2 else i + 1) (vs.map (hv_v G)) = (i, hv_v G v) :: hv_l G (lv_args (if v.category = 2 then i + 2 else i + 1) vs)
    rw [hv_cat, ih]
def hv_words (as : List Value) : Nat := (as.map fun v => v.category).sum
theorem hv_sl_len (G : hv_G) (as : List Value) : (lg_sl (as.map (hv_v G))).length = hv_words as := by
  induction as with
  | nil => rfl
  | cons v vs ih =>
    have hc : v.category = 1 ∨ v.category = 2 := lv_cat v
    have e : lg_sl ((v :: vs).map (hv_v G)) = (if (hv_v G v).category = 2 then [.val (hv_v G v), .second] else [.val (hv_v G v)]) ++ lg_sl (vs.map (hv_v G)) := by simp [lg_sl]
    rw [e, List.length_append, ih, hv_cat]
    unfold hv_words
    rcases hc with h | h <;> simp [h]
theorem hv_ofW {l : Launch} {y : MethodName} {ws ws' : List Cond} {rm : Room} {Pc : Array Value → State → Prop} {Qc : Array Value → State → Outcome → State → Prop} {mc ms : Nat} {free : Addr → Prop} {cc : ByteArray} {maxL : Nat} {ret : Option FieldType}
    (hy : plainFor y = true) (hw : ws = Cond.code y cc maxL ret :: ws')
    (body : ∀ p e s m args below meth c s₁, BodyLoose p l y (headSpec ws rm) cc maxL ret e s m args below meth c s₁ → c.maxLocals = maxL → Pc args s →
      W p l e (headSpec ws rm).room s m args below meth c s.heap [] 0 0 (MQ below Qc args s mc ms free) (entryFrame m args maxL)) : Met l y ws rm Pc Qc mc ms free := by
  refine MetFree.of_bodySF (code := cc) (maxLocals := maxL) (ret := ret) hy ?_ ?_
  · intro args s m h hn
    obtain ⟨meth, c, h1, h2, h3, h4, h5, h6, -, -⟩ := Cond.code_spec hn (atoms_spec (ws := ws) h _ (by rw [hw]; exact List.mem_cons_self))
    exact ⟨meth, c, h1, h2, h3, h4, h5, h6⟩
  · intro p e s m args below meth c s₁ B hml hP _
    have hh0 : s₁.heap = s.heap := by rw [B.state]; rfl
    obtain ⟨t, a1, o, b1, b2, b3⟩ := body p e s m args below meth c s₁ B hml hP s₁ hh0 (Stand.of_body B)
    exact ⟨t, o, a1, b1, b2, ⟨b3.1, b3.2⟩⟩
/-- a contract out of the walk of the method's body -/
theorem hv_C.of {G : hv_G} {gw : List Cond} {l : Launch} {y : MethodName} {bytes : ByteArray} {maxL : Nat} {ret : Option FieldType} {fr lo : Nat} {n : Nat} {hp : hv_H} {as : List Value} {r : Option Value} {n' : Nat} {hp' : hv_H} {mc ms : Nat} (hy : plainFor y = true) (hal : hv_words as ≤ maxL)
    (k : ∀ (p : Program) (e : Env) (s : State) (m : MethodId) (args : Array Value) (below : List Frame) (meth : Method) (c : Code), hv_X G p s m args c (.code y bytes maxL ret :: gw) y.cls bytes maxL → meth.sig.returnType = ret → meth.locks = false → meth.name = y.name →
      hv_W G p l e { frames := fr, cells := mc, slots := ms, locals := lo } s m args below meth c maxL (MQ below (hv_Qc G n' hp' r) args s mc ms (fun q => G.1.1 ≤ q)) n hp 0 0 0 (lv_args 0 as) []) : hv_C G gw l y bytes maxL ret fr lo n hp as r n' hp' mc ms := by
  refine hv_ofW (cc := bytes) (maxL := maxL) (ret := ret) hy rfl ?_
  intro p e s m args below meth c s₁ B hml hv
  obtain ⟨rfl, h1, h2, h3, hk, h4⟩ := hv
  have hts := atoms_spec (ws := .code y bytes maxL ret :: gw) B.pre
  have hown : s.vm.findClass y.cls = some m.cls := findClass_of_methodNamed B.named
  have hX : hv_X G p s m (as.map (hv_v G)).toArray c (.code y bytes maxL ret :: gw) y.cls bytes maxL := ⟨B.exec, B.bytes, hml, hown, hts, h2, by rw [h1.1]; omega, h3, hk, h4⟩
  have hl := lv_entry (as.map (hv_v G)) (n := maxL) (by rw [hv_sl_len]; exact hal)
  rw [lg_entry_eq]
  rw [hv_args_map] at hl
  exact k p e s m _ below meth c hX B.returns B.notSynchronized (name_of_methodNamed B.named B.method).1 s.heap [] _ h1 (fun q _ => rfl) (fun q hq => absurd hq List.not_mem_nil) hl
end
section
/-! new int[N][K]: the outer array and N rows behind it -/
def hv_mH (hp : hv_H) (n N K : Nat) : hv_H := fun j => if j = n then some (.inl (5, N, fun i => if i < N then .ref (n + 1 + i + 1) else .null)) else if n < j ∧ j < n + 1 + N then some (.inl (1, K, fun _ => .int 0)) else hp j
theorem hv_outer (G : hv_G) (c : ClassId) (N n : Nat) : ∀ i : Nat, Jvm.Free.Multi.outerC c N (G.1.1 + n) i = arrV c N (fun j => hv_v G (if j < i then .ref (n + 1 + j + 1) else .null))
  | 0 => by
    show ({ cls := c, slots := Array.replicate N .null, vm := .none } : Cell) = _
    rw [arrV_new]
    refine congrArg (arrV c N) (funext fun j => ?_)
    simp [hv_v]
  | i + 1 => by
    show (Jvm.Free.Multi.outerC c N (G.1.1 + n) i).setSlot i (.ref (G.1.1 + n + 1 + i)) = _
    rw [hv_outer G c N n i, arrV_store]
    refine congrArg (arrV c N) (funext fun j => ?_)
    by_cases e : j = i
    · subst e
      simp only [updV, if_true, Nat.lt_succ_self]
      show Value.ref _ = Value.ref _
      congr 1
      show _ = G.1.1 + (n + 1 + j)
      omega
    · by_cases h : j < i
      · simp [updV, e, h, Nat.lt_succ_of_lt h]
      · simp [updV, e, h, show ¬ j < i + 1 by omega]
section HWM
variable {G : hv_G} {p : Program} {l : Launch} {e : Env} {R : Room} {s : State} {m : MethodId} {args : Array Value} {below : List Frame} {meth : Method} {c : Code} {nL : Nat} {Q : State → Prop} {n : Nat} {hp : hv_H} {cells slots pc : Nat} {lv : List (Nat × Value)} {st : List Value} {Ts : List Cond} {own : String} {cc : ByteArray}
theorem hw_mna (X : hv_X G p s m args c Ts own cc nL) {ix N K : Nat} {a b : Int32} (hd : decode cc pc = .ok (.multianewarray ix 2, 4)) (hw1 : Cond.classLink own ix ("[" ++ (FieldType.array .int).toString) ∈ Ts) (hw2 : Cond.arrayOver (.array .int) ∈ Ts) (hw3 : Cond.arrayClass .int ∈ Ts) (ha : ¬ a < 0) (hb' : ¬ b < 0) (hN : a.toNatClampNeg = N) (hK' : b.toNatClampNeg = K) (g1 : N * 4 ≤ 536870912) (g2 : K * 4 ≤ 536870912) (hc : cells + (1 + N) ≤ R.cells) (hs : slots + (N + N * K) ≤ R.slots)
    (k : hv_W G p l e R s m args below meth c nL Q (n + 1 + N) (hv_mH hp n N K) (cells + 1 + N) (slots + N + N * K) (pc + 4) lv (.ref (n + 1) :: st)) : hv_W G p l e R s m args below meth c nL Q n hp cells slots pc lv (.int b :: .int a :: st) := by
  intro H locs ls h1 h2 h3 h4
  subst hN
  subst hK'
  obtain ⟨hx, hb, hml, hown, hts, hK, hB, hbB, hxK, hX⟩ := X
  intro T hT Xs
  obtain ⟨vm₁, cA, comp, -, fA, fC, hO, -, X', step⟩ := Xs.multianewarray2F hx hown (hts _ hw1) (hts _ hw2) (hts _ hw3) (g := F0 m pc ls (.int b :: .int a :: st.map (hv_v G))) rfl (by rw [hb]; exact hd) rfl ha hb' g1 g2 (by omega) rfl rfl hc hs
  have hcI : comp = G.2.2.2 1 := by
    have hR : s.vm.findClass ("[" ++ (FieldType.int).toString) = some (G.2.2.2 1) := (hK.2 1 _ (hv_tys_at rfl)).2
    exact Option.some.inj (fC.symm.trans hR)
  have hcA : cA = G.2.2.2 5 := by
    have hR : s.vm.findClass ("[" ++ (FieldType.array .int).toString) = some (G.2.2.2 5) := (hK.2 5 _ (hv_tys_at rfl)).2
    exact Option.some.inj (fA.symm.trans hR)
  subst hcI
  subst hcA
  generalize hF : Jvm.Free.Multi.fill (T.setVm vm₁) (G.2.2.2 5) (G.2.2.2 1) a.toNatClampNeg b.toNatClampNeg (defaultValue .int) a.toNatClampNeg = F at X' step
  have hTh : (T.setVm vm₁).heap = H := hT
  obtain ⟨f1, f2, -, -⟩ := Jvm.Free.Multi.fill_facts (T.setVm vm₁) (G.2.2.2 5) (G.2.2.2 1) a.toNatClampNeg b.toNatClampNeg (defaultValue .int) a.toNatClampNeg
  rw [hF, hTh] at f1 f2
  have hold : ∀ x : Nat, x < H.size → F.heap[x]? = H[x]? := fun x hx => by
    have := Jvm.Free.Multi.fill_old (T.setVm vm₁) (G.2.2.2 5) (G.2.2.2 1) a.toNatClampNeg b.toNatClampNeg (defaultValue .int) (a := x) (by rw [hTh]; exact hx) a.toNatClampNeg
    rw [hF, hTh] at this
    exact this
  have hrow : ∀ j : Nat, j < a.toNatClampNeg → F.heap[H.size + 1 + j]? = some (arrV (G.2.2.2 1) b.toNatClampNeg (fun _ => .int 0)) := fun j hj => by
    have := Jvm.Free.Multi.fill_inner (T.setVm vm₁) (G.2.2.2 5) (G.2.2.2 1) a.toNatClampNeg b.toNatClampNeg (defaultValue .int) a.toNatClampNeg j hj
    rw [hF, hTh] at this
    rw [this]
    exact congrArg some (arrV_new _ _ _)
  have hsz : H.size = G.1.1 + n := h1.1
  rw [hsz, hv_outer] at f2
  have hP : hv_P G (n + 1 + a.toNatClampNeg) (hv_mH hp n a.toNatClampNeg b.toNatClampNeg) F.heap := by
    refine ⟨by rw [f1, hsz]; omega, fun i x hi => ?_⟩
    unfold hv_mH at hi
    by_cases e1 : i = n
    · subst e1
      rw [if_pos rfl] at hi
      cases hi
      exact f2
    · rw [if_neg e1] at hi
      by_cases e2 : n < i ∧ i < n + 1 + a.toNatClampNeg
      · rw [if_pos e2] at hi
        cases hi
        have := hrow (i - n - 1) (by omega)
        rw [show H.size + 1 + (i - n - 1) = G.1.1 + i by rw [hsz]; omega] at this
        exact this
      · rw [if_neg e2] at hi
        exact (h1.2 i x hi).kept (hold _ (h1.2 i x hi).lt)
  have hk := k F.heap locs ls hP (hv_low' h2 (by rw [hsz]; omega) hold) h3 h4
  obtain ⟨t, a1, b1⟩ := hk F rfl X'
  refine ⟨t, step t ?_, b1⟩
  have hTz : T.heap.size = G.1.1 + n := by rw [hT]; exact hsz
  rw [hTz]
  exact a1
end HWM
end
section
/-! THE MACHINE OF THE WORLD, as a function that the kernel can compute: cells as lists, thirty-two to a row -/
abbrev hc_C : Type := (Nat × List Value) ⊕ (Nat × List Value)
abbrev hc_H : Type := List (List (Option hc_C))
abbrev hc_I : Type := Instr × Nat × Nat × Nat
abbrev hc_K : Type := List (List (Option hc_I))
abbrev hc_M : Type := MethodName × ByteArray × Nat × Option FieldType × Nat × Nat × hc_K
abbrev hc_S : Type := Nat × List Value × List Value × Nat × hc_H × Nat × Nat
abbrev hc_R : Type := Option Value × Nat × hc_H × Nat × Nat
noncomputable def hc_nth {α : Type} (l : List α) : Nat → Option α := List.rec (motive := fun _ => Nat → Option α) (fun _ => none) (fun a _ ih n => Nat.rec (motive := fun _ => Option α) (some a) (fun m _ => ih m) n) l
noncomputable def hc_set {α : Type} (l : List α) : Nat → α → List α := List.rec (motive := fun _ => Nat → α → List α) (fun _ _ => []) (fun a t ih n x => Nat.rec (motive := fun _ => List α) (x :: t) (fun m _ => a :: ih m x) n) l
noncomputable def hc_get {α : Type} (t : List (List (Option α))) (i : Nat) : Option α := match hc_nth t (i / 32) with
  | none => none
  | some ch => match hc_nth ch (i % 32) with
    | none => none
    | some x => x
noncomputable def hc_put (t : hc_H) (i : Nat) (e : hc_C) : Option hc_H := match hc_nth t (i / 32) with
  | none => none
  | some ch => match hc_nth ch (i % 32) with
    | none => none
    | some _ => some (hc_set t (i / 32) (hc_set ch (i % 32) (some e)))
theorem hc_nth_eq {α : Type} : ∀ (l : List α) (n : Nat), hc_nth l n = l[n]?
  | [], n => by simp [hc_nth]
  | a :: l, 0 => rfl
  | a :: l, n + 1 => by
    show hc_nth l n = _
    rw [hc_nth_eq l n]
    simp
theorem hc_set_eq {α : Type} : ∀ (l : List α) (n : Nat) (x : α), hc_set l n x = l.set n x
  | [], n, x => by simp [hc_set]
  | a :: l, 0, x => rfl
  | a :: l, n + 1, x => by
    show a :: hc_set l n x = _
    rw [hc_set_eq l n x]
    rfl
theorem hc_get_put {t t' : hc_H} {i : Nat} {e : hc_C} (h : hc_put t i e = some t') (j : Nat) : hc_get t' j = if j = i then some e else hc_get t j := by
  unfold hc_put at h
  split at h
  · cases h
  next ch h1 =>
    split at h
    · cases h
    next x h2 =>
      cases h
      rw [hc_nth_eq] at h1 h2
      have l1 : i / 32 < t.length := (List.getElem?_eq_some_iff.mp h1).1
      have l2 : i % 32 < ch.length := (List.getElem?_eq_some_iff.mp h2).1
      unfold hc_get
      rw [hc_nth_eq, hc_set_eq, hc_set_eq, List.getElem?_set]
      by_cases e1 : i / 32 = j / 32
      · rw [if_pos e1, if_pos (by omega)]
        simp only [hc_nth_eq]
        rw [List.getElem?_set]
        by_cases e2 : i % 32 = j % 32
        · have : j = i := by omega
          subst this
          simp [l2]
        · have : ¬ j = i := fun q => e2 (by rw [q])
          rw [if_neg e2, if_neg this]
          rw [← e1, h1]
      · have : ¬ j = i := fun q => e1 (by rw [q])
        rw [if_neg e1, if_neg this]
        simp only [hc_nth_eq]
def hc_toE (c : hc_C) : hv_E := match c with
  | .inl a => .inl (a.1, a.2.length, fun j => a.2.getD j .null)
  | .inr o => .inr (o.1, fun j => o.2.getD j .null)
noncomputable def hc_f (h : hc_H) : hv_H := fun i => (hc_get h i).map hc_toE
theorem hc_f_put {t t' : hc_H} {i : Nat} {e : hc_C} (h : hc_put t i e = some t') : hc_f t' = hv_up (hc_f t) i (hc_toE e) := by
  funext j
  unfold hc_f hv_up
  rw [hc_get_put h j]
  by_cases hj : j = i <;> simp [hj]
noncomputable def hc_pop (na : Nat) : List Value → List Value → Option (List Value × List Value) := Nat.rec (motive := fun _ => List Value → List Value → Option (List Value × List Value)) (fun st acc => some (acc, st)) (fun _ ih st acc => match st with
  | [] => none
  | v :: st => ih st (v :: acc)) na
theorem hc_pop_eq : ∀ (na : Nat) (st acc as rest : List Value), hc_pop na st acc = some (as, rest) → ∃ bs : List Value, as = bs ++ acc ∧ bs.length = na ∧ st = bs.reverse ++ rest
  | 0, st, acc, as, rest, h => by
    cases h
    exact ⟨[], rfl, rfl, rfl⟩
  | na + 1, [], acc, as, rest, h => by cases h
  | na + 1, v :: st, acc, as, rest, h => by
    have h' : hc_pop na st (v :: acc) = some (as, rest) := h
    obtain ⟨bs, h1, h2, h3⟩ := hc_pop_eq na st (v :: acc) as rest h'
    exact ⟨bs ++ [v], by simp [h1], by simp [h2], by simp [h3]⟩
noncomputable def hc_cat (st : List Value) : Nat := List.rec (motive := fun _ => Nat) 0 (fun v _ ih => (match v with
  | .long _ => 2
  | .double _ => 2
  | _ => 1) + ih) st
theorem hc_cat_eq : ∀ st : List Value, hc_cat st = (st.map fun v => v.category).sum
  | [] => rfl
  | v :: st => by
    show _ + hc_cat st = _
    rw [hc_cat_eq st]
    cases v <;> simp [Value.category]
/-- the locals: a list; .retAddr stands for none, .double for a long's second half -/
noncomputable def hc_ent (as : List Value) : Nat → List Value := List.rec (motive := fun _ => Nat → List Value) (fun n => List.replicate n (.retAddr 0)) (fun v _ ih n => match v with
  | .long x => .long x :: .double 0 :: ih (n - 2)
  | .double x => .double x :: .double 0 :: ih (n - 2)
  | v => v :: ih (n - 1)) as
def hc_isV (v : Value) : Bool := match v with
  | .retAddr _ => false
  | .double _ => false
  | _ => true
def hc_lv (l : List Value) : List (Nat × Value) := (List.range l.length).filterMap (fun i => match l[i]? with
  | some v => if hc_isV v then some (i, v) else none
  | none => none)
theorem hc_lv_mem {l : List Value} {i : Nat} {v : Value} : (i, v) ∈ hc_lv l ↔ l[i]? = some v ∧ hc_isV v = true := by
  unfold hc_lv
  rw [List.mem_filterMap]
  constructor
  · rintro ⟨j, -, h⟩
    split at h
    next w hw =>
      split at h
      next hv => cases h; exact ⟨hw, hv⟩
      · cases h
    · cases h
  · rintro ⟨h1, h2⟩
    refine ⟨i, List.mem_range.mpr (List.getElem?_eq_some_iff.mp h1).1, ?_⟩
    rw [h1]
    simp [h2]
def hc_two (v : Option Value) : Bool := match v with
  | some (.long _) => true
  | _ => false
def hc_two2 (v : Value) : Bool := match v with
  | .long _ => true
  | .double _ => true
  | _ => false
/-- a store of one word, of two words -/
noncomputable def hc_s1 (l : List Value) (i : Nat) (v : Value) : Option (List Value) := match hc_nth l i with
  | none => none
  | some _ => Nat.rec (motive := fun _ => Option (List Value)) (some (hc_set l i v)) (fun m _ => match hc_two (hc_nth l m) with
    | true => none
    | false => some (hc_set l i v)) i
noncomputable def hc_s2 (l : List Value) (i : Nat) (v : Value) : Option (List Value) := match hc_nth l (i + 1) with
  | none => none
  | some _ => Nat.rec (motive := fun _ => Option (List Value)) (some (hc_set (hc_set l i v) (i + 1) (.double 0))) (fun m _ => match hc_two (hc_nth l m) with
    | true => none
    | false => some (hc_set (hc_set l i v) (i + 1) (.double 0))) i
theorem hc_s1_ok {l l' : List Value} {i : Nat} {v : Value} (h : hc_s1 l i v = some l') : i < l.length ∧ l' = l.set i v ∧ ∀ (j : Nat) (w : Value), l[j]? = some w → hc_isV w = true → ¬ (j + 1 = i ∧ w.category = 2) := by
  unfold hc_s1 at h
  split at h
  · cases h
  next x hx =>
    rw [hc_nth_eq] at hx
    refine ⟨(List.getElem?_eq_some_iff.mp hx).1, ?_⟩
    cases i with
    | zero =>
      cases h
      exact ⟨hc_set_eq _ _ _, fun j w _ _ q => by omega⟩
    | succ m =>
      dsimp only at h
      split at h
      · cases h
      next ht =>
        cases h
        refine ⟨hc_set_eq _ _ _, fun j w hw hv q => ?_⟩
        have e : j = m := by omega
        subst e
        rw [hc_nth_eq, hw] at ht
        cases w <;> simp_all [hc_two, Value.category, hc_isV]
theorem hc_s2_ok {l l' : List Value} {i : Nat} {v : Value} (h : hc_s2 l i v = some l') : i + 1 < l.length ∧ l' = (l.set i v).set (i + 1) (.double 0) ∧ ∀ (j : Nat) (w : Value), l[j]? = some w → hc_isV w = true → ¬ (j + 1 = i ∧ w.category = 2) := by
  unfold hc_s2 at h
  split at h
  · cases h
  next x hx =>
    rw [hc_nth_eq] at hx
    refine ⟨(List.getElem?_eq_some_iff.mp hx).1, ?_⟩
    cases i with
    | zero =>
      cases h
      exact ⟨by rw [hc_set_eq, hc_set_eq], fun j w _ _ q => by omega⟩
    | succ m =>
      dsimp only at h
      split at h
      · cases h
      next ht =>
        cases h
        refine ⟨by rw [hc_set_eq, hc_set_eq], fun j w hw hv q => ?_⟩
        have e : j = m := by omega
        subst e
        rw [hc_nth_eq, hw] at ht
        cases w <;> simp_all [hc_two, Value.category, hc_isV]
theorem hc_lv_s1 {l l' : List Value} {i : Nat} {v : Value} (h : hc_s1 l i v = some l') : ∀ q ∈ hc_lv l', q ∈ hv_s1 i v (hc_lv l) := by
  obtain ⟨h1, h2, h3⟩ := hc_s1_ok h
  subst h2
  rintro ⟨j, w⟩ hq
  obtain ⟨g1, g2⟩ := hc_lv_mem.mp hq
  rw [List.getElem?_set] at g1
  unfold hv_s1
  by_cases e : i = j
  · subst e
    rw [if_pos rfl, if_pos h1] at g1
    cases g1
    exact List.mem_cons_self
  · rw [if_neg e] at g1
    refine List.mem_cons_of_mem _ (List.mem_filter.mpr ⟨hc_lv_mem.mpr ⟨g1, g2⟩, ?_⟩)
    have hn := h3 j w g1 g2
    have e' : ¬ j = i := fun q => e q.symm
    by_cases e2 : j + 1 = i
    · have : ¬ w.category = 2 := fun q => hn ⟨e2, q⟩
      simp [e', this]
    · simp [e', e2]
theorem hc_lv_s2 {l l' : List Value} {i : Nat} {v : Value} (h : hc_s2 l i v = some l') : ∀ q ∈ hc_lv l', q ∈ hv_s2 i v (hc_lv l) := by
  obtain ⟨h1, h2, h3⟩ := hc_s2_ok h
  subst h2
  rintro ⟨j, w⟩ hq
  obtain ⟨g1, g2⟩ := hc_lv_mem.mp hq
  rw [List.getElem?_set] at g1
  unfold hv_s2
  by_cases e0 : i + 1 = j
  · rw [if_pos e0, if_pos (by rw [List.length_set]; omega)] at g1
    cases g1
    cases g2
  · rw [if_neg e0, List.getElem?_set] at g1
    by_cases e : i = j
    · subst e
      rw [if_pos rfl, if_pos (by omega)] at g1
      cases g1
      exact List.mem_cons_self
    · rw [if_neg e] at g1
      refine List.mem_cons_of_mem _ (List.mem_filter.mpr ⟨hc_lv_mem.mpr ⟨g1, g2⟩, ?_⟩)
      have hn := h3 j w g1 g2
      have e' : ¬ j = i := fun q => e q.symm
      have e0' : ¬ j = i + 1 := fun q => e0 q.symm
      by_cases e2 : j + 1 = i
      · have : ¬ w.category = 2 := fun q => hn ⟨e2, q⟩
        simp [e', e0', this]
      · simp [e', e0', e2]
theorem hc_ent_at : ∀ (as : List Value) (n i : Nat) (v : Value), hv_words as ≤ n → (hc_ent as n)[i]? = some v → hc_isV v = true → ∀ b : Nat, (b + i, v) ∈ lv_args b as
  | [], n, i, v, _, h, hv, b => by
    have h' : (List.replicate n (Value.retAddr 0))[i]? = some v := h
    rw [List.getElem?_replicate] at h'
    split at h'
    · cases h'; cases hv
    · cases h'
  | a :: as, n, i, v, hw, h, hv, b => by
    have hwa : hv_words (a :: as) = a.category + hv_words as := by simp [hv_words]
    by_cases hc : a.category = 2
    · cases a with
      | long x =>
        have h' : (Value.long x :: .double 0 :: hc_ent as (n - 2))[i]? = some v := h
        match i, h' with
        | 0, h' => cases h'; exact List.mem_cons_self
        | 1, h' => cases h'; cases hv
        | i + 2, h' =>
          have := hc_ent_at as (n - 2) i v (by rw [hwa, hc] at hw; omega) h' hv (b + 2)
          rw [show b + 2 + i = b + (i + 2) by omega] at this
          exact List.mem_cons_of_mem _ this
      | double x =>
        have h' : (Value.double x :: .double 0 :: hc_ent as (n - 2))[i]? = some v := h
        match i, h' with
        | 0, h' => cases h'; cases hv
        | 1, h' => cases h'; cases hv
        | i + 2, h' =>
          have := hc_ent_at as (n - 2) i v (by rw [hwa, hc] at hw; omega) h' hv (b + 2)
          rw [show b + 2 + i = b + (i + 2) by omega] at this
          exact List.mem_cons_of_mem _ this
      | int x => cases hc
      | float x => cases hc
      | null => cases hc
      | ref x => cases hc
      | retAddr x => cases hc
    · have hc1 : a.category = 1 := (lv_cat a).resolve_right hc
      have h' : (a :: hc_ent as (n - 1))[i]? = some v := by
        cases a <;> first | exact h | exact absurd rfl hc
      match i, h' with
      | 0, h' => cases h'; exact List.mem_cons_self
      | i + 1, h' =>
        have := hc_ent_at as (n - 1) i v (by rw [hwa, hc1] at hw; omega) h' hv (b + 1)
        rw [show b + 1 + i = b + (i + 1) by omega] at this
        show _ ∈ (b, a) :: lv_args (if a.category = 2 then b + 2 else b + 1) as
        rw [if_neg hc]
        exact List.mem_cons_of_mem _ this
/-- one instruction -/
def hc_nx (pc : Nat) (l st : List Value) (n : Nat) (h : hc_H) (c s : Nat) : Option (hc_S ⊕ Option Value) := some (.inl (pc, l, st, n, h, c, s))
noncomputable def hc_ld (l : List Value) (i : Nat) (k : Value → Option (hc_S ⊕ Option Value)) : Option (hc_S ⊕ Option Value) := match hc_nth l i with
  | none => none
  | some v => k v
noncomputable def hc_cmp (op : Jvm.ClassFile.Cond) (x y : Int32) : Bool := match op with
  | .eq => decide (x = y)
  | .ne => !decide (x = y)
  | .lt => decide (x < y)
  | .ge => decide (y ≤ x)
  | .gt => decide (y < x)
  | .le => decide (x ≤ y)
def hc_arr (t : Nat) (e : Option hc_C) : Option (List Value) := match e with
  | some (.inl a) => match Nat.beq a.1 t with
    | true => some a.2
    | false => none
  | _ => none
def hc_obj (t : Nat) (e : Option hc_C) : Option (List Value) := match e with
  | some (.inr a) => match Nat.beq a.1 t with
    | true => some a.2
    | false => none
  | _ => none
def hc_isI (v : Value) : Bool := match v with
  | .int _ => true
  | .float _ => true
  | _ => false
def hc_fit (ty : FieldType) (v : Value) : Bool := match ty with
  | .int => hc_isI v
  | .boolean => match v with
    | .int x => decide (x = 0) || decide (x = 1)
    | _ => false
  | .object _ => match v with
    | .ref _ => true
    | .null => true
    | _ => false
  | .array _ => match v with
    | .ref _ => true
    | .null => true
    | _ => false
  | _ => false
def hc_rtv (ret : Option FieldType) (v : Value) : Bool := match ret with
  | some .int => hc_isI v
  | some .boolean => match v with
    | .int x => decide (x = 0) || decide (x = 1)
    | _ => false
  | _ => false
/-- the element at j -/
noncomputable def hc_el (l : List Value) (j : Int32) : Option Value := match decide (j < 0) with
  | true => none
  | false => hc_nth l j.toNatClampNeg
noncomputable def hc_ald (t : Nat) (pc : Nat) (l st : List Value) (n : Nat) (h : hc_H) (c s : Nat) : Option (hc_S ⊕ Option Value) := match st with
  | .int j :: .ref (i + 1) :: st => match hc_arr t (hc_get h i) with
    | none => none
    | some a => match hc_el a j with
      | none => none
      | some v => hc_nx (pc + 1) l (v :: st) n h c s
  | _ => none
noncomputable def hc_ast (t i : Nat) (j : Int32) (v : Value) (pc : Nat) (l st : List Value) (n : Nat) (h : hc_H) (c s : Nat) : Option (hc_S ⊕ Option Value) := match hc_arr t (hc_get h i) with
  | none => none
  | some a => match hc_el a j with
    | none => none
    | some _ => match hc_put h i (.inl (t, hc_set a j.toNatClampNeg v)) with
      | none => none
      | some h' => hc_nx (pc + 1) l st n h' c s
def hc_app (r : Option Value) (st : List Value) : List Value := match r with
  | none => st
  | some v => v :: st
def hc_tyX (ci kf : Nat) : FieldType := match ci with
  | 0 => tyX0 kf
  | 1 => tyX1 kf
  | 2 => tyX2 kf
  | 3 => tyX3 kf
  | 4 => tyX4 kf
  | 5 => tyX5 kf
  | 6 => tyX6 kf
  | 7 => tyX7 kf
  | 8 => tyX8 kf
  | 9 => tyX9 kf
  | _ => tyX10 kf
def hc_nf (ci : Nat) : Nat := match ci with
  | 0 => 6
  | 1 => 6
  | 2 => 11
  | 3 => 3
  | 4 => 9
  | 5 => 8
  | 6 => 4
  | 7 => 3
  | 8 => 2
  | 9 => 17
  | _ => 64
noncomputable def hc_rows (t : hc_H) (n : Nat) (K : Nat) (N : Nat) : Option hc_H := Nat.rec (motive := fun _ => Option hc_H) (some t) (fun i ih => match ih with
  | none => none
  | some t => hc_put t (n + i) (.inl (1, List.replicate K (.int 0)))) N
section HCS
variable (pg : List (List (Option hc_M))) (call : Nat → hc_M → List Value → Nat → hc_H → Option hc_R)
noncomputable def hc_inv0 (k : Nat) (pc : Nat) (l st : List Value) (n : Nat) (h : hc_H) (c s : Nat) : Option (hc_S ⊕ Option Value) := match hc_get pg k with
  | none => none
  | some e => match hc_pop e.2.2.2.2.2.1 st [] with
    | none => none
    | some (as, rest) => match rest with
      | .ref (i + 1) :: rest => match hc_obj e.2.2.2.2.1 (hc_get h i) with
        | none => none
        | some _ => match Nat.ble (hc_cat rest) 8 with
          | false => none
          | true => match call k e (.ref (i + 1) :: as) n h with
            | none => none
            | some (r, n', h', mc, ms) => hc_nx (pc + 3) l (hc_app r rest) n' h' (c + mc) (s + ms)
      | _ => none
noncomputable def hc_inv1 (k : Nat) (pc : Nat) (l st : List Value) (n : Nat) (h : hc_H) (c s : Nat) : Option (hc_S ⊕ Option Value) := match hc_get pg k with
  | none => none
  | some e => match hc_pop e.2.2.2.2.2.1 st [] with
    | none => none
    | some (as, rest) => match rest with
      | .ref a :: rest => match Nat.ble (hc_cat rest) 8 with
        | false => none
        | true => match call k e (.ref a :: as) n h with
          | none => none
          | some (r, n', h', mc, ms) => hc_nx (pc + 3) l (hc_app r rest) n' h' (c + mc) (s + ms)
      | _ => none
noncomputable def hc_inv2 (k : Nat) (pc : Nat) (l st : List Value) (n : Nat) (h : hc_H) (c s : Nat) : Option (hc_S ⊕ Option Value) := match hc_get pg k with
  | none => none
  | some e => match hc_pop e.2.2.2.2.2.1 st [] with
    | none => none
    | some (as, rest) => match Nat.ble (hc_cat rest) 8 with
      | false => none
      | true => match call k e as n h with
        | none => none
        | some (r, n', h', mc, ms) => hc_nx (pc + 3) l (hc_app r rest) n' h' (c + mc) (s + ms)
end HCS
noncomputable def hi_iconst (r1 : Nat) (pc : Nat) (l st : List Value) (n : Nat) (h : hc_H) (c s : Nat) : Option (hc_S ⊕ Option Value) := hc_nx (pc + 1) l (.int (Int32.ofNat r1) :: st) n h c s
noncomputable def hi_bipush (r1 : Nat) (pc : Nat) (l st : List Value) (n : Nat) (h : hc_H) (c s : Nat) : Option (hc_S ⊕ Option Value) := hc_nx (pc + 2) l (.int (Int32.ofNat r1) :: st) n h c s
noncomputable def hi_sipush (r1 : Nat) (pc : Nat) (l st : List Value) (n : Nat) (h : hc_H) (c s : Nat) : Option (hc_S ⊕ Option Value) := hc_nx (pc + 3) l (.int (Int32.ofNat r1) :: st) n h c s
noncomputable def hc_ixf (x : Int32) (l : List Nat) : Nat → Int32 := List.rec (motive := fun _ => Nat → Int32) (fun _ => -1) (fun b _ ih k => match decide (Int32.ofNat b = x) with
  | true => Int32.ofNat k
  | false => ih (k + 1)) l
noncomputable def hi_str (r1 : Nat) (pc : Nat) (l st : List Value) (n : Nat) (h : hc_H) (c s : Nat) : Option (hc_S ⊕ Option Value) := match r1 with
  | 0 => match st with
    | .retAddr k :: st => match Nat.ble (hc_cat st) 8 with
      | true => hc_nx (pc + 3) l (.int (Int32.ofNat (hc_txt k).length) :: st) n h c s
      | false => none
    | _ => none
  | 1 => match st with
    | .int i :: .retAddr k :: st => match decide (i < 0) || !Nat.ble (hc_cat st) 8 with
      | true => none
      | false => match hc_nth (hc_txt k) i.toNatClampNeg with
        | some b => hc_nx (pc + 3) l (.int (Int32.ofNat b) :: st) n h c s
        | none => none
    | _ => none
  | _ => match st with
    | .int x :: .retAddr k :: st => match Nat.ble (hc_cat st) 8 with
      | true => hc_nx (pc + 3) l (.int (hc_ixf x (hc_txt k) 0) :: st) n h c s
      | false => none
    | _ => none
noncomputable def hi_ldc (r1 r2 : Nat) (pc : Nat) (l st : List Value) (n : Nat) (h : hc_H) (c s : Nat) : Option (hc_S ⊕ Option Value) := match r2 with
  | 0 => hc_nx (pc + 2) l (.int (Int32.ofNat r1) :: st) n h c s
  | _ => hc_nx (pc + 2) l (.retAddr r1 :: st) n h c s
noncomputable def hi_ldc_w (r1 : Nat) (pc : Nat) (l st : List Value) (n : Nat) (h : hc_H) (c s : Nat) : Option (hc_S ⊕ Option Value) := hc_nx (pc + 3) l (.int (Int32.ofNat r1) :: st) n h c s
noncomputable def hi_lconst (r1 : Nat) (pc : Nat) (l st : List Value) (n : Nat) (h : hc_H) (c s : Nat) : Option (hc_S ⊕ Option Value) := hc_nx (pc + 1) l (.long (Int64.ofNat r1) :: st) n h c s
noncomputable def hi_ldc2_w (r1 : Nat) (pc : Nat) (l st : List Value) (n : Nat) (h : hc_H) (c s : Nat) : Option (hc_S ⊕ Option Value) := hc_nx (pc + 3) l (.long (Int64.ofNat r1) :: st) n h c s
noncomputable def hi_iload_n (r1 : Nat) (pc : Nat) (l st : List Value) (n : Nat) (h : hc_H) (c s : Nat) : Option (hc_S ⊕ Option Value) := match hc_nth l r1 with
    | some (.int x) => hc_nx (pc + 1) l (.int x :: st) n h c s
    | some (.float x) => hc_nx (pc + 1) l (.float x :: st) n h c s
    | _ => none
noncomputable def hi_iload (r1 : Nat) (pc : Nat) (l st : List Value) (n : Nat) (h : hc_H) (c s : Nat) : Option (hc_S ⊕ Option Value) := match hc_nth l r1 with
    | some (.int x) => hc_nx (pc + 2) l (.int x :: st) n h c s
    | some (.float x) => hc_nx (pc + 2) l (.float x :: st) n h c s
    | _ => none
noncomputable def hi_lload_n (r1 : Nat) (pc : Nat) (l st : List Value) (n : Nat) (h : hc_H) (c s : Nat) : Option (hc_S ⊕ Option Value) := match hc_nth l r1 with
    | some (.long x) => hc_nx (pc + 1) l (.long x :: st) n h c s
    | _ => none
noncomputable def hi_lload (r1 : Nat) (pc : Nat) (l st : List Value) (n : Nat) (h : hc_H) (c s : Nat) : Option (hc_S ⊕ Option Value) := match hc_nth l r1 with
    | some (.long x) => hc_nx (pc + 2) l (.long x :: st) n h c s
    | _ => none
noncomputable def hi_aload_n (r1 : Nat) (pc : Nat) (l st : List Value) (n : Nat) (h : hc_H) (c s : Nat) : Option (hc_S ⊕ Option Value) := match hc_nth l r1 with
    | some (.ref x) => hc_nx (pc + 1) l (.ref x :: st) n h c s
    | _ => none
noncomputable def hi_aload (r1 : Nat) (pc : Nat) (l st : List Value) (n : Nat) (h : hc_H) (c s : Nat) : Option (hc_S ⊕ Option Value) := match hc_nth l r1 with
    | some (.ref x) => hc_nx (pc + 2) l (.ref x :: st) n h c s
    | _ => none
noncomputable def hi_istore_n (r1 : Nat) (pc : Nat) (l st : List Value) (n : Nat) (h : hc_H) (c s : Nat) : Option (hc_S ⊕ Option Value) := match st with
    | .int x :: st => match hc_s1 l r1 (.int x) with
      | some l => hc_nx (pc + 1) l st n h c s
      | none => none
    | .float x :: st => match hc_s1 l r1 (.float x) with
      | some l => hc_nx (pc + 1) l st n h c s
      | none => none
    | _ => none
noncomputable def hi_istore (r1 : Nat) (pc : Nat) (l st : List Value) (n : Nat) (h : hc_H) (c s : Nat) : Option (hc_S ⊕ Option Value) := match st with
    | .int x :: st => match hc_s1 l r1 (.int x) with
      | some l => hc_nx (pc + 2) l st n h c s
      | none => none
    | .float x :: st => match hc_s1 l r1 (.float x) with
      | some l => hc_nx (pc + 2) l st n h c s
      | none => none
    | _ => none
noncomputable def hi_lstore_n (r1 : Nat) (pc : Nat) (l st : List Value) (n : Nat) (h : hc_H) (c s : Nat) : Option (hc_S ⊕ Option Value) := match st with
    | .long x :: st => match hc_s2 l r1 (.long x) with
      | some l => hc_nx (pc + 1) l st n h c s
      | none => none
    | _ => none
noncomputable def hi_lstore (r1 : Nat) (pc : Nat) (l st : List Value) (n : Nat) (h : hc_H) (c s : Nat) : Option (hc_S ⊕ Option Value) := match st with
    | .long x :: st => match hc_s2 l r1 (.long x) with
      | some l => hc_nx (pc + 2) l st n h c s
      | none => none
    | _ => none
noncomputable def hi_astore_n (r1 : Nat) (pc : Nat) (l st : List Value) (n : Nat) (h : hc_H) (c s : Nat) : Option (hc_S ⊕ Option Value) := match st with
    | .ref x :: st => match hc_s1 l r1 (.ref x) with
      | some l => hc_nx (pc + 1) l st n h c s
      | none => none
    | _ => none
noncomputable def hi_astore (r1 : Nat) (pc : Nat) (l st : List Value) (n : Nat) (h : hc_H) (c s : Nat) : Option (hc_S ⊕ Option Value) := match st with
    | .ref x :: st => match hc_s1 l r1 (.ref x) with
      | some l => hc_nx (pc + 2) l st n h c s
      | none => none
    | _ => none
noncomputable def hi_iinc (r1 : Nat) (r2 : Nat) (pc : Nat) (l st : List Value) (n : Nat) (h : hc_H) (c s : Nat) : Option (hc_S ⊕ Option Value) := match hc_nth l r1 with
    | some (.int x) => match hc_s1 l r1 (.int (x + Int32.ofNat r2)) with
      | some l => hc_nx (pc + 3) l st n h c s
      | none => none
    | _ => none
noncomputable def hi_iadd (pc : Nat) (l st : List Value) (n : Nat) (h : hc_H) (c s : Nat) : Option (hc_S ⊕ Option Value) := match st with
    | .int y :: .int x :: st => hc_nx (pc + 1) l (.int (x + y) :: st) n h c s
    | _ => none
noncomputable def hi_isub (pc : Nat) (l st : List Value) (n : Nat) (h : hc_H) (c s : Nat) : Option (hc_S ⊕ Option Value) := match st with
    | .int y :: .int x :: st => hc_nx (pc + 1) l (.int (x - y) :: st) n h c s
    | _ => none
noncomputable def hi_imul (pc : Nat) (l st : List Value) (n : Nat) (h : hc_H) (c s : Nat) : Option (hc_S ⊕ Option Value) := match st with
    | .int y :: .int x :: st => hc_nx (pc + 1) l (.int (x * y) :: st) n h c s
    | _ => none
noncomputable def hi_iand (pc : Nat) (l st : List Value) (n : Nat) (h : hc_H) (c s : Nat) : Option (hc_S ⊕ Option Value) := match st with
    | .int y :: .int x :: st => hc_nx (pc + 1) l (.int (x &&& y) :: st) n h c s
    | _ => none
noncomputable def hi_ior (pc : Nat) (l st : List Value) (n : Nat) (h : hc_H) (c s : Nat) : Option (hc_S ⊕ Option Value) := match st with
    | .int y :: .int x :: st => hc_nx (pc + 1) l (.int (x ||| y) :: st) n h c s
    | _ => none
noncomputable def hi_ixor (pc : Nat) (l st : List Value) (n : Nat) (h : hc_H) (c s : Nat) : Option (hc_S ⊕ Option Value) := match st with
    | .int y :: .int x :: st => hc_nx (pc + 1) l (.int (x ^^^ y) :: st) n h c s
    | _ => none
noncomputable def hi_ishl (pc : Nat) (l st : List Value) (n : Nat) (h : hc_H) (c s : Nat) : Option (hc_S ⊕ Option Value) := match st with
    | .int y :: .int x :: st => hc_nx (pc + 1) l (.int (x <<< (y &&& 31)) :: st) n h c s
    | _ => none
noncomputable def hi_ishr (pc : Nat) (l st : List Value) (n : Nat) (h : hc_H) (c s : Nat) : Option (hc_S ⊕ Option Value) := match st with
    | .int y :: .int x :: st => hc_nx (pc + 1) l (.int (x >>> (y &&& 31)) :: st) n h c s
    | .int y :: .float j :: st => match Nat.ble (j.toNat + 1) 100 && (!decide (y < 0) && decide (y < 32)) with
      | true => hc_nx (pc + 1) l (.float (UInt32.ofNat (20000 + 100 * j.toNat + y.toNatClampNeg)) :: st) n h c s
      | false => none
    | _ => none
noncomputable def hi_iushr (pc : Nat) (l st : List Value) (n : Nat) (h : hc_H) (c s : Nat) : Option (hc_S ⊕ Option Value) := match st with
    | .int y :: .int x :: st => hc_nx (pc + 1) l (.int ((x.toUInt32 >>> (y.toUInt32 &&& Int32.toUInt32 31)).toInt32) :: st) n h c s
    | .int y :: .float j :: st => match Nat.ble (j.toNat + 1) 100 && (!decide (y < 0) && decide (y < 32)) with
      | true => hc_nx (pc + 1) l (.float (UInt32.ofNat (10000 + 100 * j.toNat + y.toNatClampNeg)) :: st) n h c s
      | false => none
    | _ => none
noncomputable def hi_ladd (pc : Nat) (l st : List Value) (n : Nat) (h : hc_H) (c s : Nat) : Option (hc_S ⊕ Option Value) := match st with
    | .long y :: .long x :: st => hc_nx (pc + 1) l (.long (x + y) :: st) n h c s
    | _ => none
noncomputable def hi_lsub (pc : Nat) (l st : List Value) (n : Nat) (h : hc_H) (c s : Nat) : Option (hc_S ⊕ Option Value) := match st with
    | .long y :: .long x :: st => hc_nx (pc + 1) l (.long (x - y) :: st) n h c s
    | _ => none
noncomputable def hi_lmul (pc : Nat) (l st : List Value) (n : Nat) (h : hc_H) (c s : Nat) : Option (hc_S ⊕ Option Value) := match st with
    | .long y :: .long x :: st => hc_nx (pc + 1) l (.long (x * y) :: st) n h c s
    | _ => none
noncomputable def hi_lor (pc : Nat) (l st : List Value) (n : Nat) (h : hc_H) (c s : Nat) : Option (hc_S ⊕ Option Value) := match st with
    | .long y :: .long x :: st => hc_nx (pc + 1) l (.long (x ||| y) :: st) n h c s
    | _ => none
noncomputable def hi_idiv (pc : Nat) (l st : List Value) (n : Nat) (h : hc_H) (c s : Nat) : Option (hc_S ⊕ Option Value) := match st with
    | .int y :: .int x :: st => match decide (y = 0) with
      | true => none
      | false => hc_nx (pc + 1) l (.int (x / y) :: st) n h c s
    | _ => none
noncomputable def hi_irem (pc : Nat) (l st : List Value) (n : Nat) (h : hc_H) (c s : Nat) : Option (hc_S ⊕ Option Value) := match st with
    | .int y :: .int x :: st => match decide (y = 0) with
      | true => none
      | false => hc_nx (pc + 1) l (.int (x - x / y * y) :: st) n h c s
    | _ => none
noncomputable def hi_lshl (pc : Nat) (l st : List Value) (n : Nat) (h : hc_H) (c s : Nat) : Option (hc_S ⊕ Option Value) := match st with
    | .int y :: .long x :: st => hc_nx (pc + 1) l (.long (x <<< (y.toInt64 &&& 63)) :: st) n h c s
    | _ => none
noncomputable def hi_lcmp (pc : Nat) (l st : List Value) (n : Nat) (h : hc_H) (c s : Nat) : Option (hc_S ⊕ Option Value) := match st with
    | .long y :: .long x :: st => hc_nx (pc + 1) l (.int (lg_cmp x y) :: st) n h c s
    | _ => none
noncomputable def hi_i2l (pc : Nat) (l st : List Value) (n : Nat) (h : hc_H) (c s : Nat) : Option (hc_S ⊕ Option Value) := match st with
    | .int x :: st => hc_nx (pc + 1) l (.long x.toInt64 :: st) n h c s
    | _ => none
noncomputable def hi_l2i (pc : Nat) (l st : List Value) (n : Nat) (h : hc_H) (c s : Nat) : Option (hc_S ⊕ Option Value) := match st with
    | .long x :: st => hc_nx (pc + 1) l (.int x.toInt32 :: st) n h c s
    | _ => none
noncomputable def hi_i2b (pc : Nat) (l st : List Value) (n : Nat) (h : hc_H) (c s : Nat) : Option (hc_S ⊕ Option Value) := match st with
    | .int x :: st => hc_nx (pc + 1) l (.int x.toInt8.toInt32 :: st) n h c s
    | .float j :: st => match Nat.ble 10000 j.toNat && Nat.ble (j.toNat + 1) 30000 with
      | true => hc_nx (pc + 1) l (.float (UInt32.ofNat (30000 + j.toNat)) :: st) n h c s
      | false => none
    | _ => none
noncomputable def hi_i2c (pc : Nat) (l st : List Value) (n : Nat) (h : hc_H) (c s : Nat) : Option (hc_S ⊕ Option Value) := match st with
    | .int x :: st => hc_nx (pc + 1) l (.int (x.toUInt32 % 65536).toInt32 :: st) n h c s
    | _ => none
noncomputable def hi_dup (pc : Nat) (l st : List Value) (n : Nat) (h : hc_H) (c s : Nat) : Option (hc_S ⊕ Option Value) := match st with
    | v :: st => match hc_two2 v with
      | true => none
      | false => hc_nx (pc + 1) l (v :: v :: st) n h c s
    | _ => none
noncomputable def hi_pop (pc : Nat) (l st : List Value) (n : Nat) (h : hc_H) (c s : Nat) : Option (hc_S ⊕ Option Value) := match st with
    | v :: st => match hc_two2 v with
      | true => none
      | false => hc_nx (pc + 1) l st n h c s
    | _ => none
noncomputable def hi_dup2 (pc : Nat) (l st : List Value) (n : Nat) (h : hc_H) (c s : Nat) : Option (hc_S ⊕ Option Value) := match st with
    | v :: w :: st => match hc_two2 v || hc_two2 w with
      | true => none
      | false => hc_nx (pc + 1) l (v :: w :: v :: w :: st) n h c s
    | _ => none
noncomputable def hi_ifCond (LS : Nat × (Nat → Option Int32)) (op : Jvm.ClassFile.Cond) (r1 : Nat) (pc : Nat) (l st : List Value) (n : Nat) (h : hc_H) (c s : Nat) : Option (hc_S ⊕ Option Value) := match st with
    | .int x :: st => match hc_cmp op x 0 with
      | true => hc_nx r1 l st n h c s
      | false => hc_nx (pc + 3) l st n h c s
    | .float j :: st => match op with
      | .eq => match Nat.ble 1000 j.toNat with
        | true => none
        | false => match LS.2 (j.toNat + 100000) with
          | some _ => hc_nx (pc + 3) l st n h c s
          | none => none
      | _ => none
    | _ => none
noncomputable def hi_if_icmp (op : Jvm.ClassFile.Cond) (r1 : Nat) (pc : Nat) (l st : List Value) (n : Nat) (h : hc_H) (c s : Nat) : Option (hc_S ⊕ Option Value) := match st with
    | .int y :: .int x :: st => match hc_cmp op x y with
      | true => hc_nx r1 l st n h c s
      | false => hc_nx (pc + 3) l st n h c s
    | _ => none
noncomputable def hi_goto (r1 : Nat) (pc : Nat) (l st : List Value) (n : Nat) (h : hc_H) (c s : Nat) : Option (hc_S ⊕ Option Value) := hc_nx r1 l st n h c s
noncomputable def hi_tableswitch (LS : Nat × (Nat → Option Int32)) (dflt lo hi : Int) (offs : Array Int) (pc : Nat) (l st : List Value) (n : Nat) (h : hc_H) (c s : Nat) : Option (hc_S ⊕ Option Value) := match st with
    | .int x :: st => match decide (x.toInt < lo) || decide (hi < x.toInt) with
      | true => match decide (0 ≤ (pc : Int) + dflt) with
        | true => hc_nx ((pc : Int) + dflt).toNat l st n h c s
        | false => none
      | false => match hc_nth offs.toList (x.toInt - lo).toNat with
        | none => none
        | some off => match decide (0 ≤ (pc : Int) + off) with
          | true => hc_nx ((pc : Int) + off).toNat l st n h c s
          | false => none
    | .float j :: st => match LS.2 (j.toNat + 200000) with
      | none => none
      | some x => match decide (0 ≤ lo) && (decide (hi ≤ x.toInt) && decide (0 ≤ (pc : Int) + dflt)) with
        | true => hc_nx ((pc : Int) + dflt).toNat l st n h c s
        | false => none
    | _ => none
noncomputable def hi_getfield (r1 : Nat) (r2 : Nat) (pc : Nat) (l st : List Value) (n : Nat) (h : hc_H) (c s : Nat) : Option (hc_S ⊕ Option Value) := match st with
    | .ref (i + 1) :: st => match hc_obj r1 (hc_get h i) with
      | none => none
      | some fs => match hc_nth fs r2 with
        | none => none
        | some v => hc_nx (pc + 3) l (v :: st) n h c s
    | _ => none
noncomputable def hi_putfield (r1 : Nat) (r2 : Nat) (pc : Nat) (l st : List Value) (n : Nat) (h : hc_H) (c s : Nat) : Option (hc_S ⊕ Option Value) := match st with
    | v :: .ref (i + 1) :: st => match hc_obj r1 (hc_get h i) with
      | none => none
      | some fs => match hc_fit (hc_tyX r1 r2) v with
        | false => none
        | true => match hc_nth fs r2 with
          | none => none
          | some _ => match hc_put h i (.inr (r1, hc_set fs r2 v)) with
            | none => none
            | some h => hc_nx (pc + 3) l st n h c s
    | _ => none
noncomputable def hi_iaload (LS : Nat × (Nat → Option Int32)) (pc : Nat) (l st : List Value) (n : Nat) (h : hc_H) (c s : Nat) : Option (hc_S ⊕ Option Value) := match st with
    | .int j :: .ref 0 :: st => match decide (j < 0) || Nat.ble LS.1 j.toNatClampNeg with
      | true => none
      | false => match LS.2 j.toNatClampNeg with
        | some x => hc_nx (pc + 1) l (.int x :: st) n h c s
        | none => hc_nx (pc + 1) l (.float (UInt32.ofNat j.toNatClampNeg) :: st) n h c s
    | st => hc_ald 1 pc l st n h c s
noncomputable def hi_baload (pc : Nat) (l st : List Value) (n : Nat) (h : hc_H) (c s : Nat) : Option (hc_S ⊕ Option Value) := match hc_ald 0 pc l st n h c s with
    | some r => some r
    | none => hc_ald 3 pc l st n h c s
noncomputable def hi_laload (pc : Nat) (l st : List Value) (n : Nat) (h : hc_H) (c s : Nat) : Option (hc_S ⊕ Option Value) := hc_ald 2 pc l st n h c s
noncomputable def hi_aaload (pc : Nat) (l st : List Value) (n : Nat) (h : hc_H) (c s : Nat) : Option (hc_S ⊕ Option Value) := match hc_ald 4 pc l st n h c s with
    | some r => some r
    | none => hc_ald 5 pc l st n h c s
noncomputable def hi_iastore (pc : Nat) (l st : List Value) (n : Nat) (h : hc_H) (c s : Nat) : Option (hc_S ⊕ Option Value) := match st with
    | .int x :: .int j :: .ref (i + 1) :: st => hc_ast 1 i j (.int x) pc l st n h c s
    | .float x :: .int j :: .ref (i + 1) :: st => hc_ast 1 i j (.float x) pc l st n h c s
    | _ => none
noncomputable def hi_bastore (pc : Nat) (l st : List Value) (n : Nat) (h : hc_H) (c s : Nat) : Option (hc_S ⊕ Option Value) := match st with
    | .int x :: .int j :: .ref (i + 1) :: st => match hc_arr 0 (hc_get h i) with
      | some _ => hc_ast 0 i j (.int x.toInt8.toInt32) pc l st n h c s
      | none => match decide (x = 0) || decide (x = 1) with
        | true => hc_ast 3 i j (.int x) pc l st n h c s
        | false => none
    | .float x :: .int j :: .ref (i + 1) :: st => match Nat.ble 40000 x.toNat && Nat.ble (x.toNat + 1) 60000 with
      | true => hc_ast 0 i j (.float x) pc l st n h c s
      | false => none
    | _ => none
noncomputable def hi_lastore (pc : Nat) (l st : List Value) (n : Nat) (h : hc_H) (c s : Nat) : Option (hc_S ⊕ Option Value) := match st with
    | .long x :: .int j :: .ref (i + 1) :: st => hc_ast 2 i j (.long x) pc l st n h c s
    | _ => none
noncomputable def hi_aastore (pc : Nat) (l st : List Value) (n : Nat) (h : hc_H) (c s : Nat) : Option (hc_S ⊕ Option Value) := match st with
    | .ref (iv + 1) :: .int j :: .ref (i + 1) :: st => match hc_obj 2 (hc_get h iv) with
      | none => none
      | some _ => hc_ast 4 i j (.ref (iv + 1)) pc l st n h c s
    | _ => none
noncomputable def hi_arraylength (LS : Nat × (Nat → Option Int32)) (pc : Nat) (l st : List Value) (n : Nat) (h : hc_H) (c s : Nat) : Option (hc_S ⊕ Option Value) := match st with
    | .ref 0 :: st => match Nat.beq LS.1 0 with
      | true => none
      | false => hc_nx (pc + 1) l (.int (Int32.ofNat LS.1) :: st) n h c s
    | .ref (i + 1) :: st => match hc_get h i with
      | some (.inl a) => match Nat.ble 6 a.1 with
        | true => none
        | false => hc_nx (pc + 1) l (.int (Int32.ofNat a.2.length) :: st) n h c s
      | _ => none
    | _ => none
noncomputable def hi_new (r1 : Nat) (pc : Nat) (l st : List Value) (n : Nat) (h : hc_H) (c s : Nat) : Option (hc_S ⊕ Option Value) := match hc_put h n (.inr (r1, (List.range (hc_nf r1)).map (fun k => defaultValue (hc_tyX r1 k)))) with
    | none => none
    | some h => hc_nx (pc + 3) l (.ref (n + 1) :: st) (n + 1) h (c + 1) (s + hc_nf r1)
def hc_zero (r1 : Nat) : Value := match r1 with
  | 2 => .long 0
  | _ => .int 0
noncomputable def hi_newarray (r1 : Nat) (pc : Nat) (l st : List Value) (n : Nat) (h : hc_H) (c s : Nat) : Option (hc_S ⊕ Option Value) := match st with
    | .int j :: st => match decide (j < 0) || Nat.ble 100000 j.toNatClampNeg with
      | true => none
      | false => match hc_put h n (.inl (r1, List.replicate j.toNatClampNeg (hc_zero r1))) with
        | none => none
        | some h => hc_nx (pc + 2) l (.ref (n + 1) :: st) (n + 1) h (c + 1) (s + j.toNatClampNeg)
    | _ => none
noncomputable def hi_anewarray (pc : Nat) (l st : List Value) (n : Nat) (h : hc_H) (c s : Nat) : Option (hc_S ⊕ Option Value) := match st with
    | .int j :: st => match decide (j < 0) || Nat.ble 100000 j.toNatClampNeg with
      | true => none
      | false => match hc_put h n (.inl (4, List.replicate j.toNatClampNeg .null)) with
        | none => none
        | some h => hc_nx (pc + 3) l (.ref (n + 1) :: st) (n + 1) h (c + 1) (s + j.toNatClampNeg)
    | _ => none
noncomputable def hi_multianewarray (pc : Nat) (l st : List Value) (n : Nat) (h : hc_H) (c s : Nat) : Option (hc_S ⊕ Option Value) := match st with
    | .int b :: .int a :: st => match decide (a < 0) || decide (b < 0) || Nat.ble 100000 a.toNatClampNeg || Nat.ble 100000 b.toNatClampNeg with
      | true => none
      | false => match hc_put h n (.inl (5, (List.range a.toNatClampNeg).map (fun i => .ref (n + 1 + i + 1)))) with
        | none => none
        | some h => match hc_rows h (n + 1) b.toNatClampNeg a.toNatClampNeg with
          | none => none
          | some h => hc_nx (pc + 4) l (.ref (n + 1) :: st) (n + 1 + a.toNatClampNeg) h (c + 1 + a.toNatClampNeg) (s + a.toNatClampNeg + a.toNatClampNeg * b.toNatClampNeg)
    | _ => none
noncomputable def hi_invokevirtual (pg : List (List (Option hc_M))) (call : Nat → hc_M → List Value → Nat → hc_H → Option hc_R) (r1 r2 : Nat) (pc : Nat) (l st : List Value) (n : Nat) (h : hc_H) (c s : Nat) : Option (hc_S ⊕ Option Value) := match r2 with
    | 7 => hi_str r1 pc l st n h c s
    | _ => hc_inv0 pg call r1 pc l st n h c s
noncomputable def hi_invokespecial (pg : List (List (Option hc_M))) (call : Nat → hc_M → List Value → Nat → hc_H → Option hc_R) (r1 : Nat) (r2 : Nat) (pc : Nat) (l st : List Value) (n : Nat) (h : hc_H) (c s : Nat) : Option (hc_S ⊕ Option Value) := match r2 with
    | 9 => match st with
      | .ref _ :: st => match Nat.ble (hc_cat st) 8 with
        | false => none
        | true => hc_nx (pc + 3) l st n h c s
      | _ => none
    | _ => hc_inv1 pg call r1 pc l st n h c s
noncomputable def hi_invokestatic (pg : List (List (Option hc_M))) (call : Nat → hc_M → List Value → Nat → hc_H → Option hc_R) (r1 : Nat) (r2 : Nat) (pc : Nat) (l st : List Value) (n : Nat) (h : hc_H) (c s : Nat) : Option (hc_S ⊕ Option Value) := match r2 with
    | 8 => match st with
      | .int z :: .int dp :: .ref (i1 + 1) :: .int sp :: .ref (i0 + 1) :: st => match hc_arr 1 (hc_get h i0) with
        | none => none
        | some f => match hc_arr 1 (hc_get h i1) with
          | none => none
          | some g => match decide (sp = 0) && (decide (dp = 0) && (!decide (z < 0) && (Nat.beq z.toNatClampNeg f.length && (Nat.beq f.length g.length && (f.all hc_isI && Nat.ble (hc_cat st) 8))))) with
            | false => none
            | true => match hc_put h i1 (.inl (1, f)) with
              | none => none
              | some h => hc_nx (pc + 3) l st n h c s
      | _ => none
    | _ => hc_inv2 pg call r1 pc l st n h c s
noncomputable def hi_return_ (ret : Option FieldType) (pc : Nat) (l st : List Value) (n : Nat) (h : hc_H) (c s : Nat) : Option (hc_S ⊕ Option Value) := match st with
    | [] => match ret with
      | none => some (.inr none)
      | some _ => none
    | _ => none
noncomputable def hi_ireturn (ret : Option FieldType) (pc : Nat) (l st : List Value) (n : Nat) (h : hc_H) (c s : Nat) : Option (hc_S ⊕ Option Value) := match st with
    | [v] => match hc_rtv ret v with
      | true => some (.inr (some v))
      | false => none
    | _ => none
noncomputable def hi_lreturn (ret : Option FieldType) (pc : Nat) (l st : List Value) (n : Nat) (h : hc_H) (c s : Nat) : Option (hc_S ⊕ Option Value) := match st with
    | [.long x] => match ret with
      | some .long => some (.inr (some (.long x)))
      | _ => none
    | _ => none
noncomputable def hi_areturn (ret : Option FieldType) (pc : Nat) (l st : List Value) (n : Nat) (h : hc_H) (c s : Nat) : Option (hc_S ⊕ Option Value) := match st with
    | [.ref a] => match ret with
      | some (.array _) => some (.inr (some (.ref a)))
      | _ => none
    | _ => none
abbrev hc_F : Type := Nat → List Value → List Value → Nat → hc_H → Nat → Nat → Option (hc_S ⊕ Option Value)
noncomputable def hc_comp (LS : Nat × (Nat → Option Int32)) (pg : List (List (Option hc_M))) (call : Nat → hc_M → List Value → Nat → hc_H → Option hc_R) (ret : Option FieldType) (ii : Instr) (r1 r2 : Nat) : Option hc_F := match ii with
  | .iconst _ => some (hi_iconst r1)
  | .bipush _ => some (hi_bipush r1)
  | .sipush _ => some (hi_sipush r1)
  | .ldc _ => some (hi_ldc r1 r2)
  | .ldc_w _ => some (hi_ldc_w r1)
  | .lconst _ => some (hi_lconst r1)
  | .ldc2_w _ => some (hi_ldc2_w r1)
  | .iload_n _ => some (hi_iload_n r1)
  | .iload _ => some (hi_iload r1)
  | .lload_n _ => some (hi_lload_n r1)
  | .lload _ => some (hi_lload r1)
  | .aload_n _ => some (hi_aload_n r1)
  | .aload _ => some (hi_aload r1)
  | .istore_n _ => some (hi_istore_n r1)
  | .istore _ => some (hi_istore r1)
  | .lstore_n _ => some (hi_lstore_n r1)
  | .lstore _ => some (hi_lstore r1)
  | .astore_n _ => some (hi_astore_n r1)
  | .astore _ => some (hi_astore r1)
  | .iinc _ _ => some (hi_iinc r1 r2)
  | .iadd => some (hi_iadd)
  | .isub => some (hi_isub)
  | .imul => some (hi_imul)
  | .iand => some (hi_iand)
  | .ior => some (hi_ior)
  | .ixor => some (hi_ixor)
  | .ishl => some (hi_ishl)
  | .ishr => some (hi_ishr)
  | .iushr => some (hi_iushr)
  | .ladd => some (hi_ladd)
  | .lsub => some (hi_lsub)
  | .lmul => some (hi_lmul)
  | .lor => some (hi_lor)
  | .idiv => some (hi_idiv)
  | .irem => some (hi_irem)
  | .lshl => some (hi_lshl)
  | .lcmp => some (hi_lcmp)
  | .i2l => some (hi_i2l)
  | .l2i => some (hi_l2i)
  | .i2b => some (hi_i2b)
  | .i2c => some (hi_i2c)
  | .dup => some (hi_dup)
  | .pop => some (hi_pop)
  | .dup2 => some (hi_dup2)
  | .ifCond op _ => some (hi_ifCond LS op r1)
  | .if_icmp op _ => some (hi_if_icmp op r1)
  | .goto _ => some (hi_goto r1)
  | .tableswitch dflt lo hi offs => some (hi_tableswitch LS dflt lo hi offs)
  | .getfield _ => some (hi_getfield r1 r2)
  | .putfield _ => some (hi_putfield r1 r2)
  | .iaload => some (hi_iaload LS)
  | .baload => some (hi_baload)
  | .laload => some (hi_laload)
  | .aaload => some (hi_aaload)
  | .iastore => some (hi_iastore)
  | .bastore => some (hi_bastore)
  | .lastore => some (hi_lastore)
  | .aastore => some (hi_aastore)
  | .arraylength => some (hi_arraylength LS)
  | .new _ => some (hi_new r1)
  | .newarray _ => some (hi_newarray r1)
  | .anewarray _ => some (hi_anewarray)
  | .multianewarray _ _ => some (hi_multianewarray)
  | .invokevirtual _ => some (hi_invokevirtual pg call r1 r2)
  | .invokespecial _ => some (hi_invokespecial pg call r1 r2)
  | .invokestatic _ => some (hi_invokestatic pg call r1 r2)
  | .return_ => some (hi_return_ ret)
  | .ireturn => some (hi_ireturn ret)
  | .lreturn => some (hi_lreturn ret)
  | .areturn => some (hi_areturn ret)
  | _ => none
section HCR
variable (LS : Nat × (Nat → Option Int32)) (pg : List (List (Option hc_M)))
noncomputable def hc_step1 (call : Nat → hc_M → List Value → Nat → hc_H → Option hc_R) (ret : Option FieldType) (tb : hc_K) (S : hc_S) : Option (hc_S ⊕ Option Value) := match hc_get tb S.1 with
  | none => none
  | some I => match hc_comp LS pg call ret I.1 I.2.2.1 I.2.2.2 with
    | none => none
    | some f => f S.1 S.2.1 S.2.2.1 S.2.2.2.1 S.2.2.2.2.1 S.2.2.2.2.2.1 S.2.2.2.2.2.2
noncomputable def hc_run (call : Nat → hc_M → List Value → Nat → hc_H → Option hc_R) (ret : Option FieldType) (tb : hc_K) (fuel : Nat) : hc_S → Option hc_R := Nat.rec (motive := fun _ => hc_S → Option hc_R) (fun _ => none) (fun _ ih S => match hc_step1 LS pg call ret tb S with
  | none => none
  | some (.inl S') => ih S'
  | some (.inr r) => some (r, S.2.2.2.1, S.2.2.2.2.1, S.2.2.2.2.2.1, S.2.2.2.2.2.2)) fuel
noncomputable def hc_steps (call : Nat → hc_M → List Value → Nat → hc_H → Option hc_R) (ret : Option FieldType) (tb : hc_K) (fuel : Nat) : hc_S → Option hc_S := Nat.rec (motive := fun _ => hc_S → Option hc_S) (fun S => some S) (fun _ ih S => match hc_step1 LS pg call ret tb S with
  | some (.inl S') => ih S'
  | _ => none) fuel
noncomputable def hc_till (call : Nat → hc_M → List Value → Nat → hc_H → Option hc_R) (ret : Option FieldType) (tb : hc_K) (tgt : Nat) (fuel : Nat) : hc_S → Option hc_S := Nat.rec (motive := fun _ => hc_S → Option hc_S) (fun _ => none) (fun _ ih S => match Nat.beq S.1 tgt with
  | true => some S
  | false => match hc_step1 LS pg call ret tb S with
    | some (.inl S') => ih S'
    | _ => none) fuel
noncomputable def hc_ev (orc : Nat → List Value → hc_H → Option Value) (fuel : Nat) (d : Nat) : Nat → hc_M → List Value → Nat → hc_H → Option hc_R := Nat.rec (motive := fun _ => Nat → hc_M → List Value → Nat → hc_H → Option hc_R) (fun _ _ _ _ _ => none) (fun _ ih k e as n h => match orc k as h with
  | some v => some (some v, n, h, 0, 0)
  | none => match Nat.ble (hc_cat as) e.2.2.1 with
    | false => none
    | true => hc_run LS pg ih e.2.2.2.1 e.2.2.2.2.2.2 fuel (0, hc_ent as e.2.2.1, [], n, h, 0, 0)) d
end HCR
end
section
/-! THE PROGRAM as tables (by program, out of the printed names and the Statement's words) -/
def hm_t0 : hc_K := [[some (.aload_n 0, 1, 0, 0), some (.invokespecial 3, 3, 0, 9), none, none, some (.aload_n 0, 1, 0, 0), some (.bipush 9, 2, 9, 0), none, some (.newarray .int, 2, 1, 0), none, some (.putfield 9, 3, 0, 0), none, none, some (.aload_n 0, 1, 0, 0), some (.bipush 9, 2, 9, 0), none, some (.newarray .int, 2, 1, 0), none, some (.putfield 15, 3, 0, 1), none, none, some (.aload_n 0, 1, 0, 0), some (.bipush 9, 2, 9, 0), none, some (.newarray .int, 2, 1, 0), none, some (.putfield 18, 3, 0, 2), none, none, some (.aload_n 0, 1, 0, 0), some (.bipush 9, 2, 9, 0), none, some (.newarray .int, 2, 1, 0)], [none, some (.putfield 21, 3, 0, 3), none, none, some (.aload_n 0, 1, 0, 0), some (.aload_n 1, 1, 1, 0), some (.putfield 24, 3, 0, 5), none, none, some (.return_, 1, 0, 0)]]
def hm_m0 : hc_M := (⟨"HeardNext$Air", "<init>", "(LHeardNext$Laws;)V"⟩, prog_2_method_1_code, 2, none, 0, 1, hm_t0)
def hm_t1 : hc_K := [[some (.aload_n 0, 1, 0, 0), some (.aload_n 1, 1, 1, 0), some (.getfield 28, 3, 5, 3), none, none, some (.putfield 24, 3, 0, 5), none, none, some (.aload_n 0, 1, 0, 0), some (.getfield 9, 3, 0, 0), none, none, some (.iconst 0, 1, 0, 0), some (.iload_n 3, 1, 3, 0), some (.iastore, 1, 0, 0), some (.aload_n 0, 1, 0, 0), some (.getfield 9, 3, 0, 0), none, none, some (.iconst 1, 1, 1, 0), some (.iload 4, 2, 4, 0), none, some (.bipush 24, 2, 24, 0), none, some (.irem, 1, 0, 0), some (.iastore, 1, 0, 0), some (.aload_n 0, 1, 0, 0), some (.getfield 9, 3, 0, 0), none, none, some (.iconst 2, 1, 2, 0), some (.iload 4, 2, 4, 0)], [none, some (.bipush 24, 2, 24, 0), none, some (.idiv, 1, 0, 0), some (.iastore, 1, 0, 0), some (.aload_n 0, 1, 0, 0), some (.getfield 9, 3, 0, 0), none, none, some (.iconst 4, 1, 4, 0), some (.aload_n 2, 1, 2, 0), some (.getfield 31, 3, 2, 0), none, none, some (.iload_n 3, 1, 3, 0), some (.iaload, 1, 0, 0), some (.invokestatic 36, 3, 242, 2), none, none, some (.iastore, 1, 0, 0), some (.aload_n 0, 1, 0, 0), some (.getfield 9, 3, 0, 0), none, none, some (.iconst 5, 1, 5, 0), some (.aload_n 2, 1, 2, 0), some (.getfield 42, 3, 2, 1), none, none, some (.iload_n 3, 1, 3, 0), some (.iaload, 1, 0, 0), some (.iastore, 1, 0, 0)], [some (.aload_n 0, 1, 0, 0), some (.getfield 9, 3, 0, 0), none, none, some (.bipush 7, 2, 7, 0), none, some (.aload_n 1, 1, 1, 0), some (.getfield 45, 3, 5, 4), none, none, some (.iastore, 1, 0, 0), some (.aload_n 0, 1, 0, 0), some (.getfield 9, 3, 0, 0), none, none, some (.bipush 8, 2, 8, 0), none, some (.aload_n 2, 1, 2, 0), some (.getfield 49, 3, 2, 2), none, none, some (.iload_n 3, 1, 3, 0), some (.iaload, 1, 0, 0), some (.invokestatic 36, 3, 242, 2), none, none, some (.iastore, 1, 0, 0), some (.aload_n 0, 1, 0, 0), some (.getfield 15, 3, 0, 1), none, none, some (.iconst 0, 1, 0, 0)], [some (.invokestatic 52, 3, 246, 2), none, none, some (.aload_n 0, 1, 0, 0), some (.getfield 18, 3, 0, 2), none, none, some (.iconst 0, 1, 0, 0), some (.invokestatic 52, 3, 246, 2), none, none, some (.aload_n 0, 1, 0, 0), some (.getfield 21, 3, 0, 3), none, none, some (.iconst (-1), 1, 4294967295, 0), some (.invokestatic 52, 3, 246, 2), none, none, some (.aload_n 0, 1, 0, 0), some (.iconst (-1), 1, 4294967295, 0), some (.putfield 58, 3, 0, 4), none, none, some (.return_, 1, 0, 0)]]
def hm_m1 : hc_M := (⟨"HeardNext$Air", "standAt", "(LHeardNext$Terrace;LHeardNext$Life;II)V"⟩, prog_2_method_2_code, 5, none, 0, 4, hm_t1)
def hm_t2 : hc_K := [[some (.aload_n 0, 1, 0, 0), some (.getfield 21, 3, 0, 3), none, none, some (.iload_n 1, 1, 1, 0), some (.iaload, 1, 0, 0), some (.iconst (-1), 1, 4294967295, 0), some (.if_icmp .ne 32, 3, 39, 0), none, none, some (.aload_n 0, 1, 0, 0), some (.getfield 21, 3, 0, 3), none, none, some (.iload_n 1, 1, 1, 0), some (.iconst 0, 1, 0, 0), some (.bipush 7, 2, 7, 0), none, some (.aload_n 0, 1, 0, 0), some (.getfield 24, 3, 0, 5), none, none, some (.iconst 1, 1, 1, 0), some (.aload_n 0, 1, 0, 0), some (.getfield 9, 3, 0, 0), none, none, some (.iconst 0, 1, 0, 0), some (.iload_n 1, 1, 1, 0), some (.invokevirtual 61, 3, 14, 0)], [some (.invokestatic 67, 3, 245, 2), none, none, some (.invokestatic 73, 3, 244, 2), none, none, some (.iastore, 1, 0, 0), some (.aload_n 0, 1, 0, 0), some (.getfield 21, 3, 0, 3), none, none, some (.iload_n 1, 1, 1, 0), some (.iaload, 1, 0, 0), some (.ireturn, 1, 0, 0)]]
def hm_m2 : hc_M := (⟨"HeardNext$Air", "turning", "(I)I"⟩, prog_2_method_3_code, 2, (some (.int)), 0, 1, hm_t2)
def hm_t3 : hc_K := [[some (.aload_n 0, 1, 0, 0), some (.getfield 58, 3, 0, 4), none, none, some (.iconst (-1), 1, 4294967295, 0), some (.if_icmp .ne 31, 3, 36, 0), none, none, some (.aload_n 0, 1, 0, 0), some (.iconst 0, 1, 0, 0), some (.sipush 255, 3, 255, 0), none, none, some (.aload_n 0, 1, 0, 0), some (.getfield 24, 3, 0, 5), none, none, some (.iconst 2, 1, 2, 0), some (.aload_n 0, 1, 0, 0), some (.getfield 9, 3, 0, 0), none, none, some (.iconst 0, 1, 0, 0), some (.iconst 0, 1, 0, 0), some (.invokevirtual 61, 3, 14, 0), none, none, some (.invokestatic 67, 3, 245, 2), none, none, some (.invokestatic 73, 3, 244, 2)], [none, some (.putfield 58, 3, 0, 4), none, none, some (.aload_n 0, 1, 0, 0), some (.getfield 58, 3, 0, 4), none, none, some (.ireturn, 1, 0, 0)]]
def hm_m3 : hc_M := (⟨"HeardNext$Air", "humming", "()I"⟩, prog_2_method_4_code, 1, (some (.int)), 0, 0, hm_t3)
def hm_t4 : hc_K := [[some (.iconst 0, 1, 0, 0), some (.bipush 100, 2, 100, 0), none, some (.aload_n 0, 1, 0, 0), some (.getfield 24, 3, 0, 5), none, none, some (.iconst 3, 1, 3, 0), some (.aload_n 0, 1, 0, 0), some (.getfield 9, 3, 0, 0), none, none, some (.iconst 0, 1, 0, 0), some (.iconst 0, 1, 0, 0), some (.invokevirtual 61, 3, 14, 0), none, none, some (.invokestatic 67, 3, 245, 2), none, none, some (.invokestatic 73, 3, 244, 2), none, none, some (.ireturn, 1, 0, 0)]]
def hm_m4 : hc_M := (⟨"HeardNext$Air", "dying", "()I"⟩, prog_2_method_5_code, 1, (some (.int)), 0, 0, hm_t4)
def hm_t5 : hc_K := [[some (.iload_n 1, 1, 1, 0), some (.sipush 255, 3, 255, 0), none, none, some (.iand, 1, 0, 0), some (.invokestatic 36, 3, 242, 2), none, none, some (.istore_n 2, 1, 2, 0), some (.aload_n 0, 1, 0, 0), some (.iload_n 1, 1, 1, 0), some (.sipush 255, 3, 255, 0), none, none, some (.iand, 1, 0, 0), some (.iload_n 2, 1, 2, 0), some (.invokevirtual 76, 3, 6, 0), none, none, some (.istore_n 3, 1, 3, 0), some (.iload_n 3, 1, 3, 0), some (.ifCond .eq 27, 3, 48, 0), none, none, some (.aload_n 0, 1, 0, 0), some (.iload_n 2, 1, 2, 0), some (.invokevirtual 79, 3, 2, 0), none, none, some (.istore 4, 2, 4, 0), none, some (.iload_n 3, 1, 3, 0)], [some (.iload 4, 2, 4, 0), none, some (.ishl, 1, 0, 0), some (.iload_n 3, 1, 3, 0), some (.bipush 8, 2, 8, 0), none, some (.iload 4, 2, 4, 0), none, some (.isub, 1, 0, 0), some (.ishr, 1, 0, 0), some (.ior, 1, 0, 0), some (.sipush 255, 3, 255, 0), none, none, some (.iand, 1, 0, 0), some (.istore_n 3, 1, 3, 0), some (.iload_n 3, 1, 3, 0), some (.aload_n 0, 1, 0, 0), some (.invokevirtual 82, 3, 3, 0), none, none, some (.ior, 1, 0, 0), some (.ireturn, 1, 0, 0)]]
def hm_m5 : hc_M := (⟨"HeardNext$Air", "passing", "(I)I"⟩, prog_2_method_6_code, 5, (some (.int)), 0, 1, hm_t5)
def hm_t6 : hc_K := [[some (.iload_n 1, 1, 1, 0), some (.aload_n 0, 1, 0, 0), some (.getfield 15, 3, 0, 1), none, none, some (.iload_n 2, 1, 2, 0), some (.iaload, 1, 0, 0), some (.iconst (-1), 1, 4294967295, 0), some (.ixor, 1, 0, 0), some (.iand, 1, 0, 0), some (.ifCond .ne 12, 3, 22, 0), none, none, some (.iload_n 1, 1, 1, 0), some (.aload_n 0, 1, 0, 0), some (.getfield 18, 3, 0, 2), none, none, some (.iload_n 2, 1, 2, 0), some (.iaload, 1, 0, 0), some (.iand, 1, 0, 0), some (.ireturn, 1, 0, 0), some (.aload_n 0, 1, 0, 0), some (.getfield 24, 3, 0, 5), none, none, some (.iconst 0, 1, 0, 0), some (.iconst 3, 1, 3, 0), some (.invokevirtual 86, 3, 11, 0), none, none, some (.ifCond .ne 51, 3, 82, 0)], [none, none, some (.aload_n 0, 1, 0, 0), some (.getfield 15, 3, 0, 1), none, none, some (.iload_n 2, 1, 2, 0), some (.sipush 255, 3, 255, 0), none, none, some (.iastore, 1, 0, 0), some (.aload_n 0, 1, 0, 0), some (.getfield 18, 3, 0, 2), none, none, some (.iload_n 2, 1, 2, 0), some (.aload_n 0, 1, 0, 0), some (.getfield 24, 3, 0, 5), none, none, some (.iconst 0, 1, 0, 0), some (.aload_n 0, 1, 0, 0), some (.getfield 9, 3, 0, 0), none, none, some (.iconst 0, 1, 0, 0), some (.iload_n 2, 1, 2, 0), some (.invokevirtual 61, 3, 14, 0), none, none, some (.ifCond .le 9, 3, 71, 0)], [none, some (.sipush 255, 3, 255, 0), none, none, some (.goto 4, 3, 72, 0), none, none, some (.iconst 0, 1, 0, 0), some (.iastore, 1, 0, 0), some (.iload_n 1, 1, 1, 0), some (.aload_n 0, 1, 0, 0), some (.getfield 18, 3, 0, 2), none, none, some (.iload_n 2, 1, 2, 0), some (.iaload, 1, 0, 0), some (.iand, 1, 0, 0), some (.ireturn, 1, 0, 0), some (.iconst 0, 1, 0, 0), some (.istore_n 3, 1, 3, 0), some (.iload_n 3, 1, 3, 0), some (.bipush 8, 2, 8, 0), none, some (.if_icmp .ge 58, 3, 145, 0), none, none, some (.iconst 1, 1, 1, 0), some (.iload_n 3, 1, 3, 0), some (.ishl, 1, 0, 0), some (.istore 4, 2, 4, 0), none, some (.iload_n 1, 1, 1, 0)], [some (.iload 4, 2, 4, 0), none, some (.iand, 1, 0, 0), some (.aload_n 0, 1, 0, 0), some (.getfield 15, 3, 0, 1), none, none, some (.iload_n 2, 1, 2, 0), some (.iaload, 1, 0, 0), some (.iconst (-1), 1, 4294967295, 0), some (.ixor, 1, 0, 0), some (.iand, 1, 0, 0), some (.ifCond .eq 31, 3, 139, 0), none, none, some (.aload_n 0, 1, 0, 0), some (.getfield 24, 3, 0, 5), none, none, some (.iconst 0, 1, 0, 0), some (.aload_n 0, 1, 0, 0), some (.getfield 9, 3, 0, 0), none, none, some (.iload_n 3, 1, 3, 0), some (.iload_n 2, 1, 2, 0), some (.invokevirtual 61, 3, 14, 0), none, none, some (.ifCond .le 14, 3, 139, 0)], [some (.aload_n 0, 1, 0, 0), some (.getfield 18, 3, 0, 2), none, none, some (.iload_n 2, 1, 2, 0), some (.dup2, 1, 0, 0), some (.iaload, 1, 0, 0), some (.iload 4, 2, 4, 0), none, some (.ior, 1, 0, 0), some (.iastore, 1, 0, 0), some (.iinc 3 1, 3, 3, 1), none, none, some (.goto (-58), 3, 84, 0), none, none, some (.aload_n 0, 1, 0, 0), some (.getfield 15, 3, 0, 1), none, none, some (.iload_n 2, 1, 2, 0), some (.dup2, 1, 0, 0), some (.iaload, 1, 0, 0), some (.iload_n 1, 1, 1, 0), some (.ior, 1, 0, 0), some (.iastore, 1, 0, 0), some (.iload_n 1, 1, 1, 0), some (.aload_n 0, 1, 0, 0), some (.getfield 18, 3, 0, 2)], [some (.iload_n 2, 1, 2, 0), some (.iaload, 1, 0, 0), some (.iand, 1, 0, 0), some (.ireturn, 1, 0, 0)]]
def hm_m6 : hc_M := (⟨"HeardNext$Air", "keeping", "(II)I"⟩, prog_2_method_7_code, 5, (some (.int)), 0, 2, hm_t6)
def hm_t7 : hc_K := [[some (.aload_n 0, 1, 0, 0), some (.invokespecial 3, 3, 0, 9), none, none, some (.aload_n 0, 1, 0, 0), some (.sipush 408, 3, 408, 0), none, none, some (.newarray .int, 2, 1, 0), none, some (.putfield 11, 3, 1, 0), none, none, some (.aload_n 0, 1, 0, 0), some (.iconst 4, 1, 4, 0), some (.newarray .int, 2, 1, 0), none, some (.putfield 15, 3, 1, 1), none, none, some (.aload_n 0, 1, 0, 0), some (.iconst 4, 1, 4, 0), some (.newarray .int, 2, 1, 0), none, some (.putfield 18, 3, 1, 2), none, none, some (.aload_n 0, 1, 0, 0), some (.bipush 16, 2, 16, 0), none, some (.newarray .int, 2, 1, 0)], [some (.putfield 21, 3, 1, 3), none, none, some (.return_, 1, 0, 0)]]
def hm_m7 : hc_M := (⟨"HeardNext$Laws", "<init>", "()V"⟩, prog_3_method_1_code, 1, none, 1, 0, hm_t7)
def hm_t8 : hc_K := [[some (.aload_n 0, 1, 0, 0), some (.iconst 0, 1, 0, 0), some (.putfield 24, 3, 1, 4), none, none, some (.iconst 0, 1, 0, 0), some (.istore_n 1, 1, 1, 0), some (.iload_n 1, 1, 1, 0), some (.iconst 4, 1, 4, 0), some (.if_icmp .ge 48, 3, 57, 0), none, none, some (.aload_n 0, 1, 0, 0), some (.getfield 24, 3, 1, 4), none, none, some (.istore_n 2, 1, 2, 0), some (.aload_n 0, 1, 0, 0), some (.iconst 0, 1, 0, 0), some (.putfield 28, 3, 1, 5), none, none, some (.aload_n 0, 1, 0, 0), some (.iconst 0, 1, 0, 0), some (.iload_n 1, 1, 1, 0), some (.ifCond .ne 7, 3, 32, 0), none, none, some (.iconst 1, 1, 1, 0), some (.goto 4, 3, 33, 0)], [some (.iconst 0, 1, 0, 0), some (.invokevirtual 31, 3, 12, 0), none, none, some (.pop, 1, 0, 0), some (.aload_n 0, 1, 0, 0), some (.bipush 7, 2, 7, 0), none, some (.iconst 0, 1, 0, 0), some (.invokevirtual 31, 3, 12, 0), none, none, some (.pop, 1, 0, 0), some (.aload_n 0, 1, 0, 0), some (.iload_n 1, 1, 1, 0), some (.iload_n 2, 1, 2, 0), some (.invokevirtual 35, 3, 10, 0), none, none, some (.iinc 1 1, 3, 1, 1), none, none, some (.goto (-47), 3, 7, 0), none, none, some (.return_, 1, 0, 0)]]
def hm_m8 : hc_M := (⟨"HeardNext$Laws", "empty", "()V"⟩, prog_3_method_2_code, 3, none, 1, 0, hm_t8)
def hm_t9 : hc_K := [[some (.aload_n 0, 1, 0, 0), some (.iconst 0, 1, 0, 0), some (.putfield 28, 3, 1, 5), none, none, some (.aload_n 0, 1, 0, 0), some (.getfield 24, 3, 1, 4), none, none, some (.ireturn, 1, 0, 0)]]
def hm_m9 : hc_M := (⟨"HeardNext$Laws", "startLaw", "()I"⟩, prog_3_method_3_code, 1, (some (.int)), 1, 0, hm_t9)
def hm_t10 : hc_K := [[some (.aload_n 0, 1, 0, 0), some (.getfield 15, 3, 1, 1), none, none, some (.iload_n 1, 1, 1, 0), some (.iload_n 2, 1, 2, 0), some (.iastore, 1, 0, 0), some (.aload_n 0, 1, 0, 0), some (.getfield 18, 3, 1, 2), none, none, some (.iload_n 1, 1, 1, 0), some (.aload_n 0, 1, 0, 0), some (.getfield 28, 3, 1, 5), none, none, some (.iastore, 1, 0, 0), some (.return_, 1, 0, 0)]]
def hm_m10 : hc_M := (⟨"HeardNext$Laws", "putLaw", "(II)V"⟩, prog_3_method_4_code, 3, none, 1, 2, hm_t10)
def hm_t11 : hc_K := [[some (.aload_n 0, 1, 0, 0), some (.getfield 18, 3, 1, 2), none, none, some (.iload_n 1, 1, 1, 0), some (.iaload, 1, 0, 0), some (.iload_n 2, 1, 2, 0), some (.ishr, 1, 0, 0), some (.iconst 1, 1, 1, 0), some (.iand, 1, 0, 0), some (.ifCond .eq 7, 3, 17, 0), none, none, some (.iconst 1, 1, 1, 0), some (.goto 4, 3, 18, 0), none, none, some (.iconst 0, 1, 0, 0), some (.ireturn, 1, 0, 0)]]
def hm_m11 : hc_M := (⟨"HeardNext$Laws", "looksAt", "(II)Z"⟩, prog_3_method_5_code, 3, (some (.boolean)), 1, 2, hm_t11)
def hm_t12 : hc_K := [[some (.iload_n 1, 1, 1, 0), some (.iconst 1, 1, 1, 0), some (.if_icmp .ne 15, 3, 17, 0), none, none, some (.aload_n 0, 1, 0, 0), some (.dup, 1, 0, 0), some (.getfield 28, 3, 1, 5), none, none, some (.iconst 1, 1, 1, 0), some (.iload_n 2, 1, 2, 0), some (.ishl, 1, 0, 0), some (.ior, 1, 0, 0), some (.putfield 28, 3, 1, 5), none, none, some (.aload_n 0, 1, 0, 0), some (.getfield 24, 3, 1, 4), none, none, some (.sipush 408, 3, 408, 0), none, none, some (.if_icmp .ge 27, 3, 51, 0), none, none, some (.aload_n 0, 1, 0, 0), some (.getfield 11, 3, 1, 0), none, none, some (.aload_n 0, 1, 0, 0)], [some (.getfield 24, 3, 1, 4), none, none, some (.iload_n 2, 1, 2, 0), some (.iconst 3, 1, 3, 0), some (.ishl, 1, 0, 0), some (.iload_n 1, 1, 1, 0), some (.ior, 1, 0, 0), some (.iastore, 1, 0, 0), some (.aload_n 0, 1, 0, 0), some (.dup, 1, 0, 0), some (.getfield 24, 3, 1, 4), none, none, some (.iconst 1, 1, 1, 0), some (.iadd, 1, 0, 0), some (.putfield 24, 3, 1, 4), none, none, some (.aload_n 0, 1, 0, 0), some (.getfield 24, 3, 1, 4), none, none, some (.iconst 1, 1, 1, 0), some (.isub, 1, 0, 0), some (.ireturn, 1, 0, 0)]]
def hm_m12 : hc_M := (⟨"HeardNext$Laws", "add", "(II)I"⟩, prog_3_method_6_code, 3, (some (.int)), 1, 2, hm_t12)
def hm_t13 : hc_K := [[some (.iload_n 1, 1, 1, 0), some (.ifCond .lt 26, 3, 27, 0), none, none, some (.iload_n 1, 1, 1, 0), some (.aload_n 0, 1, 0, 0), some (.getfield 24, 3, 1, 4), none, none, some (.if_icmp .ge 18, 3, 27, 0), none, none, some (.aload_n 0, 1, 0, 0), some (.getfield 11, 3, 1, 0), none, none, some (.iload_n 1, 1, 1, 0), some (.aload_n 0, 1, 0, 0), some (.getfield 24, 3, 1, 4), none, none, some (.iconst 3, 1, 3, 0), some (.ishl, 1, 0, 0), some (.bipush 6, 2, 6, 0), none, some (.ior, 1, 0, 0), some (.iastore, 1, 0, 0), some (.return_, 1, 0, 0)]]
def hm_m13 : hc_M := (⟨"HeardNext$Laws", "landHere", "(I)V"⟩, prog_3_method_7_code, 2, none, 1, 1, hm_t13)
def hm_t14 : hc_K := [[some (.aload_n 2, 1, 2, 0), some (.iconst 3, 1, 3, 0), some (.iload_n 3, 1, 3, 0), some (.iastore, 1, 0, 0), some (.aload_n 2, 1, 2, 0), some (.bipush 6, 2, 6, 0), none, some (.iload 4, 2, 4, 0), none, some (.iastore, 1, 0, 0), some (.iconst 0, 1, 0, 0), some (.istore 5, 2, 5, 0), none, some (.aload_n 0, 1, 0, 0), some (.getfield 15, 3, 1, 1), none, none, some (.iload_n 1, 1, 1, 0), some (.iaload, 1, 0, 0), some (.istore 6, 2, 6, 0), none, some (.iload 6, 2, 6, 0), none, some (.ifCond .lt 298, 3, 321, 0), none, none, some (.iload 6, 2, 6, 0), none, some (.aload_n 0, 1, 0, 0), some (.getfield 24, 3, 1, 4)], [some (.if_icmp .ge 289, 3, 321, 0), none, none, some (.aload_n 0, 1, 0, 0), some (.getfield 11, 3, 1, 0), none, none, some (.iload 6, 2, 6, 0), none, some (.iaload, 1, 0, 0), some (.bipush 7, 2, 7, 0), none, some (.iand, 1, 0, 0), some (.istore 7, 2, 7, 0), none, some (.aload_n 0, 1, 0, 0), some (.getfield 11, 3, 1, 0), none, none, some (.iload 6, 2, 6, 0), none, some (.iaload, 1, 0, 0), some (.iconst 3, 1, 3, 0), some (.ishr, 1, 0, 0), some (.istore 8, 2, 8, 0), none, some (.iload 7, 2, 7, 0), none, some (.ifCond .eq 9, 3, 69, 0), none, none, some (.iload 7, 2, 7, 0)], [none, some (.iconst 1, 1, 1, 0), some (.if_icmp .ne 52, 3, 118, 0), none, none, some (.iload 5, 2, 5, 0), none, some (.bipush 16, 2, 16, 0), none, some (.if_icmp .ge 16, 3, 89, 0), none, none, some (.iload 7, 2, 7, 0), none, some (.iconst 1, 1, 1, 0), some (.if_icmp .ne 12, 3, 91, 0), none, none, some (.iload 8, 2, 8, 0), none, some (.bipush 9, 2, 9, 0), none, some (.if_icmp .lt 5, 3, 91, 0), none, none, some (.iconst 0, 1, 0, 0), some (.ireturn, 1, 0, 0), some (.aload_n 0, 1, 0, 0), some (.getfield 21, 3, 1, 3), none, none, some (.iload 5, 2, 5, 0)], [none, some (.iload 7, 2, 7, 0), none, some (.ifCond .ne 8, 3, 107, 0), none, none, some (.iload 8, 2, 8, 0), none, some (.goto 7, 3, 111, 0), none, none, some (.aload_n 2, 1, 2, 0), some (.iload 8, 2, 8, 0), none, some (.iaload, 1, 0, 0), some (.iastore, 1, 0, 0), some (.iinc 5 1, 3, 5, 1), none, none, some (.goto 200, 3, 315, 0), none, none, some (.iload 7, 2, 7, 0), none, some (.bipush 7, 2, 7, 0), none, some (.if_icmp .ne 22, 3, 144, 0), none, none, some (.iload 5, 2, 5, 0), none, some (.ifCond .le 15, 3, 142, 0)], [none, none, some (.aload_n 0, 1, 0, 0), some (.getfield 21, 3, 1, 3), none, none, some (.iload 5, 2, 5, 0), none, some (.iconst 1, 1, 1, 0), some (.isub, 1, 0, 0), some (.iaload, 1, 0, 0), some (.goto 4, 3, 143, 0), none, none, some (.iconst 0, 1, 0, 0), some (.ireturn, 1, 0, 0), some (.iload 5, 2, 5, 0), none, some (.iconst 2, 1, 2, 0), some (.if_icmp .lt 21, 3, 168, 0), none, none, some (.iload 7, 2, 7, 0), none, some (.iconst 5, 1, 5, 0), some (.if_icmp .ne 17, 3, 170, 0), none, none, some (.aload_n 0, 1, 0, 0), some (.getfield 21, 3, 1, 3)], [some (.iload 5, 2, 5, 0), none, some (.iconst 1, 1, 1, 0), some (.isub, 1, 0, 0), some (.iaload, 1, 0, 0), some (.ifCond .ne 5, 3, 170, 0), none, none, some (.iconst 0, 1, 0, 0), some (.ireturn, 1, 0, 0), some (.iinc 5 (-1), 3, 5, 4294967295), none, none, some (.aload_n 0, 1, 0, 0), some (.getfield 21, 3, 1, 3), none, none, some (.iload 5, 2, 5, 0), none, some (.iconst 1, 1, 1, 0), some (.isub, 1, 0, 0), some (.iaload, 1, 0, 0), some (.istore 9, 2, 9, 0), none, some (.aload_n 0, 1, 0, 0), some (.getfield 21, 3, 1, 3), none, none, some (.iload 5, 2, 5, 0), none, some (.iaload, 1, 0, 0), some (.istore 10, 2, 10, 0)], [none, some (.iload 7, 2, 7, 0), none, some (.tableswitch 97 2 5 #[29, 46, 63, 80], 29, 0, 0)], [some (.aload_n 0, 1, 0, 0), some (.getfield 21, 3, 1, 3), none, none, some (.iload 5, 2, 5, 0), none, some (.iconst 1, 1, 1, 0), some (.isub, 1, 0, 0), some (.iload 9, 2, 9, 0), none, some (.iload 10, 2, 10, 0), none, some (.iadd, 1, 0, 0), some (.iastore, 1, 0, 0), some (.goto 77, 3, 315, 0), none, none, some (.aload_n 0, 1, 0, 0), some (.getfield 21, 3, 1, 3), none, none, some (.iload 5, 2, 5, 0), none, some (.iconst 1, 1, 1, 0), some (.isub, 1, 0, 0), some (.iload 9, 2, 9, 0), none, some (.iload 10, 2, 10, 0), none, some (.isub, 1, 0, 0), some (.iastore, 1, 0, 0), some (.goto 60, 3, 315, 0)], [none, none, some (.aload_n 0, 1, 0, 0), some (.getfield 21, 3, 1, 3), none, none, some (.iload 5, 2, 5, 0), none, some (.iconst 1, 1, 1, 0), some (.isub, 1, 0, 0), some (.iload 9, 2, 9, 0), none, some (.iload 10, 2, 10, 0), none, some (.imul, 1, 0, 0), some (.iastore, 1, 0, 0), some (.goto 43, 3, 315, 0), none, none, some (.aload_n 0, 1, 0, 0), some (.getfield 21, 3, 1, 3), none, none, some (.iload 5, 2, 5, 0), none, some (.iconst 1, 1, 1, 0), some (.isub, 1, 0, 0), some (.iload 9, 2, 9, 0), none, some (.iload 10, 2, 10, 0), none, some (.idiv, 1, 0, 0)], [some (.iastore, 1, 0, 0), some (.goto 26, 3, 315, 0), none, none, some (.iinc 5 (-1), 3, 5, 4294967295), none, none, some (.iload 9, 2, 9, 0), none, some (.iload 10, 2, 10, 0), none, some (.if_icmp .lt 16, 3, 315, 0), none, none, some (.iload 8, 2, 8, 0), none, some (.iload 6, 2, 6, 0), none, some (.if_icmp .le 9, 3, 315, 0), none, none, some (.iload 8, 2, 8, 0), none, some (.iconst 1, 1, 1, 0), some (.isub, 1, 0, 0), some (.istore 6, 2, 6, 0), none, some (.iinc 6 1, 3, 6, 1), none, none, some (.goto (-297), 3, 21, 0)], [none, some (.iconst 0, 1, 0, 0), some (.ireturn, 1, 0, 0)]]
def hm_m14 : hc_M := (⟨"HeardNext$Laws", "worth", "(I[III)I"⟩, prog_3_method_8_code, 11, (some (.int)), 1, 4, hm_t14)
def hm_t15 : hc_K := [[some (.aload_n 0, 1, 0, 0), some (.invokespecial 3, 3, 0, 9), none, none, some (.aload_n 0, 1, 0, 0), some (.bipush 10, 2, 10, 0), none, some (.newarray .int, 2, 1, 0), none, some (.putfield 9, 3, 2, 0), none, none, some (.aload_n 0, 1, 0, 0), some (.bipush 10, 2, 10, 0), none, some (.newarray .int, 2, 1, 0), none, some (.putfield 15, 3, 2, 1), none, none, some (.aload_n 0, 1, 0, 0), some (.bipush 10, 2, 10, 0), none, some (.newarray .int, 2, 1, 0), none, some (.putfield 18, 3, 2, 2), none, none, some (.aload_n 0, 1, 0, 0), some (.bipush 10, 2, 10, 0), none, some (.newarray .int, 2, 1, 0)], [none, some (.putfield 21, 3, 2, 3), none, none, some (.aload_n 0, 1, 0, 0), some (.bipush 10, 2, 10, 0), none, some (.newarray .int, 2, 1, 0), none, some (.putfield 24, 3, 2, 4), none, none, some (.aload_n 0, 1, 0, 0), some (.bipush 10, 2, 10, 0), none, some (.newarray .int, 2, 1, 0), none, some (.putfield 27, 3, 2, 5), none, none, some (.aload_n 0, 1, 0, 0), some (.iconst (-1), 1, 4294967295, 0), some (.putfield 30, 3, 2, 8), none, none, some (.return_, 1, 0, 0)]]
def hm_m15 : hc_M := (⟨"HeardNext$Life", "<init>", "()V"⟩, prog_4_method_1_code, 1, none, 2, 0, hm_t15)
def hm_t16 : hc_K := [[some (.aload_n 0, 1, 0, 0), some (.aload_n 1, 1, 1, 0), some (.getfield 34, 3, 5, 4), none, none, some (.putfield 39, 3, 2, 6), none, none, some (.aload_n 0, 1, 0, 0), some (.iconst 0, 1, 0, 0), some (.putfield 40, 3, 2, 7), none, none, some (.aload_n 0, 1, 0, 0), some (.iconst (-1), 1, 4294967295, 0), some (.putfield 30, 3, 2, 8), none, none, some (.aload_n 0, 1, 0, 0), some (.iconst 1, 1, 1, 0), some (.aload_n 0, 1, 0, 0), some (.getfield 39, 3, 2, 6), none, none, some (.ishl, 1, 0, 0), some (.iconst 1, 1, 1, 0), some (.isub, 1, 0, 0), some (.putfield 43, 3, 2, 9), none, none, some (.aload_n 0, 1, 0, 0), some (.iconst 0, 1, 0, 0)], [some (.putfield 46, 3, 2, 10), none, none, some (.iconst 0, 1, 0, 0), some (.istore_n 2, 1, 2, 0), some (.iload_n 2, 1, 2, 0), some (.bipush 10, 2, 10, 0), none, some (.if_icmp .ge 61, 3, 101, 0), none, none, some (.aload_n 0, 1, 0, 0), some (.getfield 9, 3, 2, 0), none, none, some (.iload_n 2, 1, 2, 0), some (.aload_n 1, 1, 1, 0), some (.getfield 49, 3, 5, 0), none, none, some (.iload_n 2, 1, 2, 0), some (.iaload, 1, 0, 0), some (.iastore, 1, 0, 0), some (.aload_n 0, 1, 0, 0), some (.getfield 15, 3, 2, 1), none, none, some (.iload_n 2, 1, 2, 0), some (.aload_n 1, 1, 1, 0), some (.getfield 50, 3, 5, 1)], [some (.iload_n 2, 1, 2, 0), some (.iaload, 1, 0, 0), some (.iastore, 1, 0, 0), some (.aload_n 0, 1, 0, 0), some (.getfield 18, 3, 2, 2), none, none, some (.iload_n 2, 1, 2, 0), some (.iconst 0, 1, 0, 0), some (.iastore, 1, 0, 0), some (.aload_n 0, 1, 0, 0), some (.getfield 21, 3, 2, 3), none, none, some (.iload_n 2, 1, 2, 0), some (.iload_n 2, 1, 2, 0), some (.iastore, 1, 0, 0), some (.aload_n 0, 1, 0, 0), some (.getfield 24, 3, 2, 4), none, none, some (.iload_n 2, 1, 2, 0), some (.iconst 0, 1, 0, 0), some (.iastore, 1, 0, 0), some (.aload_n 0, 1, 0, 0), some (.getfield 27, 3, 2, 5), none, none, some (.iload_n 2, 1, 2, 0), some (.iconst 0, 1, 0, 0), some (.iastore, 1, 0, 0), some (.iinc 2 1, 3, 2, 1)], [none, none, some (.goto (-61), 3, 37, 0), none, none, some (.return_, 1, 0, 0)]]
def hm_m16 : hc_M := (⟨"HeardNext$Life", "begin", "(LHeardNext$Terrace;)V"⟩, prog_4_method_2_code, 3, none, 2, 1, hm_t16)
def hm_t17 : hc_K := [[some (.aload_n 0, 1, 0, 0), some (.aload_n 1, 1, 1, 0), some (.getfield 39, 3, 2, 6), none, none, some (.putfield 39, 3, 2, 6), none, none, some (.aload_n 0, 1, 0, 0), some (.aload_n 1, 1, 1, 0), some (.getfield 40, 3, 2, 7), none, none, some (.putfield 40, 3, 2, 7), none, none, some (.aload_n 0, 1, 0, 0), some (.aload_n 1, 1, 1, 0), some (.getfield 30, 3, 2, 8), none, none, some (.putfield 30, 3, 2, 8), none, none, some (.aload_n 0, 1, 0, 0), some (.aload_n 1, 1, 1, 0), some (.getfield 43, 3, 2, 9), none, none, some (.putfield 43, 3, 2, 9)], [some (.aload_n 0, 1, 0, 0), some (.aload_n 1, 1, 1, 0), some (.getfield 46, 3, 2, 10), none, none, some (.putfield 46, 3, 2, 10), none, none, some (.aload_n 1, 1, 1, 0), some (.getfield 9, 3, 2, 0), none, none, some (.iconst 0, 1, 0, 0), some (.aload_n 0, 1, 0, 0), some (.getfield 9, 3, 2, 0), none, none, some (.iconst 0, 1, 0, 0), some (.bipush 10, 2, 10, 0), none, some (.invokestatic 51, 3, 0, 8), none, none, some (.aload_n 1, 1, 1, 0), some (.getfield 15, 3, 2, 1), none, none, some (.iconst 0, 1, 0, 0), some (.aload_n 0, 1, 0, 0), some (.getfield 15, 3, 2, 1)], [some (.iconst 0, 1, 0, 0), some (.bipush 10, 2, 10, 0), none, some (.invokestatic 51, 3, 0, 8), none, none, some (.aload_n 1, 1, 1, 0), some (.getfield 18, 3, 2, 2), none, none, some (.iconst 0, 1, 0, 0), some (.aload_n 0, 1, 0, 0), some (.getfield 18, 3, 2, 2), none, none, some (.iconst 0, 1, 0, 0), some (.bipush 10, 2, 10, 0), none, some (.invokestatic 51, 3, 0, 8), none, none, some (.aload_n 1, 1, 1, 0), some (.getfield 21, 3, 2, 3), none, none, some (.iconst 0, 1, 0, 0), some (.aload_n 0, 1, 0, 0), some (.getfield 21, 3, 2, 3), none, none, some (.iconst 0, 1, 0, 0), some (.bipush 10, 2, 10, 0)], [none, some (.invokestatic 51, 3, 0, 8), none, none, some (.aload_n 1, 1, 1, 0), some (.getfield 24, 3, 2, 4), none, none, some (.iconst 0, 1, 0, 0), some (.aload_n 0, 1, 0, 0), some (.getfield 24, 3, 2, 4), none, none, some (.iconst 0, 1, 0, 0), some (.bipush 10, 2, 10, 0), none, some (.invokestatic 51, 3, 0, 8), none, none, some (.aload_n 1, 1, 1, 0), some (.getfield 27, 3, 2, 5), none, none, some (.iconst 0, 1, 0, 0), some (.aload_n 0, 1, 0, 0), some (.getfield 27, 3, 2, 5), none, none, some (.iconst 0, 1, 0, 0), some (.bipush 10, 2, 10, 0), none, some (.invokestatic 51, 3, 0, 8)], [none, none, some (.return_, 1, 0, 0)]]
def hm_m17 : hc_M := (⟨"HeardNext$Life", "copyOf", "(LHeardNext$Life;)V"⟩, prog_4_method_3_code, 2, none, 2, 1, hm_t17)
def hm_t18 : hc_K := [[some (.aload_n 0, 1, 0, 0), some (.getfield 43, 3, 2, 9), none, none, some (.iload_n 1, 1, 1, 0), some (.ishr, 1, 0, 0), some (.iconst 1, 1, 1, 0), some (.iand, 1, 0, 0), some (.ifCond .eq 7, 3, 15, 0), none, none, some (.iconst 1, 1, 1, 0), some (.goto 4, 3, 16, 0), none, none, some (.iconst 0, 1, 0, 0), some (.ireturn, 1, 0, 0)]]
def hm_m18 : hc_M := (⟨"HeardNext$Life", "isOn", "(I)Z"⟩, prog_4_method_4_code, 2, (some (.boolean)), 2, 1, hm_t18)
def hm_t19 : hc_K := [[some (.aload_n 0, 1, 0, 0), some (.iload_n 1, 1, 1, 0), some (.invokevirtual 57, 3, 18, 0), none, none, some (.ifCond .eq 16, 3, 21, 0), none, none, some (.aload_n 0, 1, 0, 0), some (.getfield 27, 3, 2, 5), none, none, some (.iload_n 1, 1, 1, 0), some (.iaload, 1, 0, 0), some (.ifCond .ne 7, 3, 21, 0), none, none, some (.iconst 1, 1, 1, 0), some (.goto 4, 3, 22, 0), none, none, some (.iconst 0, 1, 0, 0), some (.ireturn, 1, 0, 0)]]
def hm_m19 : hc_M := (⟨"HeardNext$Life", "isHearing", "(I)Z"⟩, prog_4_method_5_code, 2, (some (.boolean)), 2, 1, hm_t19)
def hm_t20 : hc_K := [[some (.iconst 0, 1, 0, 0), some (.istore_n 2, 1, 2, 0), some (.iload_n 2, 1, 2, 0), some (.iload_n 1, 1, 1, 0), some (.if_icmp .gt 25, 3, 29, 0), none, none, some (.iload_n 2, 1, 2, 0), some (.bipush 10, 2, 10, 0), none, some (.if_icmp .ge 19, 3, 29, 0), none, none, some (.aload_n 0, 1, 0, 0), some (.iload_n 2, 1, 2, 0), some (.invokevirtual 61, 3, 19, 0), none, none, some (.ifCond .ne 5, 3, 23, 0), none, none, some (.iload_n 2, 1, 2, 0), some (.ireturn, 1, 0, 0), some (.iinc 2 1, 3, 2, 1), none, none, some (.goto (-24), 3, 2, 0), none, none, some (.bipush (-2), 2, 4294967294, 0), none, some (.ireturn, 1, 0, 0)]]
def hm_m20 : hc_M := (⟨"HeardNext$Life", "firstDeaf", "(I)I"⟩, prog_4_method_6_code, 3, (some (.int)), 2, 1, hm_t20)
def hm_t21 : hc_K := [[some (.aload_n 0, 1, 0, 0), some (.getfield 9, 3, 2, 0), none, none, some (.iload_n 1, 1, 1, 0), some (.iaload, 1, 0, 0), some (.aload_n 0, 1, 0, 0), some (.getfield 18, 3, 2, 2), none, none, some (.iload_n 1, 1, 1, 0), some (.iaload, 1, 0, 0), some (.iconst (-1), 1, 4294967295, 0), some (.ixor, 1, 0, 0), some (.iand, 1, 0, 0), some (.ireturn, 1, 0, 0)]]
def hm_m21 : hc_M := (⟨"HeardNext$Life", "needOf", "(I)I"⟩, prog_4_method_7_code, 2, (some (.int)), 2, 1, hm_t21)
def hm_t22 : hc_K := [[some (.aload_n 0, 1, 0, 0), some (.getfield 30, 3, 2, 8), none, none, some (.iconst (-1), 1, 4294967295, 0), some (.if_icmp .ne 20, 3, 25, 0), none, none, some (.aload_n 1, 1, 1, 0), some (.getfield 64, 3, 5, 2), none, none, some (.aload_n 0, 1, 0, 0), some (.getfield 40, 3, 2, 7), none, none, some (.bipush 24, 2, 24, 0), none, some (.invokestatic 67, 3, 243, 2), none, none, some (.iaload, 1, 0, 0), some (.goto 7, 3, 29, 0), none, none, some (.aload_n 0, 1, 0, 0), some (.getfield 30, 3, 2, 8), none, none, some (.ireturn, 1, 0, 0)]]
def hm_m22 : hc_M := (⟨"HeardNext$Life", "sentNow", "(LHeardNext$Terrace;)I"⟩, prog_4_method_8_code, 2, (some (.int)), 2, 1, hm_t22)
def hm_t23 : hc_K := [[some (.aload_n 0, 1, 0, 0), some (.getfield 24, 3, 2, 4), none, none, some (.iload_n 1, 1, 1, 0), some (.iload_n 2, 1, 2, 0), some (.iastore, 1, 0, 0), some (.aload_n 0, 1, 0, 0), some (.getfield 18, 3, 2, 2), none, none, some (.iload_n 1, 1, 1, 0), some (.dup2, 1, 0, 0), some (.iaload, 1, 0, 0), some (.iload_n 2, 1, 2, 0), some (.aload_n 0, 1, 0, 0), some (.getfield 9, 3, 2, 0), none, none, some (.iload_n 1, 1, 1, 0), some (.iaload, 1, 0, 0), some (.iand, 1, 0, 0), some (.ior, 1, 0, 0), some (.iastore, 1, 0, 0), some (.return_, 1, 0, 0)]]
def hm_m23 : hc_M := (⟨"HeardNext$Life", "hear", "(II)V"⟩, prog_4_method_9_code, 3, none, 2, 2, hm_t23)
def hm_t24 : hc_K := [[some (.aload_n 0, 1, 0, 0), some (.getfield 9, 3, 2, 0), none, none, some (.iload_n 1, 1, 1, 0), some (.iload_n 2, 1, 2, 0), some (.invokestatic 73, 3, 25, 2), none, none, some (.aload_n 0, 1, 0, 0), some (.getfield 15, 3, 2, 1), none, none, some (.iload_n 1, 1, 1, 0), some (.iload_n 2, 1, 2, 0), some (.invokestatic 73, 3, 25, 2), none, none, some (.aload_n 0, 1, 0, 0), some (.getfield 18, 3, 2, 2), none, none, some (.iload_n 1, 1, 1, 0), some (.iload_n 2, 1, 2, 0), some (.invokestatic 73, 3, 25, 2), none, none, some (.aload_n 0, 1, 0, 0), some (.getfield 21, 3, 2, 3), none, none, some (.iload_n 1, 1, 1, 0)], [some (.iload_n 2, 1, 2, 0), some (.invokestatic 73, 3, 25, 2), none, none, some (.return_, 1, 0, 0)]]
def hm_m24 : hc_M := (⟨"HeardNext$Life", "swap", "(II)V"⟩, prog_4_method_10_code, 3, none, 2, 2, hm_t24)
def hm_t25 : hc_K := [[some (.aload_n 0, 1, 0, 0), some (.iload_n 1, 1, 1, 0), some (.iaload, 1, 0, 0), some (.istore_n 3, 1, 3, 0), some (.aload_n 0, 1, 0, 0), some (.iload_n 1, 1, 1, 0), some (.aload_n 0, 1, 0, 0), some (.iload_n 2, 1, 2, 0), some (.iaload, 1, 0, 0), some (.iastore, 1, 0, 0), some (.aload_n 0, 1, 0, 0), some (.iload_n 2, 1, 2, 0), some (.iload_n 3, 1, 3, 0), some (.iastore, 1, 0, 0), some (.return_, 1, 0, 0)]]
def hm_m25 : hc_M := (⟨"HeardNext$Life", "swapIn", "([III)V"⟩, prog_4_method_11_code, 4, none, 2, 3, hm_t25)
def hm_t26 : hc_K := [[some (.aload_n 0, 1, 0, 0), some (.aload_n 1, 1, 1, 0), some (.invokevirtual 77, 3, 22, 0), none, none, some (.istore 5, 2, 5, 0), none, some (.aload_n 0, 1, 0, 0), some (.getfield 39, 3, 2, 6), none, none, some (.iconst 1, 1, 1, 0), some (.isub, 1, 0, 0), some (.istore 6, 2, 6, 0), none, some (.iload 6, 2, 6, 0), none, some (.ifCond .lt 137, 3, 154, 0), none, none, some (.aload_n 2, 1, 2, 0), some (.aload_n 1, 1, 1, 0), some (.aload_n 0, 1, 0, 0), some (.iload 6, 2, 6, 0), none, some (.aload_n 0, 1, 0, 0), some (.getfield 40, 3, 2, 7), none, none, some (.invokevirtual 81, 3, 1, 0)], [some (.iconst 0, 1, 0, 0), some (.istore 7, 2, 7, 0), none, some (.aload_n 0, 1, 0, 0), some (.iload 6, 2, 6, 0), none, some (.invokevirtual 61, 3, 19, 0), none, none, some (.ifCond .eq 28, 3, 69, 0), none, none, some (.iload 6, 2, 6, 0), none, some (.ifCond .ne 8, 3, 54, 0), none, none, some (.iload 5, 2, 5, 0), none, some (.goto 16, 3, 67, 0), none, none, some (.aload_n 2, 1, 2, 0), some (.aload_n 0, 1, 0, 0), some (.getfield 24, 3, 2, 4), none, none, some (.iload 6, 2, 6, 0), none, some (.iconst 1, 1, 1, 0), some (.isub, 1, 0, 0), some (.iaload, 1, 0, 0)], [some (.invokevirtual 87, 3, 5, 0), none, none, some (.istore 7, 2, 7, 0), none, some (.aload_n 0, 1, 0, 0), some (.getfield 27, 3, 2, 5), none, none, some (.iload 6, 2, 6, 0), none, some (.iaload, 1, 0, 0), some (.ifCond .le 17, 3, 93, 0), none, none, some (.aload_n 0, 1, 0, 0), some (.getfield 27, 3, 2, 5), none, none, some (.iload 6, 2, 6, 0), none, some (.dup2, 1, 0, 0), some (.iaload, 1, 0, 0), some (.iconst 1, 1, 1, 0), some (.isub, 1, 0, 0), some (.iastore, 1, 0, 0), some (.goto 50, 3, 140, 0), none, none, some (.iload_n 3, 1, 3, 0), some (.ifCond .eq 46, 3, 140, 0)], [none, some (.iload 4, 2, 4, 0), none, some (.bipush 16, 2, 16, 0), none, some (.aload_n 0, 1, 0, 0), some (.getfield 40, 3, 2, 7), none, none, some (.imul, 1, 0, 0), some (.iload 6, 2, 6, 0), none, some (.iadd, 1, 0, 0), some (.invokestatic 91, 3, 27, 2), none, none, some (.aload_n 2, 1, 2, 0), some (.invokevirtual 94, 3, 4, 0), none, none, some (.if_icmp .ge 24, 3, 140, 0), none, none, some (.aload_n 0, 1, 0, 0), some (.getfield 27, 3, 2, 5), none, none, some (.iload 6, 2, 6, 0), none, some (.aload_n 1, 1, 1, 0), some (.getfield 98, 3, 5, 6)], [none, some (.iastore, 1, 0, 0), some (.aload_n 0, 1, 0, 0), some (.dup, 1, 0, 0), some (.getfield 46, 3, 2, 10), none, none, some (.iconst 1, 1, 1, 0), some (.iadd, 1, 0, 0), some (.putfield 46, 3, 2, 10), none, none, some (.aload_n 0, 1, 0, 0), some (.iload 6, 2, 6, 0), none, some (.iload 7, 2, 7, 0), none, some (.invokevirtual 100, 3, 23, 0), none, none, some (.iinc 6 (-1), 3, 6, 4294967295), none, none, some (.goto (-136), 3, 15, 0), none, none, some (.aload_n 0, 1, 0, 0), some (.iconst (-1), 1, 4294967295, 0), some (.putfield 30, 3, 2, 8), none, none, some (.aload_n 0, 1, 0, 0)], [some (.dup, 1, 0, 0), some (.getfield 40, 3, 2, 7), none, none, some (.iconst 1, 1, 1, 0), some (.iadd, 1, 0, 0), some (.putfield 40, 3, 2, 7), none, none, some (.return_, 1, 0, 0)]]
def hm_m26 : hc_M := (⟨"HeardNext$Life", "goOn", "(LHeardNext$Terrace;LHeardNext$Air;ZI)V"⟩, prog_4_method_12_code, 8, none, 2, 4, hm_t26)
def hm_t27 : hc_K := [[some (.iload_n 0, 1, 0, 0), some (.sipush 137, 3, 137, 0), none, none, some (.invokestatic 104, 3, 28, 2), none, none, some (.iload_n 1, 1, 1, 0), some (.invokestatic 104, 3, 28, 2), none, none, some (.istore_n 2, 1, 2, 0), some (.iload_n 2, 1, 2, 0), some (.iconst 1, 1, 1, 0), some (.iushr, 1, 0, 0), some (.bipush 100, 2, 100, 0), none, some (.irem, 1, 0, 0), some (.ireturn, 1, 0, 0)]]
def hm_m27 : hc_M := (⟨"HeardNext$Life", "lot", "(II)I"⟩, prog_4_method_13_code, 3, (some (.int)), 2, 2, hm_t27)
def hm_t28 : hc_K := [[some (.iload_n 0, 1, 0, 0), some (.iload_n 1, 1, 1, 0), some (.ixor, 1, 0, 0), some (.ldc 107, 2, 1103515245, 0), none, some (.imul, 1, 0, 0), some (.sipush 12345, 3, 12345, 0), none, none, some (.iadd, 1, 0, 0), some (.istore_n 2, 1, 2, 0), some (.iload_n 2, 1, 2, 0), some (.iload_n 2, 1, 2, 0), some (.bipush 15, 2, 15, 0), none, some (.iushr, 1, 0, 0), some (.ixor, 1, 0, 0), some (.ireturn, 1, 0, 0)]]
def hm_m28 : hc_M := (⟨"HeardNext$Life", "mixed", "(II)I"⟩, prog_4_method_14_code, 3, (some (.int)), 2, 2, hm_t28)
def hm_t29 : hc_K := [[some (.iconst 0, 1, 0, 0), some (.istore_n 1, 1, 1, 0), some (.iconst 0, 1, 0, 0), some (.istore_n 2, 1, 2, 0), some (.iload_n 2, 1, 2, 0), some (.aload_n 0, 1, 0, 0), some (.getfield 39, 3, 2, 6), none, none, some (.if_icmp .ge 24, 3, 33, 0), none, none, some (.aload_n 0, 1, 0, 0), some (.getfield 27, 3, 2, 5), none, none, some (.iload_n 2, 1, 2, 0), some (.iaload, 1, 0, 0), some (.ifCond .le 9, 3, 27, 0), none, none, some (.iload_n 1, 1, 1, 0), some (.iconst 1, 1, 1, 0), some (.iload_n 2, 1, 2, 0), some (.ishl, 1, 0, 0), some (.ior, 1, 0, 0), some (.istore_n 1, 1, 1, 0), some (.iinc 2 1, 3, 2, 1), none, none, some (.goto (-26), 3, 4, 0)], [none, some (.iload_n 1, 1, 1, 0), some (.ireturn, 1, 0, 0)]]
def hm_m29 : hc_M := (⟨"HeardNext$Life", "mourningOnes", "()I"⟩, prog_4_method_15_code, 3, (some (.int)), 2, 0, hm_t29)
def hm_t30 : hc_K := [[some (.iconst 0, 1, 0, 0), some (.istore_n 1, 1, 1, 0), some (.iconst 0, 1, 0, 0), some (.istore_n 2, 1, 2, 0), some (.iload_n 2, 1, 2, 0), some (.aload_n 0, 1, 0, 0), some (.getfield 39, 3, 2, 6), none, none, some (.if_icmp .ge 23, 3, 32, 0), none, none, some (.aload_n 0, 1, 0, 0), some (.iload_n 2, 1, 2, 0), some (.invokevirtual 108, 3, 21, 0), none, none, some (.ifCond .ne 9, 3, 26, 0), none, none, some (.iload_n 1, 1, 1, 0), some (.iconst 1, 1, 1, 0), some (.iload_n 2, 1, 2, 0), some (.ishl, 1, 0, 0), some (.ior, 1, 0, 0), some (.istore_n 1, 1, 1, 0), some (.iinc 2 1, 3, 2, 1), none, none, some (.goto (-25), 3, 4, 0)], [some (.iload_n 1, 1, 1, 0), some (.ireturn, 1, 0, 0)]]
def hm_m30 : hc_M := (⟨"HeardNext$Life", "contentOnes", "()I"⟩, prog_4_method_16_code, 3, (some (.int)), 2, 0, hm_t30)
def hm_t31 : hc_K := [[some (.iconst 0, 1, 0, 0), some (.istore_n 1, 1, 1, 0), some (.iconst 0, 1, 0, 0), some (.istore_n 2, 1, 2, 0), some (.iload_n 2, 1, 2, 0), some (.aload_n 0, 1, 0, 0), some (.getfield 39, 3, 2, 6), none, none, some (.if_icmp .ge 24, 3, 33, 0), none, none, some (.aload_n 0, 1, 0, 0), some (.getfield 24, 3, 2, 4), none, none, some (.iload_n 2, 1, 2, 0), some (.iaload, 1, 0, 0), some (.ifCond .eq 9, 3, 27, 0), none, none, some (.iload_n 1, 1, 1, 0), some (.iconst 1, 1, 1, 0), some (.iload_n 2, 1, 2, 0), some (.ishl, 1, 0, 0), some (.ior, 1, 0, 0), some (.istore_n 1, 1, 1, 0), some (.iinc 2 1, 3, 2, 1), none, none, some (.goto (-26), 3, 4, 0)], [none, some (.iload_n 1, 1, 1, 0), some (.ireturn, 1, 0, 0)]]
def hm_m31 : hc_M := (⟨"HeardNext$Life", "warmOnes", "()I"⟩, prog_4_method_17_code, 3, (some (.int)), 2, 0, hm_t31)
def hm_t32 : hc_K := [[some (.iconst 0, 1, 0, 0), some (.istore_n 1, 1, 1, 0), some (.iconst 0, 1, 0, 0), some (.istore_n 2, 1, 2, 0), some (.iload_n 2, 1, 2, 0), some (.aload_n 0, 1, 0, 0), some (.getfield 39, 3, 2, 6), none, none, some (.if_icmp .ge 25, 3, 34, 0), none, none, some (.aload_n 0, 1, 0, 0), some (.getfield 21, 3, 2, 3), none, none, some (.iload_n 2, 1, 2, 0), some (.iaload, 1, 0, 0), some (.iload_n 2, 1, 2, 0), some (.if_icmp .eq 9, 3, 28, 0), none, none, some (.iload_n 1, 1, 1, 0), some (.iconst 1, 1, 1, 0), some (.iload_n 2, 1, 2, 0), some (.ishl, 1, 0, 0), some (.ior, 1, 0, 0), some (.istore_n 1, 1, 1, 0), some (.iinc 2 1, 3, 2, 1), none, none, some (.goto (-27), 3, 4, 0)], [none, none, some (.iload_n 1, 1, 1, 0), some (.ireturn, 1, 0, 0)]]
def hm_m32 : hc_M := (⟨"HeardNext$Life", "movedOnes", "()I"⟩, prog_4_method_18_code, 3, (some (.int)), 2, 0, hm_t32)
def hm_t33 : hc_K := [[some (.aload_n 0, 1, 0, 0), some (.invokespecial 3, 3, 0, 9), none, none, some (.aload_n 0, 1, 0, 0), some (.bipush 40, 2, 40, 0), none, some (.anewarray 9, 3, 4, 0), none, none, some (.putfield 11, 3, 3, 0), none, none, some (.iconst 0, 1, 0, 0), some (.istore_n 1, 1, 1, 0), some (.iload_n 1, 1, 1, 0), some (.bipush 40, 2, 40, 0), none, some (.if_icmp .ge 22, 3, 40, 0), none, none, some (.aload_n 0, 1, 0, 0), some (.getfield 11, 3, 3, 0), none, none, some (.iload_n 1, 1, 1, 0), some (.new 9, 3, 2, 0), none, none, some (.dup, 1, 0, 0), some (.invokespecial 17, 3, 15, 0)], [none, some (.aastore, 1, 0, 0), some (.iinc 1 1, 3, 1, 1), none, none, some (.goto (-22), 3, 15, 0), none, none, some (.return_, 1, 0, 0)]]
def hm_m33 : hc_M := (⟨"HeardNext$Past", "<init>", "()V"⟩, prog_5_method_1_code, 2, none, 3, 0, hm_t33)
def hm_t34 : hc_K := [[some (.aload_n 0, 1, 0, 0), some (.getfield 11, 3, 3, 0), none, none, some (.aload_n 0, 1, 0, 0), some (.getfield 18, 3, 3, 1), none, none, some (.aload_n 0, 1, 0, 0), some (.getfield 22, 3, 3, 2), none, none, some (.iadd, 1, 0, 0), some (.bipush 40, 2, 40, 0), none, some (.irem, 1, 0, 0), some (.aaload, 1, 0, 0), some (.aload_n 1, 1, 1, 0), some (.invokevirtual 25, 3, 17, 0), none, none, some (.aload_n 0, 1, 0, 0), some (.getfield 22, 3, 3, 2), none, none, some (.bipush 40, 2, 40, 0), none, some (.if_icmp .ge 16, 3, 43, 0), none, none, some (.aload_n 0, 1, 0, 0), some (.dup, 1, 0, 0)], [some (.getfield 22, 3, 3, 2), none, none, some (.iconst 1, 1, 1, 0), some (.iadd, 1, 0, 0), some (.putfield 22, 3, 3, 2), none, none, some (.goto 16, 3, 56, 0), none, none, some (.aload_n 0, 1, 0, 0), some (.aload_n 0, 1, 0, 0), some (.getfield 18, 3, 3, 1), none, none, some (.iconst 1, 1, 1, 0), some (.iadd, 1, 0, 0), some (.bipush 40, 2, 40, 0), none, some (.irem, 1, 0, 0), some (.putfield 18, 3, 3, 1), none, none, some (.return_, 1, 0, 0)]]
def hm_m34 : hc_M := (⟨"HeardNext$Past", "keep", "(LHeardNext$Life;)V"⟩, prog_5_method_2_code, 2, none, 3, 1, hm_t34)
def hm_t35 : hc_K := [[some (.aload_n 0, 1, 0, 0), some (.getfield 22, 3, 3, 2), none, none, some (.ifCond .ne 5, 3, 9, 0), none, none, some (.iconst 0, 1, 0, 0), some (.ireturn, 1, 0, 0), some (.aload_n 0, 1, 0, 0), some (.dup, 1, 0, 0), some (.getfield 22, 3, 3, 2), none, none, some (.iconst 1, 1, 1, 0), some (.isub, 1, 0, 0), some (.putfield 22, 3, 3, 2), none, none, some (.aload_n 1, 1, 1, 0), some (.aload_n 0, 1, 0, 0), some (.getfield 11, 3, 3, 0), none, none, some (.aload_n 0, 1, 0, 0), some (.getfield 18, 3, 3, 1), none, none, some (.aload_n 0, 1, 0, 0), some (.getfield 22, 3, 3, 2)], [some (.iadd, 1, 0, 0), some (.bipush 40, 2, 40, 0), none, some (.irem, 1, 0, 0), some (.aaload, 1, 0, 0), some (.invokevirtual 25, 3, 17, 0), none, none, some (.iconst 1, 1, 1, 0), some (.ireturn, 1, 0, 0)]]
def hm_m35 : hc_M := (⟨"HeardNext$Past", "giveBack", "(LHeardNext$Life;)Z"⟩, prog_5_method_3_code, 2, (some (.boolean)), 3, 1, hm_t35)
def hm_t36 : hc_K := [[some (.aload_n 0, 1, 0, 0), some (.invokespecial 3, 3, 0, 9), none, none, some (.aload_n 0, 1, 0, 0), some (.new 9, 3, 6, 0), none, none, some (.dup, 1, 0, 0), some (.invokespecial 11, 3, 57, 0), none, none, some (.putfield 12, 3, 4, 0), none, none, some (.aload_n 0, 1, 0, 0), some (.bipush 10, 2, 10, 0), none, some (.newarray .long, 2, 2, 0), none, some (.putfield 18, 3, 4, 1), none, none, some (.aload_n 0, 1, 0, 0), some (.aload_n 1, 1, 1, 0), some (.putfield 22, 3, 4, 2), none, none, some (.return_, 1, 0, 0)]]
def hm_m36 : hc_M := (⟨"HeardNext$Reader", "<init>", "(LHeardNext$Terrace;)V"⟩, prog_6_method_1_code, 2, none, 4, 1, hm_t36)
def hm_t37 : hc_K := [[some (.aload_n 0, 1, 0, 0), some (.aload_n 1, 1, 1, 0), some (.putfield 22, 3, 4, 2), none, none, some (.aload_n 0, 1, 0, 0), some (.getfield 22, 3, 4, 2), none, none, some (.invokevirtual 26, 3, 54, 0), none, none, some (.aload_n 0, 1, 0, 0), some (.getfield 12, 3, 4, 0), none, none, some (.aload_n 2, 1, 2, 0), some (.iload_n 3, 1, 3, 0), some (.invokevirtual 31, 3, 58, 0), none, none, some (.aload_n 0, 1, 0, 0), some (.iconst 0, 1, 0, 0), some (.putfield 35, 3, 4, 3), none, none, some (.aload_n 0, 1, 0, 0), some (.iconst 0, 1, 0, 0), some (.putfield 39, 3, 4, 5), none, none, some (.aload_n 0, 1, 0, 0)], [some (.iconst (-1), 1, 4294967295, 0), some (.putfield 42, 3, 4, 6), none, none, some (.aload_n 0, 1, 0, 0), some (.iconst 0, 1, 0, 0), some (.putfield 45, 3, 4, 7), none, none, some (.aload_n 0, 1, 0, 0), some (.iconst (-1), 1, 4294967295, 0), some (.putfield 48, 3, 4, 8), none, none, some (.iconst 1, 1, 1, 0), some (.istore 4, 2, 4, 0), none, some (.iconst 0, 1, 0, 0), some (.istore 5, 2, 5, 0), none, some (.iload 5, 2, 5, 0), none, some (.sipush 400, 3, 400, 0), none, none, some (.if_icmp .gt 133, 3, 190, 0), none, none, some (.iload 4, 2, 4, 0), none, some (.ifCond .eq 128, 3, 190, 0)], [none, some (.aload_n 0, 1, 0, 0), some (.invokevirtual 51, 3, 38, 0), none, none, some (.bipush 22, 2, 22, 0), none, some (.if_icmp .eq 119, 3, 190, 0), none, none, some (.aload_n 0, 1, 0, 0), some (.invokevirtual 51, 3, 38, 0), none, none, some (.istore 6, 2, 6, 0), none, some (.iload 6, 2, 6, 0), none, some (.tableswitch 95 0 7 #[46, 55, 64, 64, 64, 64, 77, 86], 46, 0, 0)], [], [some (.aload_n 0, 1, 0, 0), some (.invokevirtual 55, 3, 45, 0), none, none, some (.istore 4, 2, 4, 0), none, some (.goto 50, 3, 184, 0), none, none, some (.aload_n 0, 1, 0, 0), some (.invokevirtual 59, 3, 46, 0), none, none, some (.istore 4, 2, 4, 0), none, some (.goto 41, 3, 184, 0), none, none, some (.aload_n 0, 1, 0, 0), some (.iload 6, 2, 6, 0), none, some (.iconst 2, 1, 2, 0), some (.isub, 1, 0, 0), some (.invokevirtual 62, 3, 49, 0), none, none, some (.istore 4, 2, 4, 0), none, some (.goto 28, 3, 184, 0), none, none, some (.aload_n 0, 1, 0, 0)], [some (.invokevirtual 66, 3, 47, 0), none, none, some (.istore 4, 2, 4, 0), none, some (.goto 19, 3, 184, 0), none, none, some (.aload_n 0, 1, 0, 0), some (.invokevirtual 69, 3, 48, 0), none, none, some (.istore 4, 2, 4, 0), none, some (.goto 10, 3, 184, 0), none, none, some (.aload_n 0, 1, 0, 0), some (.iconst 1, 1, 1, 0), some (.invokevirtual 72, 3, 39, 0), none, none, some (.istore 4, 2, 4, 0), none, some (.iinc 5 1, 3, 5, 1), none, none, some (.goto (-135), 3, 52, 0), none, none, some (.aload_n 0, 1, 0, 0), some (.getfield 39, 3, 4, 5)], [none, none, some (.ifCond .ne 19, 3, 213, 0), none, none, some (.aload_n 0, 1, 0, 0), some (.aload_n 0, 1, 0, 0), some (.getfield 45, 3, 4, 7), none, none, some (.putfield 39, 3, 4, 5), none, none, some (.aload_n 0, 1, 0, 0), some (.aload_n 0, 1, 0, 0), some (.getfield 48, 3, 4, 8), none, none, some (.putfield 42, 3, 4, 6), none, none, some (.aload_n 0, 1, 0, 0), some (.getfield 39, 3, 4, 5), none, none, some (.ireturn, 1, 0, 0)]]
def hm_m37 : hc_M := (⟨"HeardNext$Reader", "readInto", "(LHeardNext$Terrace;[BI)I"⟩, prog_6_method_2_code, 7, (some (.int)), 4, 3, hm_t37)
def hm_t38 : hc_K := [[some (.aload_n 0, 1, 0, 0), some (.getfield 35, 3, 4, 3), none, none, some (.aload_n 0, 1, 0, 0), some (.getfield 12, 3, 4, 0), none, none, some (.getfield 75, 3, 6, 3), none, none, some (.if_icmp .ge 18, 3, 29, 0), none, none, some (.aload_n 0, 1, 0, 0), some (.getfield 12, 3, 4, 0), none, none, some (.getfield 78, 3, 6, 0), none, none, some (.aload_n 0, 1, 0, 0), some (.getfield 35, 3, 4, 3), none, none, some (.iaload, 1, 0, 0), some (.goto 5, 3, 31, 0), none, none, some (.bipush 22, 2, 22, 0), none, some (.ireturn, 1, 0, 0)]]
def hm_m38 : hc_M := (⟨"HeardNext$Reader", "kind", "()I"⟩, prog_6_method_3_code, 1, (some (.int)), 4, 0, hm_t38)
def hm_t39 : hc_K := [[some (.aload_n 0, 1, 0, 0), some (.iload_n 1, 1, 1, 0), some (.putfield 39, 3, 4, 5), none, none, some (.aload_n 0, 1, 0, 0), some (.aload_n 0, 1, 0, 0), some (.getfield 35, 3, 4, 3), none, none, some (.sipush 400, 3, 400, 0), none, none, some (.if_icmp .gt 18, 3, 31, 0), none, none, some (.aload_n 0, 1, 0, 0), some (.getfield 12, 3, 4, 0), none, none, some (.getfield 81, 3, 6, 2), none, none, some (.aload_n 0, 1, 0, 0), some (.getfield 35, 3, 4, 3), none, none, some (.iaload, 1, 0, 0), some (.goto 4, 3, 32, 0), none, none, some (.iconst (-1), 1, 4294967295, 0)], [some (.putfield 42, 3, 4, 6), none, none, some (.iconst 0, 1, 0, 0), some (.ireturn, 1, 0, 0)]]
def hm_m39 : hc_M := (⟨"HeardNext$Reader", "stop", "(I)Z"⟩, prog_6_method_4_code, 2, (some (.boolean)), 4, 1, hm_t39)
def hm_t40 : hc_K := [[some (.aload_n 0, 1, 0, 0), some (.getfield 45, 3, 4, 7), none, none, some (.ifCond .ne 34, 3, 38, 0), none, none, some (.aload_n 0, 1, 0, 0), some (.getfield 35, 3, 4, 3), none, none, some (.sipush 400, 3, 400, 0), none, none, some (.if_icmp .gt 24, 3, 38, 0), none, none, some (.aload_n 0, 1, 0, 0), some (.iload_n 1, 1, 1, 0), some (.putfield 45, 3, 4, 7), none, none, some (.aload_n 0, 1, 0, 0), some (.aload_n 0, 1, 0, 0), some (.getfield 12, 3, 4, 0), none, none, some (.getfield 81, 3, 6, 2), none, none, some (.aload_n 0, 1, 0, 0), some (.getfield 35, 3, 4, 3)], [none, none, some (.iaload, 1, 0, 0), some (.putfield 48, 3, 4, 8), none, none, some (.return_, 1, 0, 0)]]
def hm_m40 : hc_M := (⟨"HeardNext$Reader", "noteLate", "(I)V"⟩, prog_6_method_5_code, 2, none, 4, 1, hm_t40)
def hm_t41 : hc_K := [[some (.aload_n 0, 1, 0, 0), some (.getfield 35, 3, 4, 3), none, none, some (.sipush 400, 3, 400, 0), none, none, some (.if_icmp .lt 25, 3, 32, 0), none, none, some (.aload_n 0, 1, 0, 0), some (.iconst 2, 1, 2, 0), some (.putfield 39, 3, 4, 5), none, none, some (.aload_n 0, 1, 0, 0), some (.aload_n 0, 1, 0, 0), some (.getfield 12, 3, 4, 0), none, none, some (.getfield 81, 3, 6, 2), none, none, some (.sipush 400, 3, 400, 0), none, none, some (.iaload, 1, 0, 0), some (.putfield 42, 3, 4, 6), none, none, some (.iconst 0, 1, 0, 0), some (.ireturn, 1, 0, 0)], [some (.aload_n 0, 1, 0, 0), some (.dup, 1, 0, 0), some (.getfield 35, 3, 4, 3), none, none, some (.iconst 1, 1, 1, 0), some (.iadd, 1, 0, 0), some (.putfield 35, 3, 4, 3), none, none, some (.iconst 1, 1, 1, 0), some (.ireturn, 1, 0, 0)]]
def hm_m41 : hc_M := (⟨"HeardNext$Reader", "step", "()Z"⟩, prog_6_method_6_code, 1, (some (.boolean)), 4, 0, hm_t41)
def hm_t42 : hc_K := [[some (.aload_n 0, 1, 0, 0), some (.invokevirtual 51, 3, 38, 0), none, none, some (.iload_n 1, 1, 1, 0), some (.if_icmp .ne 10, 3, 15, 0), none, none, some (.aload_n 0, 1, 0, 0), some (.invokevirtual 84, 3, 41, 0), none, none, some (.goto 8, 3, 20, 0), none, none, some (.aload_n 0, 1, 0, 0), some (.iconst 1, 1, 1, 0), some (.invokevirtual 72, 3, 39, 0), none, none, some (.ireturn, 1, 0, 0)]]
def hm_m42 : hc_M := (⟨"HeardNext$Reader", "take", "(I)Z"⟩, prog_6_method_7_code, 2, (some (.boolean)), 4, 1, hm_t42)
def hm_t43 : hc_K := [[some (.aload_n 0, 1, 0, 0), some (.invokevirtual 51, 3, 38, 0), none, none, some (.bipush 21, 2, 21, 0), none, some (.if_icmp .eq 9, 3, 15, 0), none, none, some (.aload_n 0, 1, 0, 0), some (.iconst 1, 1, 1, 0), some (.invokevirtual 72, 3, 39, 0), none, none, some (.ireturn, 1, 0, 0), some (.aload_n 0, 1, 0, 0), some (.aload_n 0, 1, 0, 0), some (.getfield 12, 3, 4, 0), none, none, some (.getfield 87, 3, 6, 1), none, none, some (.aload_n 0, 1, 0, 0), some (.getfield 35, 3, 4, 3), none, none, some (.laload, 1, 0, 0), some (.l2i, 1, 0, 0), some (.putfield 90, 3, 4, 4)], [some (.aload_n 0, 1, 0, 0), some (.getfield 90, 3, 4, 4), none, none, some (.iload_n 1, 1, 1, 0), some (.iload_n 2, 1, 2, 0), some (.invokestatic 93, 3, 78, 3), none, none, some (.ifCond .ne 8, 3, 49, 0), none, none, some (.aload_n 0, 1, 0, 0), some (.iconst 5, 1, 5, 0), some (.invokevirtual 97, 3, 40, 0), none, none, some (.aload_n 0, 1, 0, 0), some (.invokevirtual 84, 3, 41, 0), none, none, some (.ireturn, 1, 0, 0)]]
def hm_m43 : hc_M := (⟨"HeardNext$Reader", "takeNumber", "(II)Z"⟩, prog_6_method_8_code, 3, (some (.boolean)), 4, 2, hm_t43)
def hm_t44 : hc_K := [[some (.aload_n 0, 1, 0, 0), some (.invokevirtual 51, 3, 38, 0), none, none, some (.bipush 20, 2, 20, 0), none, some (.if_icmp .eq 9, 3, 15, 0), none, none, some (.aload_n 0, 1, 0, 0), some (.iconst 1, 1, 1, 0), some (.invokevirtual 72, 3, 39, 0), none, none, some (.ireturn, 1, 0, 0), some (.aload_n 0, 1, 0, 0), some (.getfield 12, 3, 4, 0), none, none, some (.getfield 87, 3, 6, 1), none, none, some (.aload_n 0, 1, 0, 0), some (.getfield 35, 3, 4, 3), none, none, some (.laload, 1, 0, 0), some (.lstore_n 1, 1, 1, 0), some (.iconst 0, 1, 0, 0), some (.istore_n 3, 1, 3, 0), some (.iload_n 3, 1, 3, 0), some (.aload_n 0, 1, 0, 0)], [some (.getfield 22, 3, 4, 2), none, none, some (.getfield 101, 3, 5, 4), none, none, some (.if_icmp .ge 25, 3, 63, 0), none, none, some (.aload_n 0, 1, 0, 0), some (.getfield 18, 3, 4, 1), none, none, some (.iload_n 3, 1, 3, 0), some (.laload, 1, 0, 0), some (.lload_n 1, 1, 1, 0), some (.lcmp, 1, 0, 0), some (.ifCond .ne 8, 3, 57, 0), none, none, some (.aload_n 0, 1, 0, 0), some (.iconst 3, 1, 3, 0), some (.invokevirtual 97, 3, 40, 0), none, none, some (.iinc 3 1, 3, 3, 1), none, none, some (.goto (-30), 3, 30, 0), none, none, some (.aload_n 0, 1, 0, 0)], [some (.getfield 18, 3, 4, 1), none, none, some (.aload_n 0, 1, 0, 0), some (.getfield 22, 3, 4, 2), none, none, some (.getfield 101, 3, 5, 4), none, none, some (.lload_n 1, 1, 1, 0), some (.lastore, 1, 0, 0), some (.aload_n 0, 1, 0, 0), some (.invokevirtual 84, 3, 41, 0), none, none, some (.ireturn, 1, 0, 0)]]
def hm_m44 : hc_M := (⟨"HeardNext$Reader", "takeName", "()Z"⟩, prog_6_method_9_code, 4, (some (.boolean)), 4, 0, hm_t44)
def hm_t45 : hc_K := [[some (.aload_n 0, 1, 0, 0), some (.getfield 22, 3, 4, 2), none, none, some (.getfield 101, 3, 5, 4), none, none, some (.bipush 10, 2, 10, 0), none, some (.if_icmp .lt 9, 3, 18, 0), none, none, some (.aload_n 0, 1, 0, 0), some (.iconst 2, 1, 2, 0), some (.invokevirtual 72, 3, 39, 0), none, none, some (.ireturn, 1, 0, 0), some (.aload_n 0, 1, 0, 0), some (.invokevirtual 84, 3, 41, 0), none, none, some (.ifCond .eq 21, 3, 43, 0), none, none, some (.aload_n 0, 1, 0, 0), some (.invokevirtual 104, 3, 44, 0), none, none, some (.ifCond .eq 14, 3, 43, 0)], [some (.aload_n 0, 1, 0, 0), some (.iconst 0, 1, 0, 0), some (.sipush 255, 3, 255, 0), none, none, some (.invokevirtual 107, 3, 43, 0), none, none, some (.ifCond .ne 5, 3, 45, 0), none, none, some (.iconst 0, 1, 0, 0), some (.ireturn, 1, 0, 0), some (.aload_n 0, 1, 0, 0), some (.getfield 90, 3, 4, 4), none, none, some (.istore_n 1, 1, 1, 0), some (.aload_n 0, 1, 0, 0), some (.iconst 0, 1, 0, 0), some (.bipush 99, 2, 99, 0), none, some (.invokevirtual 107, 3, 43, 0), none, none, some (.ifCond .eq 12, 3, 69, 0), none, none, some (.aload_n 0, 1, 0, 0), some (.bipush 24, 2, 24, 0), none, some (.invokevirtual 111, 3, 42, 0)], [none, none, some (.ifCond .ne 5, 3, 71, 0), none, none, some (.iconst 0, 1, 0, 0), some (.ireturn, 1, 0, 0), some (.aload_n 0, 1, 0, 0), some (.getfield 22, 3, 4, 2), none, none, some (.iload_n 1, 1, 1, 0), some (.aload_n 0, 1, 0, 0), some (.getfield 90, 3, 4, 4), none, none, some (.invokevirtual 114, 3, 55, 0), none, none, some (.iconst 1, 1, 1, 0), some (.ireturn, 1, 0, 0)]]
def hm_m45 : hc_M := (⟨"HeardNext$Reader", "readHouse", "()Z"⟩, prog_6_method_10_code, 2, (some (.boolean)), 4, 0, hm_t45)
def hm_t46 : hc_K := [[some (.aload_n 0, 1, 0, 0), some (.getfield 22, 3, 4, 2), none, none, some (.getfield 118, 3, 5, 5), none, none, some (.bipush 8, 2, 8, 0), none, some (.if_icmp .lt 9, 3, 18, 0), none, none, some (.aload_n 0, 1, 0, 0), some (.iconst 2, 1, 2, 0), some (.invokevirtual 72, 3, 39, 0), none, none, some (.ireturn, 1, 0, 0), some (.aload_n 0, 1, 0, 0), some (.invokevirtual 84, 3, 41, 0), none, none, some (.ifCond .eq 13, 3, 35, 0), none, none, some (.aload_n 0, 1, 0, 0), some (.iconst 0, 1, 0, 0), some (.bipush 23, 2, 23, 0), none, some (.invokevirtual 107, 3, 43, 0)], [some (.ifCond .ne 5, 3, 37, 0), none, none, some (.iconst 0, 1, 0, 0), some (.ireturn, 1, 0, 0), some (.aload_n 0, 1, 0, 0), some (.getfield 90, 3, 4, 4), none, none, some (.istore_n 1, 1, 1, 0), some (.aload_n 0, 1, 0, 0), some (.iconst 0, 1, 0, 0), some (.sipush 255, 3, 255, 0), none, none, some (.invokevirtual 107, 3, 43, 0), none, none, some (.ifCond .eq 12, 3, 62, 0), none, none, some (.aload_n 0, 1, 0, 0), some (.bipush 24, 2, 24, 0), none, some (.invokevirtual 111, 3, 42, 0), none, none, some (.ifCond .ne 5, 3, 64, 0), none, none, some (.iconst 0, 1, 0, 0), some (.ireturn, 1, 0, 0)], [some (.aload_n 0, 1, 0, 0), some (.getfield 22, 3, 4, 2), none, none, some (.iload_n 1, 1, 1, 0), some (.aload_n 0, 1, 0, 0), some (.getfield 90, 3, 4, 4), none, none, some (.invokevirtual 121, 3, 56, 0), none, none, some (.iconst 1, 1, 1, 0), some (.ireturn, 1, 0, 0)]]
def hm_m46 : hc_M := (⟨"HeardNext$Reader", "readSend", "()Z"⟩, prog_6_method_11_code, 2, (some (.boolean)), 4, 0, hm_t46)
def hm_t47 : hc_K := [[some (.aload_n 0, 1, 0, 0), some (.invokevirtual 84, 3, 41, 0), none, none, some (.ifCond .eq 22, 3, 26, 0), none, none, some (.aload_n 0, 1, 0, 0), some (.iconst 1, 1, 1, 0), some (.bipush 99, 2, 99, 0), none, some (.invokevirtual 107, 3, 43, 0), none, none, some (.ifCond .eq 12, 3, 26, 0), none, none, some (.aload_n 0, 1, 0, 0), some (.bipush 24, 2, 24, 0), none, some (.invokevirtual 111, 3, 42, 0), none, none, some (.ifCond .ne 5, 3, 28, 0), none, none, some (.iconst 0, 1, 0, 0), some (.ireturn, 1, 0, 0), some (.aload_n 0, 1, 0, 0), some (.getfield 22, 3, 4, 2)], [some (.aload_n 0, 1, 0, 0), some (.getfield 90, 3, 4, 4), none, none, some (.putfield 124, 3, 5, 6), none, none, some (.iconst 1, 1, 1, 0), some (.ireturn, 1, 0, 0)]]
def hm_m47 : hc_M := (⟨"HeardNext$Reader", "readGrief", "()Z"⟩, prog_6_method_12_code, 1, (some (.boolean)), 4, 0, hm_t47)
def hm_t48 : hc_K := [[some (.aload_n 0, 1, 0, 0), some (.invokevirtual 84, 3, 41, 0), none, none, some (.ifCond .eq 23, 3, 27, 0), none, none, some (.aload_n 0, 1, 0, 0), some (.iconst 0, 1, 0, 0), some (.sipush 9999, 3, 9999, 0), none, none, some (.invokevirtual 107, 3, 43, 0), none, none, some (.ifCond .eq 12, 3, 27, 0), none, none, some (.aload_n 0, 1, 0, 0), some (.bipush 24, 2, 24, 0), none, some (.invokevirtual 111, 3, 42, 0), none, none, some (.ifCond .ne 5, 3, 29, 0), none, none, some (.iconst 0, 1, 0, 0), some (.ireturn, 1, 0, 0), some (.aload_n 0, 1, 0, 0), some (.getfield 22, 3, 4, 2)], [none, some (.aload_n 0, 1, 0, 0), some (.getfield 90, 3, 4, 4), none, none, some (.putfield 127, 3, 5, 7), none, none, some (.iconst 1, 1, 1, 0), some (.ireturn, 1, 0, 0)]]
def hm_m48 : hc_M := (⟨"HeardNext$Reader", "readSeed", "()Z"⟩, prog_6_method_13_code, 1, (some (.boolean)), 4, 0, hm_t48)
def hm_t49 : hc_K := [[some (.aload_n 0, 1, 0, 0), some (.getfield 22, 3, 4, 2), none, none, some (.getfield 130, 3, 5, 3), none, none, some (.astore_n 2, 1, 2, 0), some (.aload_n 0, 1, 0, 0), some (.invokevirtual 84, 3, 41, 0), none, none, some (.ifCond .eq 12, 3, 24, 0), none, none, some (.aload_n 0, 1, 0, 0), some (.bipush 25, 2, 25, 0), none, some (.invokevirtual 111, 3, 42, 0), none, none, some (.ifCond .ne 5, 3, 26, 0), none, none, some (.iconst 0, 1, 0, 0), some (.ireturn, 1, 0, 0), some (.aload_n 2, 1, 2, 0), some (.invokevirtual 134, 3, 9, 0), none, none, some (.istore_n 3, 1, 3, 0), some (.iconst 0, 1, 0, 0)], [some (.istore 4, 2, 4, 0), none, some (.iload 4, 2, 4, 0), none, some (.iconst 4, 1, 4, 0), some (.if_icmp .gt 115, 3, 152, 0), none, none, some (.aload_n 0, 1, 0, 0), some (.invokevirtual 51, 3, 38, 0), none, none, some (.bipush 8, 2, 8, 0), none, some (.if_icmp .ne 106, 3, 152, 0), none, none, some (.iload 4, 2, 4, 0), none, some (.iconst 4, 1, 4, 0), some (.if_icmp .ne 9, 3, 61, 0), none, none, some (.aload_n 0, 1, 0, 0), some (.iconst 2, 1, 2, 0), some (.invokevirtual 72, 3, 39, 0), none, none, some (.ireturn, 1, 0, 0), some (.aload_n 0, 1, 0, 0), some (.invokevirtual 84, 3, 41, 0)], [none, some (.ifCond .eq 37, 3, 102, 0), none, none, some (.aload_n 0, 1, 0, 0), some (.iconst 0, 1, 0, 0), some (.invokevirtual 139, 3, 50, 0), none, none, some (.ifCond .eq 29, 3, 102, 0), none, none, some (.aload_n 0, 1, 0, 0), some (.bipush 30, 2, 30, 0), none, some (.invokevirtual 111, 3, 42, 0), none, none, some (.ifCond .eq 20, 3, 102, 0), none, none, some (.aload_n 0, 1, 0, 0), some (.iconst 0, 1, 0, 0), some (.invokevirtual 139, 3, 50, 0), none, none, some (.ifCond .eq 12, 3, 102, 0), none, none, some (.aload_n 0, 1, 0, 0), some (.bipush 9, 2, 9, 0)], [some (.invokevirtual 111, 3, 42, 0), none, none, some (.ifCond .ne 5, 3, 104, 0), none, none, some (.iconst 0, 1, 0, 0), some (.ireturn, 1, 0, 0), some (.aload_n 2, 1, 2, 0), some (.bipush 6, 2, 6, 0), none, some (.iconst 0, 1, 0, 0), some (.invokevirtual 142, 3, 12, 0), none, none, some (.istore 5, 2, 5, 0), none, some (.aload_n 0, 1, 0, 0), some (.iconst 0, 1, 0, 0), some (.invokevirtual 139, 3, 50, 0), none, none, some (.ifCond .eq 12, 3, 130, 0), none, none, some (.aload_n 0, 1, 0, 0), some (.bipush 10, 2, 10, 0), none, some (.invokevirtual 111, 3, 42, 0), none, none, some (.ifCond .ne 5, 3, 132, 0)], [none, none, some (.iconst 0, 1, 0, 0), some (.ireturn, 1, 0, 0), some (.aload_n 2, 1, 2, 0), some (.bipush 7, 2, 7, 0), none, some (.iconst 0, 1, 0, 0), some (.invokevirtual 142, 3, 12, 0), none, none, some (.pop, 1, 0, 0), some (.aload_n 2, 1, 2, 0), some (.iload 5, 2, 5, 0), none, some (.invokevirtual 146, 3, 13, 0), none, none, some (.iinc 4 1, 3, 4, 1), none, none, some (.goto (-115), 3, 34, 0), none, none, some (.aload_n 0, 1, 0, 0), some (.iconst 0, 1, 0, 0), some (.invokevirtual 139, 3, 50, 0), none, none, some (.ifCond .eq 12, 3, 169, 0)], [some (.aload_n 0, 1, 0, 0), some (.bipush 24, 2, 24, 0), none, some (.invokevirtual 111, 3, 42, 0), none, none, some (.ifCond .ne 5, 3, 171, 0), none, none, some (.iconst 0, 1, 0, 0), some (.ireturn, 1, 0, 0), some (.aload_n 2, 1, 2, 0), some (.bipush 7, 2, 7, 0), none, some (.iconst 0, 1, 0, 0), some (.invokevirtual 142, 3, 12, 0), none, none, some (.pop, 1, 0, 0), some (.aload_n 2, 1, 2, 0), some (.iload_n 1, 1, 1, 0), some (.iload_n 3, 1, 3, 0), some (.invokevirtual 149, 3, 10, 0), none, none, some (.iconst 1, 1, 1, 0), some (.ireturn, 1, 0, 0)]]
def hm_m49 : hc_M := (⟨"HeardNext$Reader", "readLaw", "(I)Z"⟩, prog_6_method_14_code, 6, (some (.boolean)), 4, 1, hm_t49)
def hm_t50 : hc_K := [[some (.aload_n 0, 1, 0, 0), some (.iload_n 1, 1, 1, 0), some (.invokevirtual 152, 3, 51, 0), none, none, some (.istore_n 2, 1, 2, 0), some (.iconst 0, 1, 0, 0), some (.istore_n 3, 1, 3, 0), some (.iload_n 3, 1, 3, 0), some (.sipush 400, 3, 400, 0), none, none, some (.if_icmp .ge 80, 3, 92, 0), none, none, some (.iload_n 2, 1, 2, 0), some (.ifCond .eq 76, 3, 92, 0), none, none, some (.aload_n 0, 1, 0, 0), some (.invokevirtual 51, 3, 38, 0), none, none, some (.istore 4, 2, 4, 0), none, some (.iload 4, 2, 4, 0), none, some (.bipush 26, 2, 26, 0), none, some (.if_icmp .eq 12, 3, 41, 0)], [some (.iload 4, 2, 4, 0), none, some (.bipush 27, 2, 27, 0), none, some (.if_icmp .eq 5, 3, 41, 0), none, none, some (.iconst 1, 1, 1, 0), some (.ireturn, 1, 0, 0), some (.aload_n 0, 1, 0, 0), some (.invokevirtual 84, 3, 41, 0), none, none, some (.ifCond .eq 15, 3, 60, 0), none, none, some (.aload_n 0, 1, 0, 0), some (.iload_n 1, 1, 1, 0), some (.invokevirtual 152, 3, 51, 0), none, none, some (.ifCond .eq 7, 3, 60, 0), none, none, some (.iconst 1, 1, 1, 0), some (.goto 4, 3, 61, 0), none, none, some (.iconst 0, 1, 0, 0), some (.istore_n 2, 1, 2, 0), some (.aload_n 0, 1, 0, 0), some (.getfield 22, 3, 4, 2)], [none, none, some (.getfield 130, 3, 5, 3), none, none, some (.iload 4, 2, 4, 0), none, some (.bipush 26, 2, 26, 0), none, some (.if_icmp .ne 7, 3, 80, 0), none, none, some (.iconst 2, 1, 2, 0), some (.goto 4, 3, 81, 0), none, none, some (.iconst 3, 1, 3, 0), some (.iconst 0, 1, 0, 0), some (.invokevirtual 142, 3, 12, 0), none, none, some (.pop, 1, 0, 0), some (.iinc 3 1, 3, 3, 1), none, none, some (.goto (-81), 3, 8, 0), none, none, some (.iload_n 2, 1, 2, 0), some (.ireturn, 1, 0, 0)]]
def hm_m50 : hc_M := (⟨"HeardNext$Reader", "readSum", "(I)Z"⟩, prog_6_method_15_code, 5, (some (.boolean)), 4, 1, hm_t50)
def hm_t51 : hc_K := [[some (.aload_n 0, 1, 0, 0), some (.iload_n 1, 1, 1, 0), some (.invokevirtual 155, 3, 52, 0), none, none, some (.istore_n 2, 1, 2, 0), some (.iconst 0, 1, 0, 0), some (.istore_n 3, 1, 3, 0), some (.iload_n 3, 1, 3, 0), some (.sipush 400, 3, 400, 0), none, none, some (.if_icmp .ge 80, 3, 92, 0), none, none, some (.iload_n 2, 1, 2, 0), some (.ifCond .eq 76, 3, 92, 0), none, none, some (.aload_n 0, 1, 0, 0), some (.invokevirtual 51, 3, 38, 0), none, none, some (.istore 4, 2, 4, 0), none, some (.iload 4, 2, 4, 0), none, some (.bipush 28, 2, 28, 0), none, some (.if_icmp .eq 12, 3, 41, 0)], [some (.iload 4, 2, 4, 0), none, some (.bipush 29, 2, 29, 0), none, some (.if_icmp .eq 5, 3, 41, 0), none, none, some (.iconst 1, 1, 1, 0), some (.ireturn, 1, 0, 0), some (.aload_n 0, 1, 0, 0), some (.invokevirtual 84, 3, 41, 0), none, none, some (.ifCond .eq 15, 3, 60, 0), none, none, some (.aload_n 0, 1, 0, 0), some (.iload_n 1, 1, 1, 0), some (.invokevirtual 155, 3, 52, 0), none, none, some (.ifCond .eq 7, 3, 60, 0), none, none, some (.iconst 1, 1, 1, 0), some (.goto 4, 3, 61, 0), none, none, some (.iconst 0, 1, 0, 0), some (.istore_n 2, 1, 2, 0), some (.aload_n 0, 1, 0, 0), some (.getfield 22, 3, 4, 2)], [none, none, some (.getfield 130, 3, 5, 3), none, none, some (.iload 4, 2, 4, 0), none, some (.bipush 28, 2, 28, 0), none, some (.if_icmp .ne 7, 3, 80, 0), none, none, some (.iconst 4, 1, 4, 0), some (.goto 4, 3, 81, 0), none, none, some (.iconst 5, 1, 5, 0), some (.iconst 0, 1, 0, 0), some (.invokevirtual 142, 3, 12, 0), none, none, some (.pop, 1, 0, 0), some (.iinc 3 1, 3, 3, 1), none, none, some (.goto (-81), 3, 8, 0), none, none, some (.iload_n 2, 1, 2, 0), some (.ireturn, 1, 0, 0)]]
def hm_m51 : hc_M := (⟨"HeardNext$Reader", "readProduct", "(I)Z"⟩, prog_6_method_16_code, 5, (some (.boolean)), 4, 1, hm_t51)
def hm_t52 : hc_K := [[some (.aload_n 0, 1, 0, 0), some (.invokevirtual 51, 3, 38, 0), none, none, some (.istore_n 2, 1, 2, 0), some (.iload_n 2, 1, 2, 0), some (.bipush 21, 2, 21, 0), none, some (.if_icmp .ne 33, 3, 41, 0), none, none, some (.aload_n 0, 1, 0, 0), some (.getfield 22, 3, 4, 2), none, none, some (.getfield 130, 3, 5, 3), none, none, some (.iconst 0, 1, 0, 0), some (.aload_n 0, 1, 0, 0), some (.getfield 12, 3, 4, 0), none, none, some (.getfield 87, 3, 6, 1), none, none, some (.aload_n 0, 1, 0, 0), some (.getfield 35, 3, 4, 3), none, none, some (.laload, 1, 0, 0), some (.l2i, 1, 0, 0)], [some (.invokevirtual 142, 3, 12, 0), none, none, some (.pop, 1, 0, 0), some (.aload_n 0, 1, 0, 0), some (.invokevirtual 84, 3, 41, 0), none, none, some (.ireturn, 1, 0, 0), some (.iload_n 2, 1, 2, 0), some (.bipush 11, 2, 11, 0), none, some (.bipush 19, 2, 19, 0), none, some (.invokestatic 93, 3, 78, 3), none, none, some (.ifCond .eq 24, 3, 73, 0), none, none, some (.aload_n 0, 1, 0, 0), some (.getfield 22, 3, 4, 2), none, none, some (.getfield 130, 3, 5, 3), none, none, some (.iconst 1, 1, 1, 0), some (.iload_n 2, 1, 2, 0), some (.bipush 11, 2, 11, 0), none, some (.isub, 1, 0, 0)], [some (.invokevirtual 142, 3, 12, 0), none, none, some (.pop, 1, 0, 0), some (.aload_n 0, 1, 0, 0), some (.invokevirtual 84, 3, 41, 0), none, none, some (.ireturn, 1, 0, 0), some (.iload_n 2, 1, 2, 0), some (.bipush 31, 2, 31, 0), none, some (.if_icmp .eq 9, 3, 85, 0), none, none, some (.aload_n 0, 1, 0, 0), some (.iconst 1, 1, 1, 0), some (.invokevirtual 72, 3, 39, 0), none, none, some (.ireturn, 1, 0, 0), some (.iload_n 1, 1, 1, 0), some (.bipush 6, 2, 6, 0), none, some (.if_icmp .lt 9, 3, 97, 0), none, none, some (.aload_n 0, 1, 0, 0), some (.iconst 2, 1, 2, 0), some (.invokevirtual 72, 3, 39, 0)], [some (.ireturn, 1, 0, 0), some (.aload_n 0, 1, 0, 0), some (.invokevirtual 84, 3, 41, 0), none, none, some (.ifCond .eq 26, 3, 127, 0), none, none, some (.aload_n 0, 1, 0, 0), some (.iload_n 1, 1, 1, 0), some (.iconst 1, 1, 1, 0), some (.iadd, 1, 0, 0), some (.invokevirtual 139, 3, 50, 0), none, none, some (.ifCond .eq 16, 3, 127, 0), none, none, some (.aload_n 0, 1, 0, 0), some (.bipush 32, 2, 32, 0), none, some (.invokevirtual 111, 3, 42, 0), none, none, some (.ifCond .eq 7, 3, 127, 0), none, none, some (.iconst 1, 1, 1, 0), some (.goto 4, 3, 128, 0), none, none, some (.iconst 0, 1, 0, 0)], [some (.ireturn, 1, 0, 0)]]
def hm_m52 : hc_M := (⟨"HeardNext$Reader", "readUnit", "(I)Z"⟩, prog_6_method_17_code, 3, (some (.boolean)), 4, 1, hm_t52)
def hm_t53 : hc_K := [[some (.aload_n 0, 1, 0, 0), some (.invokespecial 3, 3, 0, 9), none, none, some (.aload_n 0, 1, 0, 0), some (.bipush 10, 2, 10, 0), none, some (.newarray .int, 2, 1, 0), none, some (.putfield 9, 3, 5, 0), none, none, some (.aload_n 0, 1, 0, 0), some (.bipush 10, 2, 10, 0), none, some (.newarray .int, 2, 1, 0), none, some (.putfield 15, 3, 5, 1), none, none, some (.aload_n 0, 1, 0, 0), some (.bipush 24, 2, 24, 0), none, some (.newarray .int, 2, 1, 0), none, some (.putfield 18, 3, 5, 2), none, none, some (.aload_n 0, 1, 0, 0), some (.new 21, 3, 1, 0)], [some (.dup, 1, 0, 0), some (.invokespecial 23, 3, 7, 0), none, none, some (.putfield 24, 3, 5, 3), none, none, some (.return_, 1, 0, 0)]]
def hm_m53 : hc_M := (⟨"HeardNext$Terrace", "<init>", "()V"⟩, prog_7_method_1_code, 1, none, 5, 0, hm_t53)
def hm_t54 : hc_K := [[some (.aload_n 0, 1, 0, 0), some (.getfield 18, 3, 5, 2), none, none, some (.iconst 0, 1, 0, 0), some (.invokestatic 28, 3, 246, 2), none, none, some (.aload_n 0, 1, 0, 0), some (.getfield 24, 3, 5, 3), none, none, some (.invokevirtual 34, 3, 8, 0), none, none, some (.aload_n 0, 1, 0, 0), some (.iconst 0, 1, 0, 0), some (.putfield 37, 3, 5, 4), none, none, some (.aload_n 0, 1, 0, 0), some (.iconst 0, 1, 0, 0), some (.putfield 41, 3, 5, 5), none, none, some (.aload_n 0, 1, 0, 0), some (.bipush 6, 2, 6, 0), none, some (.putfield 44, 3, 5, 6), none, none, some (.aload_n 0, 1, 0, 0)], [some (.iconst 0, 1, 0, 0), some (.putfield 47, 3, 5, 7), none, none, some (.return_, 1, 0, 0)]]
def hm_m54 : hc_M := (⟨"HeardNext$Terrace", "empty", "()V"⟩, prog_7_method_2_code, 1, none, 5, 0, hm_t54)
def hm_t55 : hc_K := [[some (.aload_n 0, 1, 0, 0), some (.getfield 37, 3, 5, 4), none, none, some (.bipush 10, 2, 10, 0), none, some (.if_icmp .ge 33, 3, 39, 0), none, none, some (.aload_n 0, 1, 0, 0), some (.getfield 9, 3, 5, 0), none, none, some (.aload_n 0, 1, 0, 0), some (.getfield 37, 3, 5, 4), none, none, some (.iload_n 1, 1, 1, 0), some (.iastore, 1, 0, 0), some (.aload_n 0, 1, 0, 0), some (.getfield 15, 3, 5, 1), none, none, some (.aload_n 0, 1, 0, 0), some (.getfield 37, 3, 5, 4), none, none, some (.iload_n 2, 1, 2, 0), some (.iastore, 1, 0, 0), some (.aload_n 0, 1, 0, 0), some (.dup, 1, 0, 0), some (.getfield 37, 3, 5, 4)], [none, none, some (.iconst 1, 1, 1, 0), some (.iadd, 1, 0, 0), some (.putfield 37, 3, 5, 4), none, none, some (.return_, 1, 0, 0)]]
def hm_m55 : hc_M := (⟨"HeardNext$Terrace", "addHouse", "(II)V"⟩, prog_7_method_3_code, 3, none, 5, 2, hm_t55)
def hm_t56 : hc_K := [[some (.iload_n 1, 1, 1, 0), some (.iconst 0, 1, 0, 0), some (.bipush 23, 2, 23, 0), none, some (.invokestatic 50, 3, 78, 3), none, none, some (.ifCond .eq 10, 3, 17, 0), none, none, some (.aload_n 0, 1, 0, 0), some (.getfield 18, 3, 5, 2), none, none, some (.iload_n 1, 1, 1, 0), some (.iload_n 2, 1, 2, 0), some (.iastore, 1, 0, 0), some (.aload_n 0, 1, 0, 0), some (.dup, 1, 0, 0), some (.getfield 41, 3, 5, 5), none, none, some (.iconst 1, 1, 1, 0), some (.iadd, 1, 0, 0), some (.putfield 41, 3, 5, 5), none, none, some (.return_, 1, 0, 0)]]
def hm_m56 : hc_M := (⟨"HeardNext$Terrace", "addSend", "(II)V"⟩, prog_7_method_4_code, 3, none, 5, 2, hm_t56)
def hm_t57 : hc_K := [[some (.aload_n 0, 1, 0, 0), some (.invokespecial 3, 3, 0, 9), none, none, some (.aload_n 0, 1, 0, 0), some (.sipush 401, 3, 401, 0), none, none, some (.newarray .int, 2, 1, 0), none, some (.putfield 9, 3, 6, 0), none, none, some (.aload_n 0, 1, 0, 0), some (.sipush 401, 3, 401, 0), none, none, some (.newarray .long, 2, 2, 0), none, some (.putfield 15, 3, 6, 1), none, none, some (.aload_n 0, 1, 0, 0), some (.sipush 401, 3, 401, 0), none, none, some (.newarray .int, 2, 1, 0), none, some (.putfield 19, 3, 6, 2), none, none, some (.return_, 1, 0, 0)]]
def hm_m57 : hc_M := (⟨"HeardNext$Tokens", "<init>", "()V"⟩, prog_8_method_1_code, 1, none, 6, 0, hm_t57)
def hm_t58 : hc_K := [[some (.aload_n 0, 1, 0, 0), some (.iconst 0, 1, 0, 0), some (.putfield 22, 3, 6, 3), none, none, some (.iconst 0, 1, 0, 0), some (.istore_n 3, 1, 3, 0), some (.iconst 0, 1, 0, 0), some (.istore 4, 2, 4, 0), none, some (.iload 4, 2, 4, 0), none, some (.iload_n 2, 1, 2, 0), some (.if_icmp .gt 87, 3, 100, 0), none, none, some (.aload_n 0, 1, 0, 0), some (.getfield 22, 3, 6, 3), none, none, some (.sipush 400, 3, 400, 0), none, none, some (.if_icmp .gt 77, 3, 100, 0), none, none, some (.aload_n 1, 1, 1, 0), some (.iload_n 3, 1, 3, 0), some (.iload_n 2, 1, 2, 0), some (.invokestatic 26, 3, 59, 2)], [some (.istore_n 3, 1, 3, 0), some (.aload_n 0, 1, 0, 0), some (.getfield 19, 3, 6, 2), none, none, some (.aload_n 0, 1, 0, 0), some (.getfield 22, 3, 6, 3), none, none, some (.iload_n 3, 1, 3, 0), some (.iastore, 1, 0, 0), some (.aload_n 0, 1, 0, 0), some (.aload_n 1, 1, 1, 0), some (.iload_n 3, 1, 3, 0), some (.iload_n 2, 1, 2, 0), some (.invokevirtual 30, 3, 60, 0), none, none, some (.istore_n 3, 1, 3, 0), some (.aload_n 0, 1, 0, 0), some (.dup, 1, 0, 0), some (.getfield 22, 3, 6, 3), none, none, some (.iconst 1, 1, 1, 0), some (.iadd, 1, 0, 0), some (.putfield 22, 3, 6, 3), none, none, some (.aload_n 0, 1, 0, 0), some (.getfield 9, 3, 6, 0)], [none, some (.aload_n 0, 1, 0, 0), some (.getfield 22, 3, 6, 3), none, none, some (.iconst 1, 1, 1, 0), some (.isub, 1, 0, 0), some (.iaload, 1, 0, 0), some (.bipush 22, 2, 22, 0), none, some (.if_icmp .eq 19, 3, 93, 0), none, none, some (.aload_n 0, 1, 0, 0), some (.getfield 9, 3, 6, 0), none, none, some (.aload_n 0, 1, 0, 0), some (.getfield 22, 3, 6, 3), none, none, some (.iconst 1, 1, 1, 0), some (.isub, 1, 0, 0), some (.iaload, 1, 0, 0), some (.bipush 23, 2, 23, 0), none, some (.if_icmp .ne 4, 3, 94, 0), none, none, some (.return_, 1, 0, 0), some (.iinc 4 1, 3, 4, 1)], [none, some (.goto (-87), 3, 10, 0), none, none, some (.return_, 1, 0, 0)]]
def hm_m58 : hc_M := (⟨"HeardNext$Tokens", "cut", "([BI)V"⟩, prog_8_method_2_code, 5, none, 6, 2, hm_t58)
def hm_t59 : hc_K := [[some (.iload_n 1, 1, 1, 0), some (.istore_n 3, 1, 3, 0), some (.iload_n 3, 1, 3, 0), some (.iload_n 2, 1, 2, 0), some (.if_icmp .ge 44, 3, 48, 0), none, none, some (.aload_n 0, 1, 0, 0), some (.iload_n 3, 1, 3, 0), some (.baload, 1, 0, 0), some (.istore 4, 2, 4, 0), none, some (.iload 4, 2, 4, 0), none, some (.bipush 9, 2, 9, 0), none, some (.if_icmp .eq 26, 3, 42, 0), none, none, some (.iload 4, 2, 4, 0), none, some (.bipush 10, 2, 10, 0), none, some (.if_icmp .eq 19, 3, 42, 0), none, none, some (.iload 4, 2, 4, 0), none, some (.bipush 13, 2, 13, 0), none, some (.if_icmp .eq 12, 3, 42, 0)], [none, some (.iload 4, 2, 4, 0), none, some (.bipush 32, 2, 32, 0), none, some (.if_icmp .eq 5, 3, 42, 0), none, none, some (.iload_n 3, 1, 3, 0), some (.ireturn, 1, 0, 0), some (.iinc 3 1, 3, 3, 1), none, none, some (.goto (-43), 3, 2, 0), none, none, some (.iload_n 2, 1, 2, 0), some (.ireturn, 1, 0, 0)]]
def hm_m59 : hc_M := (⟨"HeardNext$Tokens", "behindBlanks", "([BII)I"⟩, prog_8_method_3_code, 5, (some (.int)), 6, 3, hm_t59)
def hm_t60 : hc_K := [[some (.aload_n 0, 1, 0, 0), some (.getfield 15, 3, 6, 1), none, none, some (.aload_n 0, 1, 0, 0), some (.getfield 22, 3, 6, 3), none, none, some (.lconst 0, 1, 0, 0), some (.lastore, 1, 0, 0), some (.iload_n 2, 1, 2, 0), some (.iload_n 3, 1, 3, 0), some (.if_icmp .lt 16, 3, 28, 0), none, none, some (.aload_n 0, 1, 0, 0), some (.getfield 9, 3, 6, 0), none, none, some (.aload_n 0, 1, 0, 0), some (.getfield 22, 3, 6, 3), none, none, some (.bipush 22, 2, 22, 0), none, some (.iastore, 1, 0, 0), some (.iload_n 2, 1, 2, 0), some (.ireturn, 1, 0, 0), some (.aload_n 1, 1, 1, 0), some (.iload_n 2, 1, 2, 0), some (.baload, 1, 0, 0), some (.bipush 97, 2, 97, 0)], [none, some (.if_icmp .lt 19, 3, 52, 0), none, none, some (.aload_n 1, 1, 1, 0), some (.iload_n 2, 1, 2, 0), some (.baload, 1, 0, 0), some (.bipush 122, 2, 122, 0), none, some (.if_icmp .gt 11, 3, 52, 0), none, none, some (.aload_n 0, 1, 0, 0), some (.aload_n 1, 1, 1, 0), some (.iload_n 2, 1, 2, 0), some (.iload_n 3, 1, 3, 0), some (.invokevirtual 33, 3, 61, 0), none, none, some (.ireturn, 1, 0, 0), some (.aload_n 1, 1, 1, 0), some (.iload_n 2, 1, 2, 0), some (.baload, 1, 0, 0), some (.bipush 48, 2, 48, 0), none, some (.if_icmp .lt 19, 3, 76, 0), none, none, some (.aload_n 1, 1, 1, 0), some (.iload_n 2, 1, 2, 0), some (.baload, 1, 0, 0), some (.bipush 57, 2, 57, 0)], [none, some (.if_icmp .gt 11, 3, 76, 0), none, none, some (.aload_n 0, 1, 0, 0), some (.aload_n 1, 1, 1, 0), some (.iload_n 2, 1, 2, 0), some (.iload_n 3, 1, 3, 0), some (.invokevirtual 36, 3, 63, 0), none, none, some (.ireturn, 1, 0, 0), some (.aload_n 1, 1, 1, 0), some (.iload_n 2, 1, 2, 0), some (.baload, 1, 0, 0), some (.ifCond .ge 7, 3, 86, 0), none, none, some (.iconst (-1), 1, 4294967295, 0), some (.goto 12, 3, 95, 0), none, none, some (.ldc 39, 2, 0, 1), none, some (.aload_n 1, 1, 1, 0), some (.iload_n 2, 1, 2, 0), some (.baload, 1, 0, 0), some (.i2c, 1, 0, 0), some (.invokevirtual 41, 3, 2, 7), none, none, some (.istore 4, 2, 4, 0)], [none, some (.aload_n 0, 1, 0, 0), some (.getfield 9, 3, 6, 0), none, none, some (.aload_n 0, 1, 0, 0), some (.getfield 22, 3, 6, 3), none, none, some (.iload 4, 2, 4, 0), none, some (.iconst (-1), 1, 4294967295, 0), some (.if_icmp .ne 8, 3, 116, 0), none, none, some (.bipush 23, 2, 23, 0), none, some (.goto 8, 3, 121, 0), none, none, some (.bipush 24, 2, 24, 0), none, some (.iload 4, 2, 4, 0), none, some (.iadd, 1, 0, 0), some (.iastore, 1, 0, 0), some (.iload_n 2, 1, 2, 0), some (.iconst 1, 1, 1, 0), some (.iadd, 1, 0, 0), some (.ireturn, 1, 0, 0)]]
def hm_m60 : hc_M := (⟨"HeardNext$Tokens", "cutOne", "([BII)I"⟩, prog_8_method_4_code, 5, (some (.int)), 6, 3, hm_t60)
def hm_t61 : hc_K := [[some (.iload_n 2, 1, 2, 0), some (.istore 4, 2, 4, 0), none, some (.iload 4, 2, 4, 0), none, some (.iload_n 3, 1, 3, 0), some (.if_icmp .ge 58, 3, 64, 0), none, none, some (.aload_n 1, 1, 1, 0), some (.iload 4, 2, 4, 0), none, some (.baload, 1, 0, 0), some (.bipush 97, 2, 97, 0), none, some (.if_icmp .lt 49, 3, 64, 0), none, none, some (.aload_n 1, 1, 1, 0), some (.iload 4, 2, 4, 0), none, some (.baload, 1, 0, 0), some (.bipush 122, 2, 122, 0), none, some (.if_icmp .gt 40, 3, 64, 0), none, none, some (.aload_n 0, 1, 0, 0), some (.getfield 15, 3, 6, 1), none, none, some (.aload_n 0, 1, 0, 0)], [some (.getfield 22, 3, 6, 3), none, none, some (.aload_n 0, 1, 0, 0), some (.getfield 15, 3, 6, 1), none, none, some (.aload_n 0, 1, 0, 0), some (.getfield 22, 3, 6, 3), none, none, some (.laload, 1, 0, 0), some (.iconst 5, 1, 5, 0), some (.lshl, 1, 0, 0), some (.aload_n 1, 1, 1, 0), some (.iload 4, 2, 4, 0), none, some (.baload, 1, 0, 0), some (.bipush 97, 2, 97, 0), none, some (.isub, 1, 0, 0), some (.iconst 1, 1, 1, 0), some (.iadd, 1, 0, 0), some (.i2l, 1, 0, 0), some (.lor, 1, 0, 0), some (.lastore, 1, 0, 0), some (.iinc 4 1, 3, 4, 1), none, none, some (.goto (-58), 3, 3, 0)], [some (.iload 4, 2, 4, 0), none, some (.iload_n 2, 1, 2, 0), some (.isub, 1, 0, 0), some (.bipush 8, 2, 8, 0), none, some (.if_icmp .le 17, 3, 87, 0), none, none, some (.aload_n 0, 1, 0, 0), some (.getfield 9, 3, 6, 0), none, none, some (.aload_n 0, 1, 0, 0), some (.getfield 22, 3, 6, 3), none, none, some (.bipush 23, 2, 23, 0), none, some (.iastore, 1, 0, 0), some (.goto 34, 3, 118, 0), none, none, some (.aload_n 1, 1, 1, 0), some (.iload_n 2, 1, 2, 0), some (.iload 4, 2, 4, 0), none, some (.invokestatic 47, 3, 62, 2), none, none, some (.istore 5, 2, 5, 0)], [some (.aload_n 0, 1, 0, 0), some (.getfield 9, 3, 6, 0), none, none, some (.aload_n 0, 1, 0, 0), some (.getfield 22, 3, 6, 3), none, none, some (.iload 5, 2, 5, 0), none, some (.iconst (-1), 1, 4294967295, 0), some (.if_icmp .ne 8, 3, 115, 0), none, none, some (.bipush 20, 2, 20, 0), none, some (.goto 5, 3, 117, 0), none, none, some (.iload 5, 2, 5, 0), none, some (.iastore, 1, 0, 0), some (.iload 4, 2, 4, 0), none, some (.ireturn, 1, 0, 0)]]
def hm_m61 : hc_M := (⟨"HeardNext$Tokens", "cutWord", "([BII)I"⟩, prog_8_method_5_code, 6, (some (.int)), 6, 3, hm_t61)
def hm_t62 : hc_K := [[some (.iconst 0, 1, 0, 0), some (.istore_n 3, 1, 3, 0), some (.iload_n 1, 1, 1, 0), some (.istore 4, 2, 4, 0), none, some (.iconst 1, 1, 1, 0), some (.istore 5, 2, 5, 0), none, some (.iconst 0, 1, 0, 0), some (.istore 6, 2, 6, 0), none, some (.iload 6, 2, 6, 0), none, some (.ldc 50, 2, 1, 1), none, some (.invokevirtual 52, 3, 0, 7), none, none, some (.if_icmp .ge 80, 3, 98, 0), none, none, some (.ldc 50, 2, 1, 1), none, some (.iload 6, 2, 6, 0), none, some (.invokevirtual 56, 3, 1, 7), none, none, some (.istore 7, 2, 7, 0), none, some (.iload 7, 2, 7, 0)], [some (.bipush 32, 2, 32, 0), none, some (.if_icmp .eq 36, 3, 70, 0), none, none, some (.iload 5, 2, 5, 0), none, some (.ifCond .eq 22, 3, 61, 0), none, none, some (.iload 4, 2, 4, 0), none, some (.iload_n 2, 1, 2, 0), some (.if_icmp .ge 16, 3, 61, 0), none, none, some (.aload_n 0, 1, 0, 0), some (.iload 4, 2, 4, 0), none, some (.baload, 1, 0, 0), some (.iload 7, 2, 7, 0), none, some (.if_icmp .ne 7, 3, 61, 0), none, none, some (.iconst 1, 1, 1, 0), some (.goto 4, 3, 62, 0), none, none, some (.iconst 0, 1, 0, 0), some (.istore 5, 2, 5, 0)], [some (.iinc 4 1, 3, 4, 1), none, none, some (.goto 25, 3, 92, 0), none, none, some (.iload 5, 2, 5, 0), none, some (.ifCond .eq 11, 3, 83, 0), none, none, some (.iload 4, 2, 4, 0), none, some (.iload_n 2, 1, 2, 0), some (.if_icmp .ne 5, 3, 83, 0), none, none, some (.iload_n 3, 1, 3, 0), some (.ireturn, 1, 0, 0), some (.iinc 3 1, 3, 3, 1), none, none, some (.iload_n 1, 1, 1, 0), some (.istore 4, 2, 4, 0), none, some (.iconst 1, 1, 1, 0), some (.istore 5, 2, 5, 0), none, some (.iinc 6 1, 3, 6, 1), none, none, some (.goto (-84), 3, 11, 0)], [none, none, some (.iconst (-1), 1, 4294967295, 0), some (.ireturn, 1, 0, 0)]]
def hm_m62 : hc_M := (⟨"HeardNext$Tokens", "wordAt", "([BII)I"⟩, prog_8_method_6_code, 8, (some (.int)), 6, 3, hm_t62)
def hm_t63 : hc_K := [[some (.iload_n 2, 1, 2, 0), some (.istore 4, 2, 4, 0), none, some (.iload 4, 2, 4, 0), none, some (.iload_n 3, 1, 3, 0), some (.if_icmp .ge 59, 3, 65, 0), none, none, some (.aload_n 1, 1, 1, 0), some (.iload 4, 2, 4, 0), none, some (.baload, 1, 0, 0), some (.bipush 48, 2, 48, 0), none, some (.if_icmp .lt 50, 3, 65, 0), none, none, some (.aload_n 1, 1, 1, 0), some (.iload 4, 2, 4, 0), none, some (.baload, 1, 0, 0), some (.bipush 57, 2, 57, 0), none, some (.if_icmp .gt 41, 3, 65, 0), none, none, some (.aload_n 0, 1, 0, 0), some (.getfield 15, 3, 6, 1), none, none, some (.aload_n 0, 1, 0, 0)], [some (.getfield 22, 3, 6, 3), none, none, some (.aload_n 0, 1, 0, 0), some (.getfield 15, 3, 6, 1), none, none, some (.aload_n 0, 1, 0, 0), some (.getfield 22, 3, 6, 3), none, none, some (.laload, 1, 0, 0), some (.ldc2_w 60, 3, 10, 0), none, none, some (.lmul, 1, 0, 0), some (.aload_n 1, 1, 1, 0), some (.iload 4, 2, 4, 0), none, some (.baload, 1, 0, 0), some (.i2l, 1, 0, 0), some (.ladd, 1, 0, 0), some (.ldc2_w 62, 3, 48, 0), none, none, some (.lsub, 1, 0, 0), some (.lastore, 1, 0, 0), some (.iinc 4 1, 3, 4, 1), none, none, some (.goto (-59), 3, 3, 0)], [none, some (.aload_n 0, 1, 0, 0), some (.getfield 9, 3, 6, 0), none, none, some (.aload_n 0, 1, 0, 0), some (.getfield 22, 3, 6, 3), none, none, some (.iload 4, 2, 4, 0), none, some (.iload_n 2, 1, 2, 0), some (.isub, 1, 0, 0), some (.iconst 4, 1, 4, 0), some (.if_icmp .le 8, 3, 86, 0), none, none, some (.bipush 23, 2, 23, 0), none, some (.goto 5, 3, 88, 0), none, none, some (.bipush 21, 2, 21, 0), none, some (.iastore, 1, 0, 0), some (.iload 4, 2, 4, 0), none, some (.ireturn, 1, 0, 0)]]
def hm_m63 : hc_M := (⟨"HeardNext$Tokens", "cutInt", "([BII)I"⟩, prog_8_method_7_code, 5, (some (.int)), 6, 3, hm_t63)
def hm_t64 : hc_K := [[some (.aload_n 0, 1, 0, 0), some (.invokespecial 3, 3, 0, 9), none, none, some (.aload_n 0, 1, 0, 0), some (.bipush 20, 2, 20, 0), none, some (.newarray .int, 2, 1, 0), none, some (.putfield 9, 3, 7, 0), none, none, some (.aload_n 0, 1, 0, 0), some (.bipush 20, 2, 20, 0), none, some (.newarray .int, 2, 1, 0), none, some (.putfield 15, 3, 7, 1), none, none, some (.return_, 1, 0, 0)]]
def hm_m64 : hc_M := (⟨"HeardNext$Told", "<init>", "()V"⟩, prog_9_method_1_code, 1, none, 7, 0, hm_t64)
def hm_t65 : hc_K := [[some (.aload_n 0, 1, 0, 0), some (.getfield 18, 3, 7, 2), none, none, some (.bipush 20, 2, 20, 0), none, some (.if_icmp .lt 5, 3, 11, 0), none, none, some (.iconst (-1), 1, 4294967295, 0), some (.ireturn, 1, 0, 0), some (.aload_n 0, 1, 0, 0), some (.getfield 9, 3, 7, 0), none, none, some (.aload_n 0, 1, 0, 0), some (.getfield 18, 3, 7, 2), none, none, some (.iload_n 1, 1, 1, 0), some (.iastore, 1, 0, 0), some (.aload_n 0, 1, 0, 0), some (.getfield 15, 3, 7, 1), none, none, some (.aload_n 0, 1, 0, 0), some (.getfield 18, 3, 7, 2), none, none, some (.iload_n 2, 1, 2, 0), some (.iastore, 1, 0, 0), some (.aload_n 0, 1, 0, 0)], [some (.dup, 1, 0, 0), some (.getfield 18, 3, 7, 2), none, none, some (.iconst 1, 1, 1, 0), some (.iadd, 1, 0, 0), some (.putfield 18, 3, 7, 2), none, none, some (.aload_n 0, 1, 0, 0), some (.getfield 18, 3, 7, 2), none, none, some (.iconst 1, 1, 1, 0), some (.isub, 1, 0, 0), some (.ireturn, 1, 0, 0)]]
def hm_m65 : hc_M := (⟨"HeardNext$Told", "add", "(II)I"⟩, prog_9_method_2_code, 3, (some (.int)), 7, 2, hm_t65)
def hm_t66 : hc_K := [[some (.aload_n 0, 1, 0, 0), some (.invokespecial 3, 3, 0, 9), none, none, some (.aload_n 0, 1, 0, 0), some (.bipush 10, 2, 10, 0), none, some (.sipush 256, 3, 256, 0), none, none, some (.multianewarray 9 2, 4, 0, 0), none, none, none, some (.putfield 11, 3, 8, 0), none, none, some (.return_, 1, 0, 0)]]
def hm_m66 : hc_M := (⟨"HeardNext$Ways", "<init>", "()V"⟩, prog_10_method_1_code, 1, none, 8, 0, hm_t66)
def hm_t67 : hc_K := [[some (.aload_n 0, 1, 0, 0), some (.getfield 16, 3, 8, 1), none, none, some (.istore 5, 2, 5, 0), none, some (.iload 5, 2, 5, 0), none, some (.iload_n 1, 1, 1, 0), some (.if_icmp .gt 19, 3, 28, 0), none, none, some (.aload_n 0, 1, 0, 0), some (.iload 5, 2, 5, 0), none, some (.aload_n 2, 1, 2, 0), some (.aload_n 3, 1, 3, 0), some (.aload 4, 2, 4, 0), none, some (.invokevirtual 20, 3, 68, 0), none, none, some (.iinc 5 1, 3, 5, 1), none, none, some (.goto (-19), 3, 6, 0), none, none, some (.aload_n 0, 1, 0, 0), some (.aload_n 0, 1, 0, 0), some (.getfield 16, 3, 8, 1)], [none, some (.iload_n 1, 1, 1, 0), some (.iconst 1, 1, 1, 0), some (.iadd, 1, 0, 0), some (.invokestatic 24, 3, 244, 2), none, none, some (.putfield 16, 3, 8, 1), none, none, some (.aload_n 0, 1, 0, 0), some (.getfield 11, 3, 8, 0), none, none, some (.iload_n 1, 1, 1, 0), some (.aaload, 1, 0, 0), some (.areturn, 1, 0, 0)]]
def hm_m67 : hc_M := (⟨"HeardNext$Ways", "rowOf", "(ILHeardNext$Terrace;LHeardNext$Life;LHeardNext$Air;)[I"⟩, prog_10_method_2_code, 6, (some ((.array .int))), 8, 4, hm_t67)
def hm_t68 : hc_K := [[some (.aload_n 0, 1, 0, 0), some (.getfield 11, 3, 8, 0), none, none, some (.iload_n 1, 1, 1, 0), some (.aaload, 1, 0, 0), some (.astore 5, 2, 5, 0), none, some (.aload_n 3, 1, 3, 0), some (.iload_n 1, 1, 1, 0), some (.invokevirtual 30, 3, 20, 0), none, none, some (.bipush (-2), 2, 4294967294, 0), none, some (.if_icmp .eq 10, 3, 25, 0), none, none, some (.aload 5, 2, 5, 0), none, some (.iconst 0, 1, 0, 0), some (.invokestatic 36, 3, 246, 2), none, none, some (.return_, 1, 0, 0), some (.iload_n 1, 1, 1, 0), some (.ifCond .le 17, 3, 43, 0), none, none, some (.aload 4, 2, 4, 0), none, some (.aload_n 2, 1, 2, 0)], [some (.aload_n 3, 1, 3, 0), some (.iload_n 1, 1, 1, 0), some (.aload_n 3, 1, 3, 0), some (.getfield 41, 3, 2, 7), none, none, some (.iload_n 1, 1, 1, 0), some (.iadd, 1, 0, 0), some (.invokevirtual 44, 3, 1, 0), none, none, some (.iconst 0, 1, 0, 0), some (.istore 6, 2, 6, 0), none, some (.iload 6, 2, 6, 0), none, some (.sipush 256, 3, 256, 0), none, none, some (.if_icmp .ge 39, 3, 90, 0), none, none, some (.aload 5, 2, 5, 0), none, some (.iload 6, 2, 6, 0), none, some (.iload_n 1, 1, 1, 0), some (.ifCond .ne 8, 3, 67, 0), none, none, some (.iload 6, 2, 6, 0)], [some (.goto 19, 3, 83, 0), none, none, some (.aload 4, 2, 4, 0), none, some (.aload_n 0, 1, 0, 0), some (.getfield 11, 3, 8, 0), none, none, some (.iload_n 1, 1, 1, 0), some (.iconst 1, 1, 1, 0), some (.isub, 1, 0, 0), some (.aaload, 1, 0, 0), some (.iload 6, 2, 6, 0), none, some (.iaload, 1, 0, 0), some (.invokevirtual 50, 3, 5, 0), none, none, some (.iastore, 1, 0, 0), some (.iinc 6 1, 3, 6, 1), none, none, some (.goto (-41), 3, 46, 0), none, none, some (.return_, 1, 0, 0)]]
def hm_m68 : hc_M := (⟨"HeardNext$Ways", "fill", "(ILHeardNext$Terrace;LHeardNext$Life;LHeardNext$Air;)V"⟩, prog_10_method_3_code, 7, none, 8, 4, hm_t68)
def hm_t69 : hc_K := [[some (.aload_n 0, 1, 0, 0), some (.invokespecial 3, 3, 0, 9), none, none, some (.aload_n 0, 1, 0, 0), some (.sipush 2000, 3, 2000, 0), none, none, some (.newarray .byte, 2, 0, 0), none, some (.putfield 9, 3, 9, 0), none, none, some (.aload_n 0, 1, 0, 0), some (.iconst (-1), 1, 4294967295, 0), some (.putfield 13, 3, 9, 2), none, none, some (.aload_n 0, 1, 0, 0), some (.new 17, 3, 5, 0), none, none, some (.dup, 1, 0, 0), some (.invokespecial 19, 3, 53, 0), none, none, some (.putfield 20, 3, 9, 3), none, none, some (.aload_n 0, 1, 0, 0), some (.new 17, 3, 5, 0)], [none, some (.dup, 1, 0, 0), some (.invokespecial 19, 3, 53, 0), none, none, some (.putfield 24, 3, 9, 4), none, none, some (.aload_n 0, 1, 0, 0), some (.new 27, 3, 4, 0), none, none, some (.dup, 1, 0, 0), some (.aload_n 0, 1, 0, 0), some (.getfield 24, 3, 9, 4), none, none, some (.invokespecial 29, 3, 36, 0), none, none, some (.putfield 32, 3, 9, 5), none, none, some (.aload_n 0, 1, 0, 0), some (.new 36, 3, 2, 0), none, none, some (.dup, 1, 0, 0), some (.invokespecial 38, 3, 15, 0), none, none, some (.putfield 39, 3, 9, 6)], [none, none, some (.aload_n 0, 1, 0, 0), some (.new 36, 3, 2, 0), none, none, some (.dup, 1, 0, 0), some (.invokespecial 38, 3, 15, 0), none, none, some (.putfield 43, 3, 9, 7), none, none, some (.aload_n 0, 1, 0, 0), some (.new 46, 3, 3, 0), none, none, some (.dup, 1, 0, 0), some (.invokespecial 48, 3, 33, 0), none, none, some (.putfield 49, 3, 9, 8), none, none, some (.aload_n 0, 1, 0, 0), some (.iconst 3, 1, 3, 0), some (.anewarray 36, 3, 4, 0), none, none, some (.putfield 53, 3, 9, 9)], [some (.aload_n 0, 1, 0, 0), some (.new 57, 3, 0, 0), none, none, some (.dup, 1, 0, 0), some (.aload_n 0, 1, 0, 0), some (.getfield 20, 3, 9, 3), none, none, some (.getfield 59, 3, 5, 3), none, none, some (.invokespecial 63, 3, 0, 0), none, none, some (.putfield 66, 3, 9, 11), none, none, some (.aload_n 0, 1, 0, 0), some (.new 70, 3, 8, 0), none, none, some (.dup, 1, 0, 0), some (.invokespecial 72, 3, 66, 0), none, none, some (.putfield 73, 3, 9, 12), none, none, some (.aload_n 0, 1, 0, 0), some (.new 77, 3, 7, 0)], [none, some (.dup, 1, 0, 0), some (.invokespecial 79, 3, 64, 0), none, none, some (.putfield 80, 3, 9, 13), none, none, some (.aload_n 0, 1, 0, 0), some (.sipush 256, 3, 256, 0), none, none, some (.newarray .int, 2, 1, 0), none, some (.putfield 84, 3, 9, 14), none, none, some (.aload_n 0, 1, 0, 0), some (.sipush 256, 3, 256, 0), none, none, some (.newarray .int, 2, 1, 0), none, some (.putfield 88, 3, 9, 15), none, none, some (.aload_n 0, 1, 0, 0), some (.iconst 3, 1, 3, 0), some (.newarray .int, 2, 1, 0), none, some (.putfield 91, 3, 9, 16)], [none, some (.iconst 0, 1, 0, 0), some (.istore_n 1, 1, 1, 0), some (.iload_n 1, 1, 1, 0), some (.iconst 3, 1, 3, 0), some (.if_icmp .ge 22, 3, 187, 0), none, none, some (.aload_n 0, 1, 0, 0), some (.getfield 53, 3, 9, 9), none, none, some (.iload_n 1, 1, 1, 0), some (.new 36, 3, 2, 0), none, none, some (.dup, 1, 0, 0), some (.invokespecial 38, 3, 15, 0), none, none, some (.aastore, 1, 0, 0), some (.iinc 1 1, 3, 1, 1), none, none, some (.goto (-21), 3, 163, 0), none, none, some (.aload_n 0, 1, 0, 0), some (.getfield 20, 3, 9, 3), none, none, some (.invokevirtual 94, 3, 54, 0)], [none, none, some (.aload_n 0, 1, 0, 0), some (.getfield 39, 3, 9, 6), none, none, some (.aload_n 0, 1, 0, 0), some (.getfield 20, 3, 9, 3), none, none, some (.invokevirtual 97, 3, 16, 0), none, none, some (.return_, 1, 0, 0)]]
def hm_m69 : hc_M := (⟨"HeardNext", "<init>", "()V"⟩, prog_1_method_1_code, 2, none, 9, 0, hm_t69)
def hm_t70 : hc_K := [[some (.aload_n 0, 1, 0, 0), some (.getfield 100, 3, 9, 1), none, none, some (.sipush 1980, 3, 1980, 0), none, none, some (.if_icmp .le 5, 3, 12, 0), none, none, some (.iconst (-1), 1, 4294967295, 0), some (.ireturn, 1, 0, 0), some (.aload_n 0, 1, 0, 0), some (.iload_n 1, 1, 1, 0), some (.invokevirtual 103, 3, 71, 0), none, none, some (.aload_n 0, 1, 0, 0), some (.iload_n 2, 1, 2, 0), some (.invokevirtual 103, 3, 71, 0), none, none, some (.aload_n 0, 1, 0, 0), some (.iload_n 3, 1, 3, 0), some (.invokevirtual 103, 3, 71, 0), none, none, some (.aload_n 0, 1, 0, 0), some (.iload 4, 2, 4, 0), none, some (.invokevirtual 103, 3, 71, 0)], [none, some (.aload_n 0, 1, 0, 0), some (.iload 5, 2, 5, 0), none, some (.invokevirtual 103, 3, 71, 0), none, none, some (.aload_n 0, 1, 0, 0), some (.getfield 100, 3, 9, 1), none, none, some (.ireturn, 1, 0, 0)]]
def hm_m70 : hc_M := (⟨"HeardNext", "feed", "(IIIII)I"⟩, prog_1_method_2_code, 6, (some (.int)), 9, 5, hm_t70)
def hm_t71 : hc_K := [[some (.bipush 24, 2, 24, 0), none, some (.istore_n 2, 1, 2, 0), some (.iload_n 2, 1, 2, 0), some (.ifCond .lt 42, 3, 46, 0), none, none, some (.aload_n 0, 1, 0, 0), some (.getfield 100, 3, 9, 1), none, none, some (.sipush 2000, 3, 2000, 0), none, none, some (.if_icmp .ge 26, 3, 40, 0), none, none, some (.aload_n 0, 1, 0, 0), some (.getfield 9, 3, 9, 0), none, none, some (.aload_n 0, 1, 0, 0), some (.getfield 100, 3, 9, 1), none, none, some (.iload_n 1, 1, 1, 0), some (.iload_n 2, 1, 2, 0), some (.iushr, 1, 0, 0), some (.i2b, 1, 0, 0), some (.bastore, 1, 0, 0), some (.aload_n 0, 1, 0, 0), some (.dup, 1, 0, 0)], [some (.getfield 100, 3, 9, 1), none, none, some (.iconst 1, 1, 1, 0), some (.iadd, 1, 0, 0), some (.putfield 100, 3, 9, 1), none, none, some (.iinc 2 (-8), 3, 2, 4294967288), none, none, some (.goto (-40), 3, 3, 0), none, none, some (.return_, 1, 0, 0)]]
def hm_m71 : hc_M := (⟨"HeardNext", "addBytes", "(I)V"⟩, prog_1_method_3_code, 3, none, 9, 1, hm_t71)
def hm_t72 : hc_K := [[some (.iload_n 1, 1, 1, 0), some (.ifCond .lt 11, 3, 12, 0), none, none, some (.iload_n 1, 1, 1, 0), some (.aload_n 0, 1, 0, 0), some (.getfield 100, 3, 9, 1), none, none, some (.if_icmp .le 5, 3, 14, 0), none, none, some (.iconst (-1), 1, 4294967295, 0), some (.ireturn, 1, 0, 0), some (.aload_n 0, 1, 0, 0), some (.dup, 1, 0, 0), some (.getfield 100, 3, 9, 1), none, none, some (.iload_n 1, 1, 1, 0), some (.isub, 1, 0, 0), some (.putfield 100, 3, 9, 1), none, none, some (.aload_n 0, 1, 0, 0), some (.getfield 100, 3, 9, 1), none, none, some (.ireturn, 1, 0, 0)]]
def hm_m72 : hc_M := (⟨"HeardNext", "back", "(I)I"⟩, prog_1_method_4_code, 2, (some (.int)), 9, 1, hm_t72)
def hm_t73 : hc_K := [[some (.aload_n 0, 1, 0, 0), some (.getfield 32, 3, 9, 5), none, none, some (.aload_n 0, 1, 0, 0), some (.getfield 24, 3, 9, 4), none, none, some (.aload_n 0, 1, 0, 0), some (.getfield 9, 3, 9, 0), none, none, some (.aload_n 0, 1, 0, 0), some (.getfield 100, 3, 9, 1), none, none, some (.invokevirtual 107, 3, 37, 0), none, none, some (.istore_n 1, 1, 1, 0), some (.aload_n 0, 1, 0, 0), some (.iconst 0, 1, 0, 0), some (.putfield 100, 3, 9, 1), none, none, some (.aload_n 0, 1, 0, 0), some (.aload_n 0, 1, 0, 0), some (.getfield 32, 3, 9, 5), none, none, some (.getfield 111, 3, 4, 6)], [none, some (.putfield 13, 3, 9, 2), none, none, some (.iload_n 1, 1, 1, 0), some (.ifCond .ne 7, 3, 44, 0), none, none, some (.aload_n 0, 1, 0, 0), some (.invokevirtual 112, 3, 74, 0), none, none, some (.iload_n 1, 1, 1, 0), some (.ireturn, 1, 0, 0)]]
def hm_m73 : hc_M := (⟨"HeardNext", "read", "()I"⟩, prog_1_method_5_code, 2, (some (.int)), 9, 0, hm_t73)
def hm_t74 : hc_K := [[some (.aload_n 0, 1, 0, 0), some (.getfield 20, 3, 9, 3), none, none, some (.astore_n 1, 1, 1, 0), some (.aload_n 0, 1, 0, 0), some (.aload_n 0, 1, 0, 0), some (.getfield 24, 3, 9, 4), none, none, some (.putfield 20, 3, 9, 3), none, none, some (.aload_n 0, 1, 0, 0), some (.aload_n 1, 1, 1, 0), some (.putfield 24, 3, 9, 4), none, none, some (.aload_n 0, 1, 0, 0), some (.getfield 39, 3, 9, 6), none, none, some (.aload_n 0, 1, 0, 0), some (.getfield 20, 3, 9, 3), none, none, some (.invokevirtual 97, 3, 16, 0), none, none, some (.aload_n 0, 1, 0, 0), some (.getfield 49, 3, 9, 8)], [none, some (.iconst 0, 1, 0, 0), some (.putfield 115, 3, 3, 2), none, none, some (.aload_n 0, 1, 0, 0), some (.getfield 80, 3, 9, 13), none, none, some (.iconst 0, 1, 0, 0), some (.putfield 118, 3, 7, 2), none, none, some (.aload_n 0, 1, 0, 0), some (.iconst 0, 1, 0, 0), some (.putfield 119, 3, 9, 10), none, none, some (.aload_n 0, 1, 0, 0), some (.getfield 73, 3, 9, 12), none, none, some (.iconst 0, 1, 0, 0), some (.putfield 122, 3, 8, 1), none, none, some (.return_, 1, 0, 0)]]
def hm_m74 : hc_M := (⟨"HeardNext", "beginAnew", "()V"⟩, prog_1_method_6_code, 2, none, 9, 0, hm_t74)
def hm_t75 : hc_K := [[some (.aload_n 0, 1, 0, 0), some (.getfield 13, 3, 9, 2), none, none, some (.ireturn, 1, 0, 0)]]
def hm_m75 : hc_M := (⟨"HeardNext", "place", "()I"⟩, prog_1_method_7_code, 1, (some (.int)), 9, 0, hm_t75)
def hm_t76 : hc_K := [[some (.iload_n 1, 1, 1, 0), some (.ifCond .lt 24, 3, 25, 0), none, none, some (.iload_n 1, 1, 1, 0), some (.aload_n 0, 1, 0, 0), some (.getfield 20, 3, 9, 3), none, none, some (.getfield 125, 3, 5, 4), none, none, some (.if_icmp .ge 13, 3, 25, 0), none, none, some (.iload_n 1, 1, 1, 0), some (.bipush 10, 2, 10, 0), none, some (.if_icmp .ge 7, 3, 25, 0), none, none, some (.iconst 1, 1, 1, 0), some (.goto 4, 3, 26, 0), none, none, some (.iconst 0, 1, 0, 0), some (.ireturn, 1, 0, 0)]]
def hm_m76 : hc_M := (⟨"HeardNext", "isHouse", "(I)Z"⟩, prog_1_method_8_code, 2, (some (.boolean)), 9, 1, hm_t76)
def hm_t77 : hc_K := [[some (.iload_n 0, 1, 0, 0), some (.ifCond .lt 14, 3, 15, 0), none, none, some (.iload_n 0, 1, 0, 0), some (.sipush 256, 3, 256, 0), none, none, some (.if_icmp .ge 7, 3, 15, 0), none, none, some (.iconst 1, 1, 1, 0), some (.goto 4, 3, 16, 0), none, none, some (.iconst 0, 1, 0, 0), some (.ireturn, 1, 0, 0)]]
def hm_m77 : hc_M := (⟨"HeardNext", "isProgramme", "(I)Z"⟩, prog_1_method_9_code, 1, (some (.boolean)), 9, 1, hm_t77)
def hm_t78 : hc_K := [[some (.iload_n 0, 1, 0, 0), some (.iload_n 1, 1, 1, 0), some (.if_icmp .lt 12, 3, 14, 0), none, none, some (.iload_n 0, 1, 0, 0), some (.iload_n 2, 1, 2, 0), some (.if_icmp .gt 7, 3, 14, 0), none, none, some (.iconst 1, 1, 1, 0), some (.goto 4, 3, 15, 0), none, none, some (.iconst 0, 1, 0, 0), some (.ireturn, 1, 0, 0)]]
def hm_m78 : hc_M := (⟨"HeardNext", "isWithin", "(III)Z"⟩, prog_1_method_10_code, 3, (some (.boolean)), 9, 3, hm_t78)
def hm_t79 : hc_K := [[some (.aload_n 0, 1, 0, 0), some (.iload_n 1, 1, 1, 0), some (.invokevirtual 128, 3, 76, 0), none, none, some (.ifCond .ne 5, 3, 10, 0), none, none, some (.iconst (-1), 1, 4294967295, 0), some (.ireturn, 1, 0, 0), some (.iload_n 2, 1, 2, 0), some (.tableswitch 118 0 6 #[41, 51, 61, 71, 81, 98, 108], 41, 0, 0)], [none, none, none, none, none, none, none, none, none, none, none, none, none, none, none, none, none, none, none, none, some (.aload_n 0, 1, 0, 0), some (.getfield 39, 3, 9, 6), none, none, some (.getfield 132, 3, 2, 0), none, none, some (.iload_n 1, 1, 1, 0), some (.iaload, 1, 0, 0), some (.ireturn, 1, 0, 0), some (.aload_n 0, 1, 0, 0), some (.getfield 39, 3, 9, 6)], [none, none, some (.getfield 135, 3, 2, 1), none, none, some (.iload_n 1, 1, 1, 0), some (.iaload, 1, 0, 0), some (.ireturn, 1, 0, 0), some (.aload_n 0, 1, 0, 0), some (.getfield 39, 3, 9, 6), none, none, some (.getfield 138, 3, 2, 4), none, none, some (.iload_n 1, 1, 1, 0), some (.iaload, 1, 0, 0), some (.ireturn, 1, 0, 0), some (.aload_n 0, 1, 0, 0), some (.getfield 39, 3, 9, 6), none, none, some (.getfield 141, 3, 2, 2), none, none, some (.iload_n 1, 1, 1, 0), some (.iaload, 1, 0, 0), some (.ireturn, 1, 0, 0), some (.aload_n 0, 1, 0, 0), some (.getfield 39, 3, 9, 6)], [some (.iload_n 1, 1, 1, 0), some (.invokevirtual 144, 3, 18, 0), none, none, some (.ifCond .eq 7, 3, 107, 0), none, none, some (.iconst 1, 1, 1, 0), some (.goto 4, 3, 108, 0), none, none, some (.iconst 0, 1, 0, 0), some (.ireturn, 1, 0, 0), some (.aload_n 0, 1, 0, 0), some (.getfield 39, 3, 9, 6), none, none, some (.getfield 147, 3, 2, 5), none, none, some (.iload_n 1, 1, 1, 0), some (.iaload, 1, 0, 0), some (.ireturn, 1, 0, 0), some (.aload_n 0, 1, 0, 0), some (.getfield 39, 3, 9, 6), none, none, some (.getfield 150, 3, 2, 3), none, none, some (.iload_n 1, 1, 1, 0), some (.iaload, 1, 0, 0)], [some (.ireturn, 1, 0, 0), some (.aload_n 0, 1, 0, 0), some (.iload_n 1, 1, 1, 0), some (.iload_n 2, 1, 2, 0), some (.invokevirtual 153, 3, 80, 0), none, none, some (.ireturn, 1, 0, 0)]]
def hm_m79 : hc_M := (⟨"HeardNext", "house", "(II)I"⟩, prog_1_method_11_code, 3, (some (.int)), 9, 2, hm_t79)
def hm_t80 : hc_K := [[some (.aload_n 0, 1, 0, 0), some (.getfield 66, 3, 9, 11), none, none, some (.aload_n 0, 1, 0, 0), some (.getfield 20, 3, 9, 3), none, none, some (.aload_n 0, 1, 0, 0), some (.getfield 39, 3, 9, 6), none, none, some (.iload_n 1, 1, 1, 0), some (.aload_n 0, 1, 0, 0), some (.getfield 39, 3, 9, 6), none, none, some (.getfield 157, 3, 2, 7), none, none, some (.invokevirtual 160, 3, 1, 0), none, none, some (.iload_n 2, 1, 2, 0), some (.tableswitch 74 7 9 #[28, 58, 66], 28, 0, 0)], [none, none, none, none, none, none, none, none, none, none, none, none, none, none, none, none, none, none, none, none, some (.aload_n 0, 1, 0, 0), some (.getfield 66, 3, 9, 11), none, none, some (.iload_n 1, 1, 1, 0), some (.ifCond .ne 7, 3, 64, 0), none, none, some (.iconst 0, 1, 0, 0), some (.goto 17, 3, 78, 0)], [some (.aload_n 0, 1, 0, 0), some (.getfield 39, 3, 9, 6), none, none, some (.getfield 138, 3, 2, 4), none, none, some (.iload_n 1, 1, 1, 0), some (.iconst 1, 1, 1, 0), some (.isub, 1, 0, 0), some (.iaload, 1, 0, 0), some (.invokestatic 164, 3, 242, 2), none, none, some (.invokevirtual 170, 3, 2, 0), none, none, some (.ireturn, 1, 0, 0), some (.aload_n 0, 1, 0, 0), some (.getfield 66, 3, 9, 11), none, none, some (.invokevirtual 173, 3, 3, 0), none, none, some (.ireturn, 1, 0, 0), some (.aload_n 0, 1, 0, 0), some (.getfield 66, 3, 9, 11), none, none, some (.invokevirtual 177, 3, 4, 0)], [none, some (.ireturn, 1, 0, 0), some (.iconst (-1), 1, 4294967295, 0), some (.ireturn, 1, 0, 0)]]
def hm_m80 : hc_M := (⟨"HeardNext", "lawNow", "(II)I"⟩, prog_1_method_12_code, 3, (some (.int)), 9, 2, hm_t80)
def hm_t81 : hc_K := [[some (.aload_n 0, 1, 0, 0), some (.iload_n 1, 1, 1, 0), some (.invokevirtual 128, 3, 76, 0), none, none, some (.ifCond .eq 10, 3, 15, 0), none, none, some (.iload_n 2, 1, 2, 0), some (.invokestatic 180, 3, 77, 2), none, none, some (.ifCond .ne 5, 3, 17, 0), none, none, some (.iconst (-1), 1, 4294967295, 0), some (.ireturn, 1, 0, 0), some (.aload_n 0, 1, 0, 0), some (.getfield 66, 3, 9, 11), none, none, some (.aload_n 0, 1, 0, 0), some (.getfield 20, 3, 9, 3), none, none, some (.aload_n 0, 1, 0, 0), some (.getfield 39, 3, 9, 6), none, none, some (.iload_n 1, 1, 1, 0), some (.aload_n 0, 1, 0, 0), some (.getfield 39, 3, 9, 6)], [none, none, some (.getfield 157, 3, 2, 7), none, none, some (.invokevirtual 160, 3, 1, 0), none, none, some (.aload_n 0, 1, 0, 0), some (.getfield 66, 3, 9, 11), none, none, some (.iload_n 2, 1, 2, 0), some (.invokevirtual 183, 3, 5, 0), none, none, some (.ireturn, 1, 0, 0)]]
def hm_m81 : hc_M := (⟨"HeardNext", "passed", "(II)I"⟩, prog_1_method_13_code, 3, (some (.int)), 9, 2, hm_t81)
def hm_t82 : hc_K := [[some (.aload_n 0, 1, 0, 0), some (.getfield 49, 3, 9, 8), none, none, some (.aload_n 0, 1, 0, 0), some (.getfield 39, 3, 9, 6), none, none, some (.invokevirtual 186, 3, 34, 0), none, none, some (.aload_n 0, 1, 0, 0), some (.getfield 73, 3, 9, 12), none, none, some (.iconst 0, 1, 0, 0), some (.putfield 122, 3, 8, 1), none, none, some (.return_, 1, 0, 0)]]
def hm_m82 : hc_M := (⟨"HeardNext", "beforeDoing", "()V"⟩, prog_1_method_14_code, 1, none, 9, 0, hm_t82)
def hm_t83 : hc_K := [[some (.aload_n 0, 1, 0, 0), some (.iload_n 1, 1, 1, 0), some (.invokevirtual 128, 3, 76, 0), none, none, some (.ifCond .eq 15, 3, 20, 0), none, none, some (.aload_n 0, 1, 0, 0), some (.getfield 39, 3, 9, 6), none, none, some (.iload_n 1, 1, 1, 0), some (.invokevirtual 144, 3, 18, 0), none, none, some (.iload_n 2, 1, 2, 0), some (.if_icmp .ne 5, 3, 22, 0), none, none, some (.iconst 0, 1, 0, 0), some (.ireturn, 1, 0, 0), some (.aload_n 0, 1, 0, 0), some (.invokevirtual 190, 3, 82, 0), none, none, some (.aload_n 0, 1, 0, 0), some (.getfield 39, 3, 9, 6), none, none, some (.dup, 1, 0, 0), some (.getfield 193, 3, 2, 9)], [none, none, some (.iconst 1, 1, 1, 0), some (.iload_n 1, 1, 1, 0), some (.ishl, 1, 0, 0), some (.ixor, 1, 0, 0), some (.putfield 193, 3, 2, 9), none, none, some (.iconst 1, 1, 1, 0), some (.ireturn, 1, 0, 0)]]
def hm_m83 : hc_M := (⟨"HeardNext", "turn", "(IZ)Z"⟩, prog_1_method_15_code, 3, (some (.boolean)), 9, 2, hm_t83)
def hm_t84 : hc_K := [[some (.iload_n 1, 1, 1, 0), some (.invokestatic 180, 3, 77, 2), none, none, some (.ifCond .eq 13, 3, 17, 0), none, none, some (.aload_n 0, 1, 0, 0), some (.getfield 20, 3, 9, 3), none, none, some (.getfield 125, 3, 5, 4), none, none, some (.ifCond .ne 5, 3, 19, 0), none, none, some (.iconst 0, 1, 0, 0), some (.ireturn, 1, 0, 0), some (.aload_n 0, 1, 0, 0), some (.invokevirtual 190, 3, 82, 0), none, none, some (.aload_n 0, 1, 0, 0), some (.getfield 39, 3, 9, 6), none, none, some (.iload_n 1, 1, 1, 0), some (.putfield 196, 3, 2, 8), none, none, some (.iconst 1, 1, 1, 0)], [some (.ireturn, 1, 0, 0)]]
def hm_m84 : hc_M := (⟨"HeardNext", "send", "(I)Z"⟩, prog_1_method_16_code, 2, (some (.boolean)), 9, 1, hm_t84)
def hm_t85 : hc_K := [[some (.aload_n 0, 1, 0, 0), some (.iload_n 1, 1, 1, 0), some (.invokevirtual 128, 3, 76, 0), none, none, some (.ifCond .eq 16, 3, 21, 0), none, none, some (.aload_n 0, 1, 0, 0), some (.iload_n 2, 1, 2, 0), some (.invokevirtual 128, 3, 76, 0), none, none, some (.ifCond .eq 8, 3, 21, 0), none, none, some (.iload_n 1, 1, 1, 0), some (.iload_n 2, 1, 2, 0), some (.if_icmp .ne 5, 3, 23, 0), none, none, some (.iconst (-1), 1, 4294967295, 0), some (.ireturn, 1, 0, 0), some (.aload_n 0, 1, 0, 0), some (.invokevirtual 190, 3, 82, 0), none, none, some (.aload_n 0, 1, 0, 0), some (.getfield 39, 3, 9, 6), none, none, some (.iload_n 2, 1, 2, 0)], [some (.aload_n 0, 1, 0, 0), some (.getfield 39, 3, 9, 6), none, none, some (.getfield 138, 3, 2, 4), none, none, some (.iload_n 1, 1, 1, 0), some (.iaload, 1, 0, 0), some (.invokevirtual 199, 3, 23, 0), none, none, some (.aload_n 0, 1, 0, 0), some (.getfield 39, 3, 9, 6), none, none, some (.getfield 138, 3, 2, 4), none, none, some (.iload_n 2, 1, 2, 0), some (.iaload, 1, 0, 0), some (.ireturn, 1, 0, 0)]]
def hm_m85 : hc_M := (⟨"HeardNext", "carry", "(II)I"⟩, prog_1_method_17_code, 3, (some (.int)), 9, 2, hm_t85)
def hm_t86 : hc_K := [[some (.aload_n 0, 1, 0, 0), some (.iload_n 1, 1, 1, 0), some (.invokevirtual 128, 3, 76, 0), none, none, some (.ifCond .eq 16, 3, 21, 0), none, none, some (.aload_n 0, 1, 0, 0), some (.iload_n 2, 1, 2, 0), some (.invokevirtual 128, 3, 76, 0), none, none, some (.ifCond .eq 8, 3, 21, 0), none, none, some (.iload_n 1, 1, 1, 0), some (.iload_n 2, 1, 2, 0), some (.if_icmp .ne 5, 3, 23, 0), none, none, some (.iconst 0, 1, 0, 0), some (.ireturn, 1, 0, 0), some (.aload_n 0, 1, 0, 0), some (.invokevirtual 190, 3, 82, 0), none, none, some (.aload_n 0, 1, 0, 0), some (.getfield 39, 3, 9, 6), none, none, some (.iload_n 1, 1, 1, 0)], [some (.iload_n 2, 1, 2, 0), some (.invokevirtual 203, 3, 24, 0), none, none, some (.iconst 1, 1, 1, 0), some (.ireturn, 1, 0, 0)]]
def hm_m86 : hc_M := (⟨"HeardNext", "change", "(II)Z"⟩, prog_1_method_18_code, 3, (some (.boolean)), 9, 2, hm_t86)
def hm_t87 : hc_K := [[some (.iload_n 1, 1, 1, 0), some (.iconst 0, 1, 0, 0), some (.bipush 72, 2, 72, 0), none, some (.invokestatic 206, 3, 78, 2), none, none, some (.ifCond .ne 5, 3, 12, 0), none, none, some (.iconst (-1), 1, 4294967295, 0), some (.ireturn, 1, 0, 0), some (.iload_n 1, 1, 1, 0), some (.ifCond .le 7, 3, 20, 0), none, none, some (.aload_n 0, 1, 0, 0), some (.invokevirtual 190, 3, 82, 0), none, none, some (.iconst 0, 1, 0, 0), some (.istore_n 2, 1, 2, 0), some (.iload_n 2, 1, 2, 0), some (.iload_n 1, 1, 1, 0), some (.if_icmp .ge 32, 3, 56, 0), none, none, some (.aload_n 0, 1, 0, 0), some (.getfield 39, 3, 9, 6), none, none, some (.aload_n 0, 1, 0, 0)], [some (.getfield 20, 3, 9, 3), none, none, some (.aload_n 0, 1, 0, 0), some (.getfield 66, 3, 9, 11), none, none, some (.iconst 1, 1, 1, 0), some (.aload_n 0, 1, 0, 0), some (.getfield 20, 3, 9, 3), none, none, some (.getfield 210, 3, 5, 7), none, none, some (.invokevirtual 213, 3, 26, 0), none, none, some (.iinc 2 1, 3, 2, 1), none, none, some (.goto (-31), 3, 22, 0), none, none, some (.aload_n 0, 1, 0, 0), some (.getfield 39, 3, 9, 6), none, none, some (.getfield 157, 3, 2, 7), none, none, some (.ireturn, 1, 0, 0)]]
def hm_m87 : hc_M := (⟨"HeardNext", "hours", "(I)I"⟩, prog_1_method_19_code, 3, (some (.int)), 9, 1, hm_t87)
def hm_t88 : hc_K := [[some (.aload_n 0, 1, 0, 0), some (.getfield 73, 3, 9, 12), none, none, some (.iconst 0, 1, 0, 0), some (.putfield 122, 3, 8, 1), none, none, some (.aload_n 0, 1, 0, 0), some (.getfield 49, 3, 9, 8), none, none, some (.aload_n 0, 1, 0, 0), some (.getfield 39, 3, 9, 6), none, none, some (.invokevirtual 217, 3, 35, 0), none, none, some (.ireturn, 1, 0, 0)]]
def hm_m88 : hc_M := (⟨"HeardNext", "undo", "()Z"⟩, prog_1_method_20_code, 1, (some (.boolean)), 9, 0, hm_t88)
def hm_t89 : hc_K := [[some (.aload_n 0, 1, 0, 0), some (.getfield 73, 3, 9, 12), none, none, some (.iload_n 1, 1, 1, 0), some (.aload_n 0, 1, 0, 0), some (.getfield 20, 3, 9, 3), none, none, some (.aload_n 0, 1, 0, 0), some (.getfield 39, 3, 9, 6), none, none, some (.aload_n 0, 1, 0, 0), some (.getfield 66, 3, 9, 11), none, none, some (.invokevirtual 221, 3, 67, 0), none, none, some (.areturn, 1, 0, 0)]]
def hm_m89 : hc_M := (⟨"HeardNext", "comingTo", "(I)[I"⟩, prog_1_method_21_code, 2, (some ((.array .int))), 9, 1, hm_t89)
def hm_t90 : hc_K := [[some (.aload_n 0, 1, 0, 0), some (.getfield 39, 3, 9, 6), none, none, some (.iload_n 1, 1, 1, 0), some (.invokevirtual 225, 3, 20, 0), none, none, some (.bipush (-2), 2, 4294967294, 0), none, some (.if_icmp .eq 5, 3, 15, 0), none, none, some (.iconst 0, 1, 0, 0), some (.ireturn, 1, 0, 0), some (.sipush 255, 3, 255, 0), none, none, some (.istore_n 3, 1, 3, 0), some (.iconst 1, 1, 1, 0), some (.istore 4, 2, 4, 0), none, some (.iload 4, 2, 4, 0), none, some (.iload_n 1, 1, 1, 0), some (.if_icmp .gt 47, 3, 72, 0), none, none, some (.aload_n 0, 1, 0, 0), some (.getfield 66, 3, 9, 11)], [some (.aload_n 0, 1, 0, 0), some (.getfield 20, 3, 9, 3), none, none, some (.aload_n 0, 1, 0, 0), some (.getfield 39, 3, 9, 6), none, none, some (.iload 4, 2, 4, 0), none, some (.aload_n 0, 1, 0, 0), some (.getfield 39, 3, 9, 6), none, none, some (.getfield 157, 3, 2, 7), none, none, some (.iload_n 2, 1, 2, 0), some (.iadd, 1, 0, 0), some (.iload 4, 2, 4, 0), none, some (.iadd, 1, 0, 0), some (.invokevirtual 160, 3, 1, 0), none, none, some (.aload_n 0, 1, 0, 0), some (.getfield 66, 3, 9, 11), none, none, some (.iload_n 3, 1, 3, 0), some (.invokevirtual 183, 3, 5, 0)], [none, some (.istore_n 3, 1, 3, 0), some (.iinc 4 1, 3, 4, 1), none, none, some (.goto (-47), 3, 22, 0), none, none, some (.iload_n 3, 1, 3, 0), some (.ireturn, 1, 0, 0)]]
def hm_m90 : hc_M := (⟨"HeardNext", "allComing", "(II)I"⟩, prog_1_method_22_code, 5, (some (.int)), 9, 2, hm_t90)
def hm_t91 : hc_K := [[some (.aload_n 0, 1, 0, 0), some (.iload_n 1, 1, 1, 0), some (.invokevirtual 128, 3, 76, 0), none, none, some (.ifCond .eq 10, 3, 15, 0), none, none, some (.iload_n 2, 1, 2, 0), some (.invokestatic 180, 3, 77, 2), none, none, some (.ifCond .ne 5, 3, 17, 0), none, none, some (.iconst (-1), 1, 4294967295, 0), some (.ireturn, 1, 0, 0), some (.aload_n 0, 1, 0, 0), some (.iload_n 1, 1, 1, 0), some (.invokevirtual 228, 3, 89, 0), none, none, some (.iload_n 2, 1, 2, 0), some (.iaload, 1, 0, 0), some (.ireturn, 1, 0, 0)]]
def hm_m91 : hc_M := (⟨"HeardNext", "comes", "(II)I"⟩, prog_1_method_23_code, 3, (some (.int)), 9, 2, hm_t91)
def hm_t92 : hc_K := [[some (.iload_n 1, 1, 1, 0), some (.invokestatic 180, 3, 77, 2), none, none, some (.ifCond .ne 5, 3, 9, 0), none, none, some (.iconst (-1), 1, 4294967295, 0), some (.ireturn, 1, 0, 0), some (.aload_n 0, 1, 0, 0), some (.getfield 20, 3, 9, 3), none, none, some (.getfield 125, 3, 5, 4), none, none, some (.iconst 1, 1, 1, 0), some (.isub, 1, 0, 0), some (.istore_n 2, 1, 2, 0), some (.iload_n 2, 1, 2, 0), some (.ifCond .lt 26, 3, 46, 0), none, none, some (.aload_n 0, 1, 0, 0), some (.iload_n 2, 1, 2, 0), some (.invokevirtual 228, 3, 89, 0), none, none, some (.astore_n 3, 1, 3, 0), some (.aload_n 3, 1, 3, 0), some (.iload_n 1, 1, 1, 0), some (.iaload, 1, 0, 0)], [some (.aload_n 3, 1, 3, 0), some (.iconst 0, 1, 0, 0), some (.iaload, 1, 0, 0), some (.if_icmp .eq 5, 3, 40, 0), none, none, some (.iload_n 2, 1, 2, 0), some (.ireturn, 1, 0, 0), some (.iinc 2 (-1), 3, 2, 4294967295), none, none, some (.goto (-24), 3, 19, 0), none, none, some (.bipush (-2), 2, 4294967294, 0), none, some (.ireturn, 1, 0, 0)]]
def hm_m92 : hc_M := (⟨"HeardNext", "last", "(I)I"⟩, prog_1_method_24_code, 4, (some (.int)), 9, 1, hm_t92)
def hm_t93 : hc_K := [[some (.aload_n 0, 1, 0, 0), some (.iload_n 1, 1, 1, 0), some (.invokevirtual 128, 3, 76, 0), none, none, some (.ifCond .ne 5, 3, 10, 0), none, none, some (.iconst (-1), 1, 4294967295, 0), some (.ireturn, 1, 0, 0), some (.aload_n 0, 1, 0, 0), some (.iload_n 1, 1, 1, 0), some (.invokevirtual 228, 3, 89, 0), none, none, some (.astore_n 2, 1, 2, 0), some (.aload_n 0, 1, 0, 0), some (.getfield 39, 3, 9, 6), none, none, some (.getfield 132, 3, 2, 0), none, none, some (.iload_n 1, 1, 1, 0), some (.iaload, 1, 0, 0), some (.istore_n 3, 1, 3, 0), some (.bipush (-2), 2, 4294967294, 0), none, some (.istore 4, 2, 4, 0), none, some (.bipush 9, 2, 9, 0)], [some (.istore 5, 2, 5, 0), none, some (.iconst 0, 1, 0, 0), some (.istore 6, 2, 6, 0), none, some (.iload 6, 2, 6, 0), none, some (.sipush 256, 3, 256, 0), none, none, some (.if_icmp .ge 40, 3, 82, 0), none, none, some (.aload_n 2, 1, 2, 0), some (.iload 6, 2, 6, 0), none, some (.iaload, 1, 0, 0), some (.iload_n 3, 1, 3, 0), some (.iand, 1, 0, 0), some (.iload_n 3, 1, 3, 0), some (.if_icmp .ne 24, 3, 76, 0), none, none, some (.iload 6, 2, 6, 0), none, some (.invokestatic 164, 3, 242, 2), none, none, some (.iload 5, 2, 5, 0), none, some (.if_icmp .ge 14, 3, 76, 0)], [none, some (.iload 6, 2, 6, 0), none, some (.istore 4, 2, 4, 0), none, some (.iload 6, 2, 6, 0), none, some (.invokestatic 164, 3, 242, 2), none, none, some (.istore 5, 2, 5, 0), none, some (.iinc 6 1, 3, 6, 1), none, none, some (.goto (-42), 3, 37, 0), none, none, some (.iload 4, 2, 4, 0), none, some (.ireturn, 1, 0, 0)]]
def hm_m93 : hc_M := (⟨"HeardNext", "sendFor", "(I)I"⟩, prog_1_method_25_code, 7, (some (.int)), 9, 1, hm_t93)
def hm_t94 : hc_K := [[some (.aload_n 0, 1, 0, 0), some (.iload_n 1, 1, 1, 0), some (.invokevirtual 128, 3, 76, 0), none, none, some (.ifCond .ne 5, 3, 10, 0), none, none, some (.iconst (-1), 1, 4294967295, 0), some (.ireturn, 1, 0, 0), some (.aload_n 0, 1, 0, 0), some (.iload_n 1, 1, 1, 0), some (.invokevirtual 228, 3, 89, 0), none, none, some (.astore_n 2, 1, 2, 0), some (.aload_n 0, 1, 0, 0), some (.getfield 88, 3, 9, 15), none, none, some (.iconst 0, 1, 0, 0), some (.invokestatic 232, 3, 246, 2), none, none, some (.iconst 0, 1, 0, 0), some (.istore_n 3, 1, 3, 0), some (.iconst 0, 1, 0, 0), some (.istore 4, 2, 4, 0), none, some (.iload 4, 2, 4, 0), none, some (.sipush 256, 3, 256, 0)], [none, none, some (.if_icmp .ge 43, 3, 77, 0), none, none, some (.aload_n 2, 1, 2, 0), some (.iload 4, 2, 4, 0), none, some (.iaload, 1, 0, 0), some (.sipush 255, 3, 255, 0), none, none, some (.iand, 1, 0, 0), some (.istore 5, 2, 5, 0), none, some (.aload_n 0, 1, 0, 0), some (.getfield 88, 3, 9, 15), none, none, some (.iload 5, 2, 5, 0), none, some (.iaload, 1, 0, 0), some (.ifCond .ne 6, 3, 60, 0), none, none, some (.iinc 3 1, 3, 3, 1), none, none, some (.aload_n 0, 1, 0, 0), some (.getfield 88, 3, 9, 15)], [some (.iload 5, 2, 5, 0), none, some (.dup2, 1, 0, 0), some (.iaload, 1, 0, 0), some (.iconst 1, 1, 1, 0), some (.iadd, 1, 0, 0), some (.iastore, 1, 0, 0), some (.iinc 4 1, 3, 4, 1), none, none, some (.goto (-45), 3, 29, 0), none, none, some (.iload_n 3, 1, 3, 0), some (.ireturn, 1, 0, 0)]]
def hm_m94 : hc_M := (⟨"HeardNext", "apart", "(I)I"⟩, prog_1_method_26_code, 6, (some (.int)), 9, 1, hm_t94)
def hm_t95 : hc_K := [[some (.aload_n 0, 1, 0, 0), some (.iload_n 1, 1, 1, 0), some (.invokevirtual 128, 3, 76, 0), none, none, some (.ifCond .eq 18, 3, 23, 0), none, none, some (.iload_n 2, 1, 2, 0), some (.iconst 1, 1, 1, 0), some (.bipush 8, 2, 8, 0), none, some (.invokestatic 206, 3, 78, 2), none, none, some (.ifCond .eq 8, 3, 23, 0), none, none, some (.iload_n 3, 1, 3, 0), some (.iconst (-1), 1, 4294967295, 0), some (.if_icmp .ge 5, 3, 25, 0), none, none, some (.iconst (-1), 1, 4294967295, 0), some (.ireturn, 1, 0, 0), some (.aload_n 0, 1, 0, 0), some (.aload_n 0, 1, 0, 0), some (.iload_n 1, 1, 1, 0), some (.invokevirtual 228, 3, 89, 0), none, none, some (.iload_n 2, 1, 2, 0)], [some (.invokevirtual 238, 3, 96, 0), none, none, some (.istore 4, 2, 4, 0), none, some (.iload_n 3, 1, 3, 0), some (.iconst (-1), 1, 4294967295, 0), some (.if_icmp .ne 6, 3, 45, 0), none, none, some (.iload 4, 2, 4, 0), none, some (.ireturn, 1, 0, 0), some (.iload_n 3, 1, 3, 0), some (.iload 4, 2, 4, 0), none, some (.if_icmp .ge 12, 3, 60, 0), none, none, some (.aload_n 0, 1, 0, 0), some (.getfield 84, 3, 9, 14), none, none, some (.iload_n 3, 1, 3, 0), some (.iaload, 1, 0, 0), some (.goto 4, 3, 61, 0), none, none, some (.iconst (-1), 1, 4294967295, 0), some (.ireturn, 1, 0, 0)]]
def hm_m95 : hc_M := (⟨"HeardNext", "code", "(III)I"⟩, prog_1_method_27_code, 5, (some (.int)), 9, 3, hm_t95)
def hm_t96 : hc_K := [[some (.iconst 0, 1, 0, 0), some (.istore_n 3, 1, 3, 0), some (.iconst 0, 1, 0, 0), some (.istore 4, 2, 4, 0), none, some (.iload 4, 2, 4, 0), none, some (.sipush 256, 3, 256, 0), none, none, some (.if_icmp .ge 76, 3, 86, 0), none, none, some (.iconst 1, 1, 1, 0), some (.istore 5, 2, 5, 0), none, some (.iconst 0, 1, 0, 0), some (.istore 6, 2, 6, 0), none, some (.iload 6, 2, 6, 0), none, some (.iload_n 3, 1, 3, 0), some (.if_icmp .ge 42, 3, 64, 0), none, none, some (.iload 5, 2, 5, 0), none, some (.ifCond .eq 37, 3, 64, 0), none, none, some (.aload_n 1, 1, 1, 0), some (.iload 4, 2, 4, 0)], [none, some (.iaload, 1, 0, 0), some (.aload_n 1, 1, 1, 0), some (.aload_n 0, 1, 0, 0), some (.getfield 84, 3, 9, 14), none, none, some (.iload 6, 2, 6, 0), none, some (.iaload, 1, 0, 0), some (.iaload, 1, 0, 0), some (.ixor, 1, 0, 0), some (.invokestatic 164, 3, 242, 2), none, none, some (.iload_n 2, 1, 2, 0), some (.if_icmp .lt 7, 3, 55, 0), none, none, some (.iconst 1, 1, 1, 0), some (.goto 4, 3, 56, 0), none, none, some (.iconst 0, 1, 0, 0), some (.istore 5, 2, 5, 0), none, some (.iinc 6 1, 3, 6, 1), none, none, some (.goto (-42), 3, 19, 0)], [some (.iload 5, 2, 5, 0), none, some (.ifCond .eq 14, 3, 80, 0), none, none, some (.aload_n 0, 1, 0, 0), some (.getfield 84, 3, 9, 14), none, none, some (.iload_n 3, 1, 3, 0), some (.iload 4, 2, 4, 0), none, some (.iastore, 1, 0, 0), some (.iinc 3 1, 3, 3, 1), none, none, some (.iinc 4 1, 3, 4, 1), none, none, some (.goto (-78), 3, 5, 0), none, none, some (.iload_n 3, 1, 3, 0), some (.ireturn, 1, 0, 0)]]
def hm_m96 : hc_M := (⟨"HeardNext", "takeCode", "([II)I"⟩, prog_1_method_28_code, 7, (some (.int)), 9, 2, hm_t96)
def hm_t97 : hc_K := [[some (.aload_n 0, 1, 0, 0), some (.iload_n 1, 1, 1, 0), some (.invokevirtual 128, 3, 76, 0), none, none, some (.ifCond .ne 5, 3, 10, 0), none, none, some (.iconst (-1), 1, 4294967295, 0), some (.ireturn, 1, 0, 0), some (.aload_n 0, 1, 0, 0), some (.iload_n 1, 1, 1, 0), some (.invokevirtual 228, 3, 89, 0), none, none, some (.astore_n 2, 1, 2, 0), some (.iconst 0, 1, 0, 0), some (.istore_n 3, 1, 3, 0), some (.iconst 0, 1, 0, 0), some (.istore 4, 2, 4, 0), none, some (.iload 4, 2, 4, 0), none, some (.bipush 8, 2, 8, 0), none, some (.if_icmp .ge 28, 3, 53, 0), none, none, some (.aload_n 2, 1, 2, 0), some (.iconst 1, 1, 1, 0), some (.iload 4, 2, 4, 0)], [some (.ishl, 1, 0, 0), some (.iaload, 1, 0, 0), some (.aload_n 2, 1, 2, 0), some (.iconst 0, 1, 0, 0), some (.iaload, 1, 0, 0), some (.if_icmp .ne 10, 3, 47, 0), none, none, some (.iload_n 3, 1, 3, 0), some (.iconst 1, 1, 1, 0), some (.iload 4, 2, 4, 0), none, some (.ishl, 1, 0, 0), some (.ior, 1, 0, 0), some (.istore_n 3, 1, 3, 0), some (.iinc 4 1, 3, 4, 1), none, none, some (.goto (-29), 3, 21, 0), none, none, some (.iload_n 3, 1, 3, 0), some (.ireturn, 1, 0, 0)]]
def hm_m97 : hc_M := (⟨"HeardNext", "lost", "(I)I"⟩, prog_1_method_29_code, 5, (some (.int)), 9, 1, hm_t97)
def hm_t98 : hc_K := [[some (.aload_n 0, 1, 0, 0), some (.iload_n 1, 1, 1, 0), some (.invokevirtual 128, 3, 76, 0), none, none, some (.ifCond .eq 17, 3, 22, 0), none, none, some (.iload_n 2, 1, 2, 0), some (.invokestatic 180, 3, 77, 2), none, none, some (.ifCond .eq 10, 3, 22, 0), none, none, some (.iload_n 3, 1, 3, 0), some (.invokestatic 180, 3, 77, 2), none, none, some (.ifCond .ne 5, 3, 24, 0), none, none, some (.iconst (-1), 1, 4294967295, 0), some (.ireturn, 1, 0, 0), some (.aload_n 0, 1, 0, 0), some (.iload_n 1, 1, 1, 0), some (.invokevirtual 228, 3, 89, 0), none, none, some (.astore 4, 2, 4, 0), none, some (.aload 4, 2, 4, 0)], [none, some (.iload_n 2, 1, 2, 0), some (.iaload, 1, 0, 0), some (.aload 4, 2, 4, 0), none, some (.iload_n 3, 1, 3, 0), some (.iaload, 1, 0, 0), some (.ixor, 1, 0, 0), some (.invokestatic 164, 3, 242, 2), none, none, some (.ireturn, 1, 0, 0)]]
def hm_m98 : hc_M := (⟨"HeardNext", "between", "(III)I"⟩, prog_1_method_30_code, 5, (some (.int)), 9, 3, hm_t98)
def hm_t99 : hc_K := [[some (.aload_n 0, 1, 0, 0), some (.iload_n 1, 1, 1, 0), some (.invokevirtual 128, 3, 76, 0), none, none, some (.ifCond .eq 12, 3, 17, 0), none, none, some (.iload_n 2, 1, 2, 0), some (.iconst 0, 1, 0, 0), some (.iconst 2, 1, 2, 0), some (.invokestatic 206, 3, 78, 2), none, none, some (.ifCond .ne 5, 3, 19, 0), none, none, some (.iconst (-1), 1, 4294967295, 0), some (.ireturn, 1, 0, 0), some (.aload_n 0, 1, 0, 0), some (.iload_n 1, 1, 1, 0), some (.invokevirtual 228, 3, 89, 0), none, none, some (.astore_n 3, 1, 3, 0), some (.iconst (-1), 1, 4294967295, 0), some (.istore 4, 2, 4, 0), none, some (.iconst 0, 1, 0, 0), some (.istore 5, 2, 5, 0), none, some (.iconst 0, 1, 0, 0)], [some (.istore 6, 2, 6, 0), none, some (.iconst 0, 1, 0, 0), some (.istore 7, 2, 7, 0), none, some (.iload 7, 2, 7, 0), none, some (.sipush 256, 3, 256, 0), none, none, some (.if_icmp .ge 69, 3, 111, 0), none, none, some (.iload 4, 2, 4, 0), none, some (.bipush 8, 2, 8, 0), none, some (.if_icmp .ge 62, 3, 111, 0), none, none, some (.iload 7, 2, 7, 0), none, some (.iconst 1, 1, 1, 0), some (.iadd, 1, 0, 0), some (.istore 8, 2, 8, 0), none, some (.iload 8, 2, 8, 0), none, some (.sipush 256, 3, 256, 0), none, none, some (.if_icmp .ge 42, 3, 105, 0)], [none, none, some (.aload_n 3, 1, 3, 0), some (.iload 7, 2, 7, 0), none, some (.iaload, 1, 0, 0), some (.aload_n 3, 1, 3, 0), some (.iload 8, 2, 8, 0), none, some (.iaload, 1, 0, 0), some (.ixor, 1, 0, 0), some (.invokestatic 164, 3, 242, 2), none, none, some (.istore 9, 2, 9, 0), none, some (.iload 9, 2, 9, 0), none, some (.iload 4, 2, 4, 0), none, some (.if_icmp .le 15, 3, 99, 0), none, none, some (.iload 9, 2, 9, 0), none, some (.istore 4, 2, 4, 0), none, some (.iload 7, 2, 7, 0), none, some (.istore 5, 2, 5, 0), none, some (.iload 8, 2, 8, 0)], [none, some (.istore 6, 2, 6, 0), none, some (.iinc 8 1, 3, 8, 1), none, none, some (.goto (-44), 3, 58, 0), none, none, some (.iinc 7 1, 3, 7, 1), none, none, some (.goto (-71), 3, 37, 0), none, none, some (.iload_n 2, 1, 2, 0), some (.ifCond .ne 6, 3, 118, 0), none, none, some (.iload 4, 2, 4, 0), none, some (.ireturn, 1, 0, 0), some (.iload_n 2, 1, 2, 0), some (.iconst 1, 1, 1, 0), some (.if_icmp .ne 8, 3, 128, 0), none, none, some (.iload 5, 2, 5, 0), none, some (.goto 5, 3, 130, 0)], [some (.iload 6, 2, 6, 0), none, some (.ireturn, 1, 0, 0)]]
def hm_m99 : hc_M := (⟨"HeardNext", "widest", "(II)I"⟩, prog_1_method_31_code, 10, (some (.int)), 9, 2, hm_t99)
def hm_t100 : hc_K := [[some (.aload_n 0, 1, 0, 0), some (.iload_n 1, 1, 1, 0), some (.invokevirtual 128, 3, 76, 0), none, none, some (.ifCond .eq 16, 3, 21, 0), none, none, some (.aload_n 0, 1, 0, 0), some (.iload_n 2, 1, 2, 0), some (.invokevirtual 128, 3, 76, 0), none, none, some (.ifCond .eq 8, 3, 21, 0), none, none, some (.iload_n 1, 1, 1, 0), some (.iload_n 2, 1, 2, 0), some (.if_icmp .ne 5, 3, 23, 0), none, none, some (.iconst (-1), 1, 4294967295, 0), some (.ireturn, 1, 0, 0), some (.aload_n 0, 1, 0, 0), some (.iload_n 1, 1, 1, 0), some (.invokevirtual 228, 3, 89, 0), none, none, some (.astore_n 3, 1, 3, 0), some (.aload_n 0, 1, 0, 0), some (.iload_n 2, 1, 2, 0), some (.invokevirtual 228, 3, 89, 0)], [none, none, some (.astore 4, 2, 4, 0), none, some (.iconst 0, 1, 0, 0), some (.istore 5, 2, 5, 0), none, some (.iconst 0, 1, 0, 0), some (.istore 6, 2, 6, 0), none, some (.iload 6, 2, 6, 0), none, some (.sipush 256, 3, 256, 0), none, none, some (.if_icmp .ge 24, 3, 71, 0), none, none, some (.aload_n 3, 1, 3, 0), some (.iload 6, 2, 6, 0), none, some (.iaload, 1, 0, 0), some (.aload 4, 2, 4, 0), none, some (.iload 6, 2, 6, 0), none, some (.iaload, 1, 0, 0), some (.if_icmp .ne 6, 3, 65, 0), none, none, some (.iinc 5 1, 3, 5, 1)], [none, some (.iinc 6 1, 3, 6, 1), none, none, some (.goto (-26), 3, 42, 0), none, none, some (.iload 5, 2, 5, 0), none, some (.ireturn, 1, 0, 0)]]
def hm_m100 : hc_M := (⟨"HeardNext", "same", "(II)I"⟩, prog_1_method_32_code, 7, (some (.int)), 9, 2, hm_t100)
def hm_t101 : hc_K := [[some (.aload_n 0, 1, 0, 0), some (.iload_n 1, 1, 1, 0), some (.invokevirtual 128, 3, 76, 0), none, none, some (.ifCond .ne 5, 3, 10, 0), none, none, some (.iconst (-1), 1, 4294967295, 0), some (.ireturn, 1, 0, 0), some (.aload_n 0, 1, 0, 0), some (.iload_n 1, 1, 1, 0), some (.invokevirtual 228, 3, 89, 0), none, none, some (.astore_n 2, 1, 2, 0), some (.iconst 1, 1, 1, 0), some (.istore_n 3, 1, 3, 0), some (.iload_n 3, 1, 3, 0), some (.sipush 256, 3, 256, 0), none, none, some (.if_icmp .ge 18, 3, 40, 0), none, none, some (.aload_n 2, 1, 2, 0), some (.iload_n 3, 1, 3, 0), some (.iaload, 1, 0, 0), some (.iload_n 3, 1, 3, 0), some (.if_icmp .ne 5, 3, 34, 0)], [some (.iload_n 3, 1, 3, 0), some (.ireturn, 1, 0, 0), some (.iinc 3 1, 3, 3, 1), none, none, some (.goto (-19), 3, 18, 0), none, none, some (.bipush (-2), 2, 4294967294, 0), none, some (.ireturn, 1, 0, 0)]]
def hm_m101 : hc_M := (⟨"HeardNext", "itself", "(I)I"⟩, prog_1_method_33_code, 4, (some (.int)), 9, 1, hm_t101)
def hm_t102 : hc_K := [[some (.aload_n 0, 1, 0, 0), some (.iload_n 1, 1, 1, 0), some (.invokevirtual 128, 3, 76, 0), none, none, some (.ifCond .eq 12, 3, 17, 0), none, none, some (.iload_n 2, 1, 2, 0), some (.iconst (-1), 1, 4294967295, 0), some (.iconst 2, 1, 2, 0), some (.invokestatic 206, 3, 78, 2), none, none, some (.ifCond .ne 5, 3, 19, 0), none, none, some (.iconst (-1), 1, 4294967295, 0), some (.ireturn, 1, 0, 0), some (.aload_n 0, 1, 0, 0), some (.iload_n 1, 1, 1, 0), some (.invokevirtual 242, 3, 103, 0), none, none, some (.istore_n 3, 1, 3, 0), some (.iload_n 3, 1, 3, 0), some (.bipush (-2), 2, 4294967294, 0), none, some (.if_icmp .eq 8, 3, 36, 0), none, none, some (.iload_n 2, 1, 2, 0)], [some (.iconst (-1), 1, 4294967295, 0), some (.if_icmp .ne 5, 3, 38, 0), none, none, some (.iload_n 3, 1, 3, 0), some (.ireturn, 1, 0, 0), some (.iload_n 2, 1, 2, 0), some (.iload_n 3, 1, 3, 0), some (.if_icmp .ge 12, 3, 52, 0), none, none, some (.aload_n 0, 1, 0, 0), some (.getfield 91, 3, 9, 16), none, none, some (.iload_n 2, 1, 2, 0), some (.iaload, 1, 0, 0), some (.goto 4, 3, 53, 0), none, none, some (.iconst (-1), 1, 4294967295, 0), some (.ireturn, 1, 0, 0)]]
def hm_m102 : hc_M := (⟨"HeardNext", "times", "(II)I"⟩, prog_1_method_34_code, 4, (some (.int)), 9, 2, hm_t102)
def hm_t103 : hc_K := [[some (.aload_n 0, 1, 0, 0), some (.getfield 39, 3, 9, 6), none, none, some (.iload_n 1, 1, 1, 0), some (.invokevirtual 245, 3, 21, 0), none, none, some (.istore_n 2, 1, 2, 0), some (.iload_n 2, 1, 2, 0), some (.ifCond .ne 5, 3, 15, 0), none, none, some (.iconst 0, 1, 0, 0), some (.ireturn, 1, 0, 0), some (.iconst 0, 1, 0, 0), some (.istore_n 3, 1, 3, 0), some (.iload_n 3, 1, 3, 0), some (.bipush 24, 2, 24, 0), none, some (.if_icmp .ge 23, 3, 43, 0), none, none, some (.aload_n 0, 1, 0, 0), some (.getfield 88, 3, 9, 15), none, none, some (.iload_n 3, 1, 3, 0), some (.aload_n 0, 1, 0, 0), some (.iload_n 1, 1, 1, 0), some (.iload_n 3, 1, 3, 0), some (.invokevirtual 248, 3, 90, 0)], [none, none, some (.iload_n 2, 1, 2, 0), some (.iand, 1, 0, 0), some (.iastore, 1, 0, 0), some (.iinc 3 1, 3, 3, 1), none, none, some (.goto (-23), 3, 17, 0), none, none, some (.iconst 1, 1, 1, 0), some (.istore_n 3, 1, 3, 0), some (.iload_n 3, 1, 3, 0), some (.iconst 3, 1, 3, 0), some (.if_icmp .gt 20, 3, 67, 0), none, none, some (.aload_n 0, 1, 0, 0), some (.iload_n 3, 1, 3, 0), some (.iload_n 2, 1, 2, 0), some (.invokevirtual 251, 3, 104, 0), none, none, some (.ifCond .eq 5, 3, 61, 0), none, none, some (.iload_n 3, 1, 3, 0), some (.ireturn, 1, 0, 0), some (.iinc 3 1, 3, 3, 1)], [some (.goto (-19), 3, 45, 0), none, none, some (.bipush (-2), 2, 4294967294, 0), none, some (.ireturn, 1, 0, 0)]]
def hm_m103 : hc_M := (⟨"HeardNext", "chooseTimes", "(I)I"⟩, prog_1_method_35_code, 4, (some (.int)), 9, 1, hm_t103)
def hm_t104 : hc_K := [[some (.iconst 0, 1, 0, 0), some (.istore_n 3, 1, 3, 0), some (.iload_n 3, 1, 3, 0), some (.bipush 24, 2, 24, 0), none, some (.if_icmp .ge 143, 3, 148, 0), none, none, some (.iload_n 1, 1, 1, 0), some (.iconst 2, 1, 2, 0), some (.if_icmp .ge 7, 3, 17, 0), none, none, some (.iload_n 3, 1, 3, 0), some (.goto 5, 3, 19, 0), none, none, some (.bipush 23, 2, 23, 0), none, some (.istore 4, 2, 4, 0), none, some (.iload_n 1, 1, 1, 0), some (.iconst 2, 1, 2, 0), some (.if_icmp .ge 7, 3, 30, 0), none, none, some (.iload_n 3, 1, 3, 0), some (.goto 6, 3, 33, 0), none, none, some (.iload_n 3, 1, 3, 0), some (.iconst 1, 1, 1, 0)], [some (.iadd, 1, 0, 0), some (.istore 5, 2, 5, 0), none, some (.iload 5, 2, 5, 0), none, some (.iload 4, 2, 4, 0), none, some (.if_icmp .gt 103, 3, 142, 0), none, none, some (.iload_n 1, 1, 1, 0), some (.iconst 3, 1, 3, 0), some (.if_icmp .ge 8, 3, 52, 0), none, none, some (.iload 5, 2, 5, 0), none, some (.goto 5, 3, 54, 0), none, none, some (.bipush 23, 2, 23, 0), none, some (.istore 6, 2, 6, 0), none, some (.iload_n 1, 1, 1, 0), some (.iconst 3, 1, 3, 0), some (.if_icmp .ge 8, 3, 66, 0), none, none, some (.iload 5, 2, 5, 0), none, some (.goto 7, 3, 70, 0)], [none, none, some (.iload 5, 2, 5, 0), none, some (.iconst 1, 1, 1, 0), some (.iadd, 1, 0, 0), some (.istore 7, 2, 7, 0), none, some (.iload 7, 2, 7, 0), none, some (.iload 6, 2, 6, 0), none, some (.if_icmp .gt 60, 3, 136, 0), none, none, some (.aload_n 0, 1, 0, 0), some (.getfield 88, 3, 9, 15), none, none, some (.iload_n 3, 1, 3, 0), some (.iaload, 1, 0, 0), some (.aload_n 0, 1, 0, 0), some (.getfield 88, 3, 9, 15), none, none, some (.iload 5, 2, 5, 0), none, some (.iaload, 1, 0, 0), some (.ior, 1, 0, 0), some (.aload_n 0, 1, 0, 0), some (.getfield 88, 3, 9, 15)], [none, some (.iload 7, 2, 7, 0), none, some (.iaload, 1, 0, 0), some (.ior, 1, 0, 0), some (.iload_n 2, 1, 2, 0), some (.if_icmp .ne 28, 3, 130, 0), none, none, some (.aload_n 0, 1, 0, 0), some (.getfield 91, 3, 9, 16), none, none, some (.iconst 0, 1, 0, 0), some (.iload_n 3, 1, 3, 0), some (.iastore, 1, 0, 0), some (.aload_n 0, 1, 0, 0), some (.getfield 91, 3, 9, 16), none, none, some (.iconst 1, 1, 1, 0), some (.iload 5, 2, 5, 0), none, some (.iastore, 1, 0, 0), some (.aload_n 0, 1, 0, 0), some (.getfield 91, 3, 9, 16), none, none, some (.iconst 2, 1, 2, 0), some (.iload 7, 2, 7, 0), none, some (.iastore, 1, 0, 0)], [some (.iconst 1, 1, 1, 0), some (.ireturn, 1, 0, 0), some (.iinc 7 1, 3, 7, 1), none, none, some (.goto (-61), 3, 72, 0), none, none, some (.iinc 5 1, 3, 5, 1), none, none, some (.goto (-104), 3, 35, 0), none, none, some (.iinc 3 1, 3, 3, 1), none, none, some (.goto (-143), 3, 2, 0), none, none, some (.iconst 0, 1, 0, 0), some (.ireturn, 1, 0, 0)]]
def hm_m104 : hc_M := (⟨"HeardNext", "chooseSoMany", "(II)Z"⟩, prog_1_method_36_code, 8, (some (.boolean)), 9, 2, hm_t104)
def hm_t105 : hc_K := [[some (.aload_n 0, 1, 0, 0), some (.iload_n 1, 1, 1, 0), some (.invokevirtual 128, 3, 76, 0), none, none, some (.ifCond .eq 12, 3, 17, 0), none, none, some (.iload_n 2, 1, 2, 0), some (.iconst 0, 1, 0, 0), some (.iconst 1, 1, 1, 0), some (.invokestatic 206, 3, 78, 2), none, none, some (.ifCond .ne 5, 3, 19, 0), none, none, some (.iconst (-1), 1, 4294967295, 0), some (.ireturn, 1, 0, 0), some (.iconst 0, 1, 0, 0), some (.istore_n 3, 1, 3, 0), some (.iconst (-1), 1, 4294967295, 0), some (.istore 4, 2, 4, 0), none, some (.iconst 0, 1, 0, 0), some (.istore 5, 2, 5, 0), none, some (.iload 5, 2, 5, 0), none, some (.bipush 24, 2, 24, 0), none, some (.if_icmp .ge 45, 3, 76, 0)], [none, none, some (.aload_n 0, 1, 0, 0), some (.iload_n 1, 1, 1, 0), some (.iload 5, 2, 5, 0), none, some (.invokevirtual 248, 3, 90, 0), none, none, some (.aload_n 0, 1, 0, 0), some (.getfield 39, 3, 9, 6), none, none, some (.getfield 132, 3, 2, 0), none, none, some (.iload_n 1, 1, 1, 0), some (.iaload, 1, 0, 0), some (.iand, 1, 0, 0), some (.invokestatic 164, 3, 242, 2), none, none, some (.istore 6, 2, 6, 0), none, some (.iload 6, 2, 6, 0), none, some (.iload 4, 2, 4, 0), none, some (.if_icmp .le 10, 3, 70, 0), none, none, some (.iload 6, 2, 6, 0)], [none, some (.istore 4, 2, 4, 0), none, some (.iload 5, 2, 5, 0), none, some (.istore_n 3, 1, 3, 0), some (.iinc 5 1, 3, 5, 1), none, none, some (.goto (-46), 3, 27, 0), none, none, some (.iload_n 2, 1, 2, 0), some (.ifCond .ne 7, 3, 84, 0), none, none, some (.iload_n 3, 1, 3, 0), some (.goto 5, 3, 86, 0), none, none, some (.iload 4, 2, 4, 0), none, some (.ireturn, 1, 0, 0)]]
def hm_m105 : hc_M := (⟨"HeardNext", "bestHour", "(II)I"⟩, prog_1_method_37_code, 7, (some (.int)), 9, 2, hm_t105)
def hm_t106 : hc_K := [[some (.aload_n 0, 1, 0, 0), some (.iload_n 1, 1, 1, 0), some (.invokevirtual 128, 3, 76, 0), none, none, some (.ifCond .eq 14, 3, 19, 0), none, none, some (.aload_n 0, 1, 0, 0), some (.getfield 39, 3, 9, 6), none, none, some (.iload_n 1, 1, 1, 0), some (.invokevirtual 225, 3, 20, 0), none, none, some (.goto 4, 3, 20, 0), none, none, some (.iconst (-1), 1, 4294967295, 0), some (.ireturn, 1, 0, 0)]]
def hm_m106 : hc_M := (⟨"HeardNext", "breakAt", "(I)I"⟩, prog_1_method_38_code, 2, (some (.int)), 9, 1, hm_t106)
def hm_t107 : hc_K := [[some (.aload_n 0, 1, 0, 0), some (.getfield 43, 3, 9, 7), none, none, some (.aload_n 0, 1, 0, 0), some (.getfield 39, 3, 9, 6), none, none, some (.invokevirtual 255, 3, 17, 0), none, none, some (.iconst 0, 1, 0, 0), some (.istore 4, 2, 4, 0), none, some (.iload 4, 2, 4, 0), none, some (.iload_n 1, 1, 1, 0), some (.if_icmp .ge 26, 3, 43, 0), none, none, some (.aload_n 0, 1, 0, 0), some (.getfield 43, 3, 9, 7), none, none, some (.aload_n 0, 1, 0, 0), some (.getfield 20, 3, 9, 3), none, none, some (.aload_n 0, 1, 0, 0), some (.getfield 66, 3, 9, 11)], [some (.iload_n 2, 1, 2, 0), some (.iload_n 3, 1, 3, 0), some (.invokevirtual 213, 3, 26, 0), none, none, some (.iinc 4 1, 3, 4, 1), none, none, some (.goto (-26), 3, 14, 0), none, none, some (.return_, 1, 0, 0)]]
def hm_m107 : hc_M := (⟨"HeardNext", "dreamOn", "(IZI)V"⟩, prog_1_method_39_code, 5, none, 9, 3, hm_t107)
def hm_t108 : hc_K := [[some (.iload_n 1, 1, 1, 0), some (.iconst 1, 1, 1, 0), some (.bipush 72, 2, 72, 0), none, some (.invokestatic 206, 3, 78, 2), none, none, some (.ifCond .eq 12, 3, 19, 0), none, none, some (.iload_n 2, 1, 2, 0), some (.iconst 0, 1, 0, 0), some (.iconst 1, 1, 1, 0), some (.invokestatic 206, 3, 78, 2), none, none, some (.ifCond .ne 5, 3, 21, 0), none, none, some (.iconst (-1), 1, 4294967295, 0), some (.ireturn, 1, 0, 0), some (.aload_n 0, 1, 0, 0), some (.getfield 20, 3, 9, 3), none, none, some (.getfield 125, 3, 5, 4), none, none, some (.ifCond .ne 6, 3, 34, 0), none, none, some (.bipush (-2), 2, 4294967294, 0)], [none, some (.ireturn, 1, 0, 0), some (.aload_n 0, 1, 0, 0), some (.iload_n 1, 1, 1, 0), some (.invokevirtual 258, 3, 109, 0), none, none, some (.iconst 0, 1, 0, 0), some (.istore_n 3, 1, 3, 0), some (.iconst 1, 1, 1, 0), some (.istore 4, 2, 4, 0), none, some (.iload 4, 2, 4, 0), none, some (.aload_n 0, 1, 0, 0), some (.getfield 20, 3, 9, 3), none, none, some (.getfield 125, 3, 5, 4), none, none, some (.if_icmp .ge 28, 3, 81, 0), none, none, some (.aload_n 0, 1, 0, 0), some (.getfield 88, 3, 9, 15), none, none, some (.iload 4, 2, 4, 0), none, some (.iaload, 1, 0, 0), some (.aload_n 0, 1, 0, 0)], [some (.getfield 88, 3, 9, 15), none, none, some (.iload_n 3, 1, 3, 0), some (.iaload, 1, 0, 0), some (.if_icmp .le 6, 3, 75, 0), none, none, some (.iload 4, 2, 4, 0), none, some (.istore_n 3, 1, 3, 0), some (.iinc 4 1, 3, 4, 1), none, none, some (.goto (-34), 3, 44, 0), none, none, some (.iload_n 2, 1, 2, 0), some (.ifCond .ne 7, 3, 89, 0), none, none, some (.iload_n 3, 1, 3, 0), some (.goto 9, 3, 95, 0), none, none, some (.aload_n 0, 1, 0, 0), some (.getfield 88, 3, 9, 15), none, none, some (.iload_n 3, 1, 3, 0), some (.iaload, 1, 0, 0), some (.ireturn, 1, 0, 0)]]
def hm_m108 : hc_M := (⟨"HeardNext", "loudest", "(II)I"⟩, prog_1_method_40_code, 5, (some (.int)), 9, 2, hm_t108)
def hm_t109 : hc_K := [[some (.aload_n 0, 1, 0, 0), some (.getfield 88, 3, 9, 15), none, none, some (.iconst 0, 1, 0, 0), some (.invokestatic 232, 3, 246, 2), none, none, some (.aload_n 0, 1, 0, 0), some (.getfield 43, 3, 9, 7), none, none, some (.aload_n 0, 1, 0, 0), some (.getfield 39, 3, 9, 6), none, none, some (.invokevirtual 255, 3, 17, 0), none, none, some (.iconst 0, 1, 0, 0), some (.istore_n 2, 1, 2, 0), some (.iload_n 2, 1, 2, 0), some (.iload_n 1, 1, 1, 0), some (.if_icmp .ge 66, 3, 89, 0), none, none, some (.aload_n 0, 1, 0, 0), some (.getfield 43, 3, 9, 7), none, none, some (.aload_n 0, 1, 0, 0), some (.getfield 20, 3, 9, 3)], [none, none, some (.aload_n 0, 1, 0, 0), some (.getfield 66, 3, 9, 11), none, none, some (.iconst 0, 1, 0, 0), some (.iconst 0, 1, 0, 0), some (.invokevirtual 213, 3, 26, 0), none, none, some (.iconst 0, 1, 0, 0), some (.istore_n 3, 1, 3, 0), some (.iload_n 3, 1, 3, 0), some (.aload_n 0, 1, 0, 0), some (.getfield 20, 3, 9, 3), none, none, some (.getfield 125, 3, 5, 4), none, none, some (.if_icmp .ge 30, 3, 83, 0), none, none, some (.aload_n 0, 1, 0, 0), some (.getfield 88, 3, 9, 15), none, none, some (.iload_n 3, 1, 3, 0), some (.dup2, 1, 0, 0), some (.iaload, 1, 0, 0), some (.aload_n 0, 1, 0, 0)], [some (.getfield 43, 3, 9, 7), none, none, some (.getfield 138, 3, 2, 4), none, none, some (.iload_n 3, 1, 3, 0), some (.iaload, 1, 0, 0), some (.invokestatic 164, 3, 242, 2), none, none, some (.iadd, 1, 0, 0), some (.iastore, 1, 0, 0), some (.iinc 3 1, 3, 3, 1), none, none, some (.goto (-35), 3, 45, 0), none, none, some (.iinc 2 1, 3, 2, 1), none, none, some (.goto (-65), 3, 21, 0), none, none, some (.return_, 1, 0, 0)]]
def hm_m109 : hc_M := (⟨"HeardNext", "addUpHeard", "(I)V"⟩, prog_1_method_41_code, 4, none, 9, 1, hm_t109)
def hm_t110 : hc_K := [[some (.iload_n 1, 1, 1, 0), some (.iconst 0, 1, 0, 0), some (.bipush 72, 2, 72, 0), none, some (.invokestatic 206, 3, 78, 2), none, none, some (.ifCond .ne 5, 3, 12, 0), none, none, some (.iconst (-1), 1, 4294967295, 0), some (.ireturn, 1, 0, 0), some (.aload_n 0, 1, 0, 0), some (.iload_n 1, 1, 1, 0), some (.iconst 0, 1, 0, 0), some (.iconst 0, 1, 0, 0), some (.invokevirtual 261, 3, 107, 0), none, none, some (.aload_n 0, 1, 0, 0), some (.getfield 43, 3, 9, 7), none, none, some (.invokevirtual 265, 3, 31, 0), none, none, some (.invokestatic 164, 3, 242, 2), none, none, some (.ireturn, 1, 0, 0)]]
def hm_m110 : hc_M := (⟨"HeardNext", "warm", "(I)I"⟩, prog_1_method_42_code, 2, (some (.int)), 9, 1, hm_t110)
def hm_t111 : hc_K := [[some (.iconst 0, 1, 0, 0), some (.istore_n 2, 1, 2, 0), some (.iload_n 2, 1, 2, 0), some (.aload_n 0, 1, 0, 0), some (.getfield 20, 3, 9, 3), none, none, some (.getfield 125, 3, 5, 4), none, none, some (.if_icmp .ge 24, 3, 34, 0), none, none, some (.aload_n 0, 1, 0, 0), some (.getfield 39, 3, 9, 6), none, none, some (.getfield 150, 3, 2, 3), none, none, some (.iload_n 2, 1, 2, 0), some (.iaload, 1, 0, 0), some (.iload_n 1, 1, 1, 0), some (.if_icmp .ne 5, 3, 28, 0), none, none, some (.iload_n 2, 1, 2, 0), some (.ireturn, 1, 0, 0), some (.iinc 2 1, 3, 2, 1), none, none, some (.goto (-29), 3, 2, 0)], [none, none, some (.iconst (-1), 1, 4294967295, 0), some (.ireturn, 1, 0, 0)]]
def hm_m111 : hc_M := (⟨"HeardNext", "lives", "(I)I"⟩, prog_1_method_43_code, 3, (some (.int)), 9, 1, hm_t111)
def hm_t112 : hc_K := [[some (.aload_n 0, 1, 0, 0), some (.iload_n 1, 1, 1, 0), some (.invokevirtual 128, 3, 76, 0), none, none, some (.ifCond .ne 5, 3, 10, 0), none, none, some (.iconst (-1), 1, 4294967295, 0), some (.ireturn, 1, 0, 0), some (.aload_n 0, 1, 0, 0), some (.getfield 43, 3, 9, 7), none, none, some (.aload_n 0, 1, 0, 0), some (.getfield 39, 3, 9, 6), none, none, some (.invokevirtual 255, 3, 17, 0), none, none, some (.iconst 1, 1, 1, 0), some (.istore_n 2, 1, 2, 0), some (.iload_n 2, 1, 2, 0), some (.bipush 72, 2, 72, 0), none, some (.if_icmp .gt 46, 3, 72, 0), none, none, some (.aload_n 0, 1, 0, 0), some (.getfield 43, 3, 9, 7)], [none, some (.aload_n 0, 1, 0, 0), some (.getfield 20, 3, 9, 3), none, none, some (.aload_n 0, 1, 0, 0), some (.getfield 66, 3, 9, 11), none, none, some (.iconst 1, 1, 1, 0), some (.aload_n 0, 1, 0, 0), some (.getfield 20, 3, 9, 3), none, none, some (.getfield 210, 3, 5, 7), none, none, some (.invokevirtual 213, 3, 26, 0), none, none, some (.aload_n 0, 1, 0, 0), some (.getfield 43, 3, 9, 7), none, none, some (.getfield 138, 3, 2, 4), none, none, some (.iload_n 1, 1, 1, 0), some (.iaload, 1, 0, 0), some (.ifCond .eq 5, 3, 66, 0)], [some (.iload_n 2, 1, 2, 0), some (.ireturn, 1, 0, 0), some (.iinc 2 1, 3, 2, 1), none, none, some (.goto (-46), 3, 23, 0), none, none, some (.bipush (-2), 2, 4294967294, 0), none, some (.ireturn, 1, 0, 0)]]
def hm_m112 : hc_M := (⟨"HeardNext", "warmth", "(I)I"⟩, prog_1_method_44_code, 3, (some (.int)), 9, 1, hm_t112)
def hm_t113 : hc_K := [[some (.iload_n 2, 1, 2, 0), some (.iconst 0, 1, 0, 0), some (.bipush 72, 2, 72, 0), none, some (.invokestatic 206, 3, 78, 2), none, none, some (.ifCond .eq 12, 3, 19, 0), none, none, some (.iload_n 3, 1, 3, 0), some (.iconst 0, 1, 0, 0), some (.iconst 2, 1, 2, 0), some (.invokestatic 206, 3, 78, 2), none, none, some (.ifCond .ne 5, 3, 21, 0), none, none, some (.iconst (-1), 1, 4294967295, 0), some (.ireturn, 1, 0, 0), some (.iload_n 3, 1, 3, 0), some (.iconst 2, 1, 2, 0), some (.if_icmp .eq 13, 3, 36, 0), none, none, some (.aload_n 0, 1, 0, 0), some (.iload_n 1, 1, 1, 0), some (.invokevirtual 128, 3, 76, 0), none, none, some (.ifCond .ne 5, 3, 36, 0)], [none, none, some (.iconst (-1), 1, 4294967295, 0), some (.ireturn, 1, 0, 0), some (.aload_n 0, 1, 0, 0), some (.iload_n 2, 1, 2, 0), some (.iconst 1, 1, 1, 0), some (.aload_n 0, 1, 0, 0), some (.getfield 20, 3, 9, 3), none, none, some (.getfield 210, 3, 5, 7), none, none, some (.invokevirtual 261, 3, 107, 0), none, none, some (.iload_n 3, 1, 3, 0), some (.iconst 2, 1, 2, 0), some (.if_icmp .ne 14, 3, 65, 0), none, none, some (.aload_n 0, 1, 0, 0), some (.getfield 43, 3, 9, 7), none, none, some (.invokevirtual 268, 3, 30, 0), none, none, some (.invokestatic 164, 3, 242, 2)], [some (.ireturn, 1, 0, 0), some (.iload_n 3, 1, 3, 0), some (.ifCond .ne 15, 3, 81, 0), none, none, some (.aload_n 0, 1, 0, 0), some (.getfield 43, 3, 9, 7), none, none, some (.getfield 138, 3, 2, 4), none, none, some (.iload_n 1, 1, 1, 0), some (.iaload, 1, 0, 0), some (.goto 15, 3, 93, 0), none, none, some (.aload_n 0, 1, 0, 0), some (.getfield 43, 3, 9, 7), none, none, some (.getfield 141, 3, 2, 2), none, none, some (.iload_n 1, 1, 1, 0), some (.iaload, 1, 0, 0), some (.invokestatic 164, 3, 242, 2), none, none, some (.ireturn, 1, 0, 0)]]
def hm_m113 : hc_M := (⟨"HeardNext", "then", "(III)I"⟩, prog_1_method_45_code, 4, (some (.int)), 9, 3, hm_t113)
def hm_t114 : hc_K := [[some (.aload_n 0, 1, 0, 0), some (.iload_n 1, 1, 1, 0), some (.invokevirtual 128, 3, 76, 0), none, none, some (.ifCond .eq 13, 3, 18, 0), none, none, some (.iload_n 2, 1, 2, 0), some (.iconst 1, 1, 1, 0), some (.bipush 72, 2, 72, 0), none, some (.invokestatic 206, 3, 78, 2), none, none, some (.ifCond .ne 5, 3, 20, 0), none, none, some (.iconst (-1), 1, 4294967295, 0), some (.ireturn, 1, 0, 0), some (.iconst 0, 1, 0, 0), some (.istore_n 3, 1, 3, 0), some (.aload_n 0, 1, 0, 0), some (.getfield 43, 3, 9, 7), none, none, some (.aload_n 0, 1, 0, 0), some (.getfield 39, 3, 9, 6), none, none, some (.invokevirtual 255, 3, 17, 0)], [none, some (.iconst 0, 1, 0, 0), some (.istore 4, 2, 4, 0), none, some (.iload 4, 2, 4, 0), none, some (.iload_n 2, 1, 2, 0), some (.if_icmp .ge 41, 3, 80, 0), none, none, some (.aload_n 0, 1, 0, 0), some (.getfield 43, 3, 9, 7), none, none, some (.aload_n 0, 1, 0, 0), some (.getfield 20, 3, 9, 3), none, none, some (.aload_n 0, 1, 0, 0), some (.getfield 66, 3, 9, 11), none, none, some (.iconst 0, 1, 0, 0), some (.iconst 0, 1, 0, 0), some (.invokevirtual 213, 3, 26, 0), none, none, some (.aload_n 0, 1, 0, 0), some (.getfield 43, 3, 9, 7), none, none, some (.getfield 138, 3, 2, 4)], [none, none, some (.iload_n 1, 1, 1, 0), some (.iaload, 1, 0, 0), some (.ifCond .ne 6, 3, 74, 0), none, none, some (.iinc 3 1, 3, 3, 1), none, none, some (.iinc 4 1, 3, 4, 1), none, none, some (.goto (-41), 3, 36, 0), none, none, some (.iload_n 3, 1, 3, 0), some (.ireturn, 1, 0, 0)]]
def hm_m114 : hc_M := (⟨"HeardNext", "quiet", "(II)I"⟩, prog_1_method_46_code, 5, (some (.int)), 9, 2, hm_t114)
def hm_t115 : hc_K := [[some (.iload_n 1, 1, 1, 0), some (.iconst 0, 1, 0, 0), some (.bipush 72, 2, 72, 0), none, some (.invokestatic 206, 3, 78, 2), none, none, some (.ifCond .ne 5, 3, 12, 0), none, none, some (.iconst (-1), 1, 4294967295, 0), some (.ireturn, 1, 0, 0), some (.aload_n 0, 1, 0, 0), some (.iload_n 1, 1, 1, 0), some (.iconst 1, 1, 1, 0), some (.aload_n 0, 1, 0, 0), some (.getfield 20, 3, 9, 3), none, none, some (.getfield 210, 3, 5, 7), none, none, some (.invokevirtual 261, 3, 107, 0), none, none, some (.aload_n 0, 1, 0, 0), some (.getfield 43, 3, 9, 7), none, none, some (.invokevirtual 271, 3, 29, 0)], [some (.invokestatic 164, 3, 242, 2), none, none, some (.ireturn, 1, 0, 0)]]
def hm_m115 : hc_M := (⟨"HeardNext", "mourn", "(I)I"⟩, prog_1_method_47_code, 2, (some (.int)), 9, 1, hm_t115)
def hm_t116 : hc_K := [[some (.iload_n 1, 1, 1, 0), some (.iconst 0, 1, 0, 0), some (.iconst 1, 1, 1, 0), some (.invokestatic 206, 3, 78, 2), none, none, some (.ifCond .ne 5, 3, 11, 0), none, none, some (.iconst (-1), 1, 4294967295, 0), some (.ireturn, 1, 0, 0), some (.iconst 0, 1, 0, 0), some (.istore_n 2, 1, 2, 0), some (.bipush (-2), 2, 4294967294, 0), none, some (.istore_n 3, 1, 3, 0), some (.iconst 0, 1, 0, 0), some (.istore 4, 2, 4, 0), none, some (.iload 4, 2, 4, 0), none, some (.aload_n 0, 1, 0, 0), some (.getfield 20, 3, 9, 3), none, none, some (.getfield 125, 3, 5, 4), none, none, some (.if_icmp .ge 80, 3, 108, 0), none, none, some (.iconst 0, 1, 0, 0)], [some (.istore 5, 2, 5, 0), none, some (.iload 5, 2, 5, 0), none, some (.aload_n 0, 1, 0, 0), some (.getfield 20, 3, 9, 3), none, none, some (.getfield 125, 3, 5, 4), none, none, some (.if_icmp .ge 59, 3, 102, 0), none, none, some (.aload_n 0, 1, 0, 0), some (.getfield 39, 3, 9, 6), none, none, some (.getfield 138, 3, 2, 4), none, none, some (.iload 4, 2, 4, 0), none, some (.iaload, 1, 0, 0), some (.aload_n 0, 1, 0, 0), some (.getfield 39, 3, 9, 6), none, none, some (.iload 5, 2, 5, 0), none, some (.invokevirtual 245, 3, 21, 0)], [none, some (.iand, 1, 0, 0), some (.invokestatic 164, 3, 242, 2), none, none, some (.istore 6, 2, 6, 0), none, some (.iload 4, 2, 4, 0), none, some (.iload 5, 2, 5, 0), none, some (.if_icmp .eq 21, 3, 96, 0), none, none, some (.iload 6, 2, 6, 0), none, some (.iload_n 2, 1, 2, 0), some (.if_icmp .le 15, 3, 96, 0), none, none, some (.iload 6, 2, 6, 0), none, some (.istore_n 2, 1, 2, 0), some (.bipush 10, 2, 10, 0), none, some (.iload 4, 2, 4, 0), none, some (.imul, 1, 0, 0), some (.iload 5, 2, 5, 0), none, some (.iadd, 1, 0, 0), some (.istore_n 3, 1, 3, 0)], [some (.iinc 5 1, 3, 5, 1), none, none, some (.goto (-65), 3, 34, 0), none, none, some (.iinc 4 1, 3, 4, 1), none, none, some (.goto (-86), 3, 19, 0), none, none, some (.iload_n 1, 1, 1, 0), some (.ifCond .eq 9, 3, 118, 0), none, none, some (.iload_n 3, 1, 3, 0), some (.bipush (-2), 2, 4294967294, 0), none, some (.if_icmp .ne 7, 3, 122, 0), none, none, some (.iload_n 3, 1, 3, 0), some (.goto 4, 3, 123, 0), none, none, some (.iload_n 2, 1, 2, 0), some (.ireturn, 1, 0, 0)]]
def hm_m116 : hc_M := (⟨"HeardNext", "carryBest", "(I)I"⟩, prog_1_method_48_code, 7, (some (.int)), 9, 1, hm_t116)
def hm_t117 : hc_K := [[some (.aload_n 0, 1, 0, 0), some (.iload_n 1, 1, 1, 0), some (.invokevirtual 128, 3, 76, 0), none, none, some (.ifCond .eq 14, 3, 19, 0), none, none, some (.aload_n 0, 1, 0, 0), some (.getfield 39, 3, 9, 6), none, none, some (.iload_n 1, 1, 1, 0), some (.invokevirtual 245, 3, 21, 0), none, none, some (.goto 4, 3, 20, 0), none, none, some (.iconst (-1), 1, 4294967295, 0), some (.ireturn, 1, 0, 0)]]
def hm_m117 : hc_M := (⟨"HeardNext", "needs", "(I)I"⟩, prog_1_method_49_code, 2, (some (.int)), 9, 1, hm_t117)
def hm_t118 : hc_K := [[some (.iload_n 1, 1, 1, 0), some (.iconst 0, 1, 0, 0), some (.iconst 1, 1, 1, 0), some (.invokestatic 206, 3, 78, 2), none, none, some (.ifCond .ne 5, 3, 11, 0), none, none, some (.iconst (-1), 1, 4294967295, 0), some (.ireturn, 1, 0, 0), some (.aload_n 0, 1, 0, 0), some (.iconst 0, 1, 0, 0), some (.iconst 0, 1, 0, 0), some (.invokevirtual 274, 3, 119, 0), none, none, some (.istore_n 2, 1, 2, 0), some (.bipush (-2), 2, 4294967294, 0), none, some (.istore_n 3, 1, 3, 0), some (.iconst 0, 1, 0, 0), some (.istore 4, 2, 4, 0), none, some (.iload 4, 2, 4, 0), none, some (.aload_n 0, 1, 0, 0), some (.getfield 20, 3, 9, 3), none, none, some (.getfield 125, 3, 5, 4)], [none, some (.if_icmp .ge 72, 3, 105, 0), none, none, some (.iload 4, 2, 4, 0), none, some (.iconst 1, 1, 1, 0), some (.iadd, 1, 0, 0), some (.istore 5, 2, 5, 0), none, some (.iload 5, 2, 5, 0), none, some (.aload_n 0, 1, 0, 0), some (.getfield 20, 3, 9, 3), none, none, some (.getfield 125, 3, 5, 4), none, none, some (.if_icmp .ge 48, 3, 99, 0), none, none, some (.iload_n 2, 1, 2, 0), some (.aload_n 0, 1, 0, 0), some (.getfield 20, 3, 9, 3), none, none, some (.getfield 125, 3, 5, 4), none, none, some (.if_icmp .ge 37, 3, 99, 0)], [none, some (.aload_n 0, 1, 0, 0), some (.iload 4, 2, 4, 0), none, some (.iload 5, 2, 5, 0), none, some (.invokevirtual 274, 3, 119, 0), none, none, some (.istore 6, 2, 6, 0), none, some (.iload 6, 2, 6, 0), none, some (.iload_n 2, 1, 2, 0), some (.if_icmp .le 15, 3, 93, 0), none, none, some (.iload 6, 2, 6, 0), none, some (.istore_n 2, 1, 2, 0), some (.bipush 10, 2, 10, 0), none, some (.iload 4, 2, 4, 0), none, some (.imul, 1, 0, 0), some (.iload 5, 2, 5, 0), none, some (.iadd, 1, 0, 0), some (.istore_n 3, 1, 3, 0), some (.iinc 5 1, 3, 5, 1)], [some (.goto (-54), 3, 42, 0), none, none, some (.iinc 4 1, 3, 4, 1), none, none, some (.goto (-78), 3, 24, 0), none, none, some (.iload_n 1, 1, 1, 0), some (.ifCond .eq 9, 3, 115, 0), none, none, some (.iload_n 3, 1, 3, 0), some (.bipush (-2), 2, 4294967294, 0), none, some (.if_icmp .ne 7, 3, 119, 0), none, none, some (.iload_n 3, 1, 3, 0), some (.goto 4, 3, 120, 0), none, none, some (.iload_n 2, 1, 2, 0), some (.ireturn, 1, 0, 0)]]
def hm_m118 : hc_M := (⟨"HeardNext", "changeBest", "(I)I"⟩, prog_1_method_50_code, 7, (some (.int)), 9, 1, hm_t118)
def hm_t119 : hc_K := [[some (.aload_n 0, 1, 0, 0), some (.getfield 43, 3, 9, 7), none, none, some (.aload_n 0, 1, 0, 0), some (.getfield 39, 3, 9, 6), none, none, some (.invokevirtual 255, 3, 17, 0), none, none, some (.aload_n 0, 1, 0, 0), some (.getfield 43, 3, 9, 7), none, none, some (.iload_n 1, 1, 1, 0), some (.iload_n 2, 1, 2, 0), some (.invokevirtual 203, 3, 24, 0), none, none, some (.iconst 0, 1, 0, 0), some (.istore_n 3, 1, 3, 0), some (.iload_n 3, 1, 3, 0), some (.bipush 48, 2, 48, 0), none, some (.if_icmp .ge 26, 3, 51, 0), none, none, some (.aload_n 0, 1, 0, 0), some (.getfield 43, 3, 9, 7)], [some (.aload_n 0, 1, 0, 0), some (.getfield 20, 3, 9, 3), none, none, some (.aload_n 0, 1, 0, 0), some (.getfield 66, 3, 9, 11), none, none, some (.iconst 0, 1, 0, 0), some (.iconst 0, 1, 0, 0), some (.invokevirtual 213, 3, 26, 0), none, none, some (.iinc 3 1, 3, 3, 1), none, none, some (.goto (-26), 3, 22, 0), none, none, some (.aload_n 0, 1, 0, 0), some (.getfield 43, 3, 9, 7), none, none, some (.invokevirtual 268, 3, 30, 0), none, none, some (.invokestatic 164, 3, 242, 2), none, none, some (.ireturn, 1, 0, 0)]]
def hm_m119 : hc_M := (⟨"HeardNext", "contentBehindChange", "(II)I"⟩, prog_1_method_51_code, 4, (some (.int)), 9, 2, hm_t119)
def hm_t120 : hc_K := [[some (.aload_n 0, 1, 0, 0), some (.iload_n 1, 1, 1, 0), some (.invokevirtual 128, 3, 76, 0), none, none, some (.ifCond .ne 5, 3, 10, 0), none, none, some (.iconst (-1), 1, 4294967295, 0), some (.ireturn, 1, 0, 0), some (.iconst 0, 1, 0, 0), some (.istore_n 2, 1, 2, 0), some (.iconst 0, 1, 0, 0), some (.istore_n 3, 1, 3, 0), some (.iload_n 3, 1, 3, 0), some (.iload_n 1, 1, 1, 0), some (.if_icmp .gt 23, 3, 39, 0), none, none, some (.aload_n 0, 1, 0, 0), some (.getfield 39, 3, 9, 6), none, none, some (.iload_n 3, 1, 3, 0), some (.invokevirtual 144, 3, 18, 0), none, none, some (.ifCond .ne 6, 3, 33, 0), none, none, some (.iinc 2 1, 3, 2, 1)], [none, some (.iinc 3 1, 3, 3, 1), none, none, some (.goto (-22), 3, 14, 0), none, none, some (.iload_n 2, 1, 2, 0), some (.ireturn, 1, 0, 0)]]
def hm_m120 : hc_M := (⟨"HeardNext", "off", "(I)I"⟩, prog_1_method_52_code, 4, (some (.int)), 9, 1, hm_t120)
def hm_t121 : hc_K := [[some (.aload_n 0, 1, 0, 0), some (.iload_n 1, 1, 1, 0), some (.invokevirtual 128, 3, 76, 0), none, none, some (.ifCond .eq 23, 3, 28, 0), none, none, some (.iload_n 2, 1, 2, 0), some (.iconst 0, 1, 0, 0), some (.bipush 72, 2, 72, 0), none, some (.invokestatic 206, 3, 78, 2), none, none, some (.ifCond .eq 13, 3, 28, 0), none, none, some (.iload_n 3, 1, 3, 0), some (.iconst 1, 1, 1, 0), some (.bipush 20, 2, 20, 0), none, some (.invokestatic 206, 3, 78, 2), none, none, some (.ifCond .ne 5, 3, 30, 0), none, none, some (.iconst (-1), 1, 4294967295, 0), some (.ireturn, 1, 0, 0), some (.iconst 0, 1, 0, 0), some (.istore 4, 2, 4, 0)], [none, some (.iconst 0, 1, 0, 0), some (.istore 5, 2, 5, 0), none, some (.iload 5, 2, 5, 0), none, some (.iload_n 3, 1, 3, 0), some (.if_icmp .ge 39, 3, 78, 0), none, none, some (.aload_n 0, 1, 0, 0), some (.iload_n 2, 1, 2, 0), some (.iconst 1, 1, 1, 0), some (.aload_n 0, 1, 0, 0), some (.getfield 20, 3, 9, 3), none, none, some (.getfield 210, 3, 5, 7), none, none, some (.iload 5, 2, 5, 0), none, some (.iadd, 1, 0, 0), some (.invokevirtual 261, 3, 107, 0), none, none, some (.aload_n 0, 1, 0, 0), some (.getfield 43, 3, 9, 7), none, none, some (.iload_n 1, 1, 1, 0), some (.invokevirtual 245, 3, 21, 0)], [none, none, some (.ifCond .ne 6, 3, 72, 0), none, none, some (.iinc 4 1, 3, 4, 1), none, none, some (.iinc 5 1, 3, 5, 1), none, none, some (.goto (-39), 3, 36, 0), none, none, some (.iload 4, 2, 4, 0), none, some (.ireturn, 1, 0, 0)]]
def hm_m121 : hc_M := (⟨"HeardNext", "year", "(III)I"⟩, prog_1_method_53_code, 6, (some (.int)), 9, 3, hm_t121)
def hm_t122 : hc_K := [[some (.aload_n 0, 1, 0, 0), some (.iload_n 1, 1, 1, 0), some (.invokevirtual 128, 3, 76, 0), none, none, some (.ifCond .eq 10, 3, 15, 0), none, none, some (.iload_n 2, 1, 2, 0), some (.invokestatic 180, 3, 77, 2), none, none, some (.ifCond .ne 5, 3, 17, 0), none, none, some (.iconst (-1), 1, 4294967295, 0), some (.ireturn, 1, 0, 0), some (.aload_n 0, 1, 0, 0), some (.getfield 80, 3, 9, 13), none, none, some (.iload_n 1, 1, 1, 0), some (.iload_n 2, 1, 2, 0), some (.invokevirtual 277, 3, 65, 0), none, none, some (.ireturn, 1, 0, 0)]]
def hm_m122 : hc_M := (⟨"HeardNext", "tell", "(II)I"⟩, prog_1_method_54_code, 3, (some (.int)), 9, 2, hm_t122)
def hm_t123 : hc_K := [[some (.aload_n 0, 1, 0, 0), some (.getfield 80, 3, 9, 13), none, none, some (.getfield 118, 3, 7, 2), none, none, some (.istore_n 1, 1, 1, 0), some (.aload_n 0, 1, 0, 0), some (.getfield 80, 3, 9, 13), none, none, some (.iconst 0, 1, 0, 0), some (.putfield 118, 3, 7, 2), none, none, some (.iload_n 1, 1, 1, 0), some (.ireturn, 1, 0, 0)]]
def hm_m123 : hc_M := (⟨"HeardNext", "forget", "()I"⟩, prog_1_method_55_code, 2, (some (.int)), 9, 0, hm_t123)
def hm_t124 : hc_K := [[some (.iconst 0, 1, 0, 0), some (.istore_n 2, 1, 2, 0), some (.iload_n 2, 1, 2, 0), some (.sipush 256, 3, 256, 0), none, none, some (.if_icmp .ge 16, 3, 22, 0), none, none, some (.aload_n 0, 1, 0, 0), some (.getfield 84, 3, 9, 14), none, none, some (.iload_n 2, 1, 2, 0), some (.iload_n 2, 1, 2, 0), some (.iastore, 1, 0, 0), some (.iinc 2 1, 3, 2, 1), none, none, some (.goto (-17), 3, 2, 0), none, none, some (.sipush 256, 3, 256, 0), none, none, some (.istore_n 2, 1, 2, 0), some (.iconst 0, 1, 0, 0), some (.istore_n 3, 1, 3, 0), some (.iload_n 3, 1, 3, 0), some (.iload_n 1, 1, 1, 0), some (.if_icmp .ge 90, 3, 120, 0)], [none, some (.iload_n 3, 1, 3, 0), some (.bipush 20, 2, 20, 0), none, some (.if_icmp .ge 84, 3, 120, 0), none, none, some (.aload_n 0, 1, 0, 0), some (.aload_n 0, 1, 0, 0), some (.getfield 80, 3, 9, 13), none, none, some (.getfield 280, 3, 7, 0), none, none, some (.iload_n 3, 1, 3, 0), some (.iaload, 1, 0, 0), some (.invokevirtual 228, 3, 89, 0), none, none, some (.astore 4, 2, 4, 0), none, some (.iconst 0, 1, 0, 0), some (.istore 5, 2, 5, 0), none, some (.iconst 0, 1, 0, 0), some (.istore 6, 2, 6, 0), none, some (.iload 6, 2, 6, 0), none, some (.iload_n 2, 1, 2, 0), some (.if_icmp .ge 48, 3, 111, 0)], [none, none, some (.aload 4, 2, 4, 0), none, some (.aload_n 0, 1, 0, 0), some (.getfield 84, 3, 9, 14), none, none, some (.iload 6, 2, 6, 0), none, some (.iaload, 1, 0, 0), some (.iaload, 1, 0, 0), some (.aload_n 0, 1, 0, 0), some (.getfield 80, 3, 9, 13), none, none, some (.getfield 283, 3, 7, 1), none, none, some (.iload_n 3, 1, 3, 0), some (.iaload, 1, 0, 0), some (.if_icmp .ne 20, 3, 105, 0), none, none, some (.aload_n 0, 1, 0, 0), some (.getfield 84, 3, 9, 14), none, none, some (.iload 5, 2, 5, 0), none, some (.aload_n 0, 1, 0, 0), some (.getfield 84, 3, 9, 14)], [none, none, some (.iload 6, 2, 6, 0), none, some (.iaload, 1, 0, 0), some (.iastore, 1, 0, 0), some (.iinc 5 1, 3, 5, 1), none, none, some (.iinc 6 1, 3, 6, 1), none, none, some (.goto (-48), 3, 60, 0), none, none, some (.iload 5, 2, 5, 0), none, some (.istore_n 2, 1, 2, 0), some (.iinc 3 1, 3, 3, 1), none, none, some (.goto (-89), 3, 28, 0), none, none, some (.iload_n 2, 1, 2, 0), some (.ireturn, 1, 0, 0)]]
def hm_m124 : hc_M := (⟨"HeardNext", "takeLeft", "(I)I"⟩, prog_1_method_56_code, 7, (some (.int)), 9, 1, hm_t124)
def hm_t125 : hc_K := [[some (.iload_n 1, 1, 1, 0), some (.iconst 0, 1, 0, 0), some (.aload_n 0, 1, 0, 0), some (.getfield 80, 3, 9, 13), none, none, some (.getfield 118, 3, 7, 2), none, none, some (.invokestatic 206, 3, 78, 2), none, none, some (.ifCond .eq 12, 3, 24, 0), none, none, some (.iload_n 2, 1, 2, 0), some (.iconst 0, 1, 0, 0), some (.iconst 3, 1, 3, 0), some (.invokestatic 206, 3, 78, 2), none, none, some (.ifCond .ne 5, 3, 26, 0), none, none, some (.iconst (-1), 1, 4294967295, 0), some (.ireturn, 1, 0, 0), some (.aload_n 0, 1, 0, 0), some (.iload_n 1, 1, 1, 0), some (.invokevirtual 286, 3, 124, 0), none, none, some (.istore_n 3, 1, 3, 0)], [some (.iload_n 2, 1, 2, 0), some (.ifCond .ne 5, 3, 38, 0), none, none, some (.iload_n 3, 1, 3, 0), some (.ireturn, 1, 0, 0), some (.iload_n 3, 1, 3, 0), some (.ifCond .ne 6, 3, 45, 0), none, none, some (.bipush (-2), 2, 4294967294, 0), none, some (.ireturn, 1, 0, 0), some (.sipush 255, 3, 255, 0), none, none, some (.istore 4, 2, 4, 0), none, some (.iconst 0, 1, 0, 0), some (.istore 5, 2, 5, 0), none, some (.iconst 0, 1, 0, 0), some (.istore 6, 2, 6, 0), none, some (.iload 6, 2, 6, 0), none, some (.iload_n 3, 1, 3, 0), some (.if_icmp .ge 33, 3, 92, 0), none, none, some (.iload 4, 2, 4, 0)], [some (.aload_n 0, 1, 0, 0), some (.getfield 84, 3, 9, 14), none, none, some (.iload 6, 2, 6, 0), none, some (.iaload, 1, 0, 0), some (.iand, 1, 0, 0), some (.istore 4, 2, 4, 0), none, some (.iload 5, 2, 5, 0), none, some (.aload_n 0, 1, 0, 0), some (.getfield 84, 3, 9, 14), none, none, some (.iload 6, 2, 6, 0), none, some (.iaload, 1, 0, 0), some (.ior, 1, 0, 0), some (.istore 5, 2, 5, 0), none, some (.iinc 6 1, 3, 6, 1), none, none, some (.goto (-33), 3, 56, 0), none, none, some (.iload_n 2, 1, 2, 0), some (.iconst 1, 1, 1, 0), some (.if_icmp .ne 10, 3, 104, 0)], [none, some (.aload_n 0, 1, 0, 0), some (.getfield 84, 3, 9, 14), none, none, some (.iconst 0, 1, 0, 0), some (.iaload, 1, 0, 0), some (.ireturn, 1, 0, 0), some (.iload_n 2, 1, 2, 0), some (.iconst 2, 1, 2, 0), some (.if_icmp .ne 8, 3, 114, 0), none, none, some (.iload 4, 2, 4, 0), none, some (.goto 11, 3, 122, 0), none, none, some (.sipush 255, 3, 255, 0), none, none, some (.iload 5, 2, 5, 0), none, some (.iconst (-1), 1, 4294967295, 0), some (.ixor, 1, 0, 0), some (.iand, 1, 0, 0), some (.ireturn, 1, 0, 0)]]
def hm_m125 : hc_M := (⟨"HeardNext", "sent", "(II)I"⟩, prog_1_method_57_code, 7, (some (.int)), 9, 2, hm_t125)
def hm_t126 : hc_K := [[some (.iload_n 1, 1, 1, 0), some (.iconst 0, 1, 0, 0), some (.aload_n 0, 1, 0, 0), some (.getfield 80, 3, 9, 13), none, none, some (.getfield 118, 3, 7, 2), none, none, some (.invokestatic 206, 3, 78, 2), none, none, some (.ifCond .ne 5, 3, 17, 0), none, none, some (.iconst (-1), 1, 4294967295, 0), some (.ireturn, 1, 0, 0), some (.aload_n 0, 1, 0, 0), some (.iload_n 1, 1, 1, 0), some (.invokevirtual 286, 3, 124, 0), none, none, some (.istore_n 2, 1, 2, 0), some (.bipush (-2), 2, 4294967294, 0), none, some (.istore_n 3, 1, 3, 0), some (.sipush 257, 3, 257, 0), none, none, some (.istore 4, 2, 4, 0), none, some (.iconst 0, 1, 0, 0)], [some (.istore 5, 2, 5, 0), none, some (.iload 5, 2, 5, 0), none, some (.aload_n 0, 1, 0, 0), some (.getfield 20, 3, 9, 3), none, none, some (.getfield 125, 3, 5, 4), none, none, some (.if_icmp .ge 40, 3, 83, 0), none, none, some (.iload_n 2, 1, 2, 0), some (.ifCond .le 36, 3, 83, 0), none, none, some (.aload_n 0, 1, 0, 0), some (.aload_n 0, 1, 0, 0), some (.iload 5, 2, 5, 0), none, some (.invokevirtual 228, 3, 89, 0), none, none, some (.iload_n 2, 1, 2, 0), some (.invokevirtual 289, 3, 127, 0), none, none, some (.istore 6, 2, 6, 0), none, some (.iload 6, 2, 6, 0)], [none, some (.iload 4, 2, 4, 0), none, some (.if_icmp .ge 10, 3, 77, 0), none, none, some (.iload 6, 2, 6, 0), none, some (.istore 4, 2, 4, 0), none, some (.iload 5, 2, 5, 0), none, some (.istore_n 3, 1, 3, 0), some (.iinc 5 1, 3, 5, 1), none, none, some (.goto (-46), 3, 34, 0), none, none, some (.iload_n 3, 1, 3, 0), some (.ireturn, 1, 0, 0)]]
def hm_m126 : hc_M := (⟨"HeardNext", "listen", "(I)I"⟩, prog_1_method_58_code, 7, (some (.int)), 9, 1, hm_t126)
def hm_t127 : hc_K := [[some (.aload_n 0, 1, 0, 0), some (.getfield 88, 3, 9, 15), none, none, some (.iconst 0, 1, 0, 0), some (.invokestatic 232, 3, 246, 2), none, none, some (.iconst 0, 1, 0, 0), some (.istore_n 3, 1, 3, 0), some (.iconst 0, 1, 0, 0), some (.istore 4, 2, 4, 0), none, some (.iload 4, 2, 4, 0), none, some (.iload_n 2, 1, 2, 0), some (.if_icmp .ge 47, 3, 63, 0), none, none, some (.aload_n 1, 1, 1, 0), some (.aload_n 0, 1, 0, 0), some (.getfield 84, 3, 9, 14), none, none, some (.iload 4, 2, 4, 0), none, some (.iaload, 1, 0, 0), some (.iaload, 1, 0, 0), some (.sipush 255, 3, 255, 0), none, none, some (.iand, 1, 0, 0)], [some (.istore 5, 2, 5, 0), none, some (.aload_n 0, 1, 0, 0), some (.getfield 88, 3, 9, 15), none, none, some (.iload 5, 2, 5, 0), none, some (.dup2, 1, 0, 0), some (.iaload, 1, 0, 0), some (.iconst 1, 1, 1, 0), some (.iadd, 1, 0, 0), some (.iastore, 1, 0, 0), some (.iload_n 3, 1, 3, 0), some (.aload_n 0, 1, 0, 0), some (.getfield 88, 3, 9, 15), none, none, some (.iload 5, 2, 5, 0), none, some (.iaload, 1, 0, 0), some (.invokestatic 292, 3, 244, 2), none, none, some (.istore_n 3, 1, 3, 0), some (.iinc 4 1, 3, 4, 1), none, none, some (.goto (-47), 3, 13, 0), none, none, some (.iload_n 3, 1, 3, 0)], [some (.ireturn, 1, 0, 0)]]
def hm_m127 : hc_M := (⟨"HeardNext", "mostAlike", "([II)I"⟩, prog_1_method_59_code, 6, (some (.int)), 9, 2, hm_t127)
def hm_t128 : hc_K := [[some (.iload_n 1, 1, 1, 0), some (.iconst 0, 1, 0, 0), some (.iconst 2, 1, 2, 0), some (.invokestatic 206, 3, 78, 2), none, none, some (.ifCond .ne 5, 3, 11, 0), none, none, some (.iconst 0, 1, 0, 0), some (.ireturn, 1, 0, 0), some (.aload_n 0, 1, 0, 0), some (.getfield 53, 3, 9, 9), none, none, some (.iload_n 1, 1, 1, 0), some (.aaload, 1, 0, 0), some (.aload_n 0, 1, 0, 0), some (.getfield 39, 3, 9, 6), none, none, some (.invokevirtual 255, 3, 17, 0), none, none, some (.aload_n 0, 1, 0, 0), some (.dup, 1, 0, 0), some (.getfield 119, 3, 9, 10), none, none, some (.iconst 1, 1, 1, 0), some (.iload_n 1, 1, 1, 0), some (.ishl, 1, 0, 0)], [some (.ior, 1, 0, 0), some (.putfield 119, 3, 9, 10), none, none, some (.iconst 1, 1, 1, 0), some (.ireturn, 1, 0, 0)]]
def hm_m128 : hc_M := (⟨"HeardNext", "hold", "(I)Z"⟩, prog_1_method_60_code, 2, (some (.boolean)), 9, 1, hm_t128)
def hm_t129 : hc_K := [[some (.iload_n 1, 1, 1, 0), some (.iconst 0, 1, 0, 0), some (.iconst 2, 1, 2, 0), some (.invokestatic 206, 3, 78, 2), none, none, some (.ifCond .eq 14, 3, 20, 0), none, none, some (.aload_n 0, 1, 0, 0), some (.getfield 119, 3, 9, 10), none, none, some (.iload_n 1, 1, 1, 0), some (.ishr, 1, 0, 0), some (.iconst 1, 1, 1, 0), some (.iand, 1, 0, 0), some (.ifCond .ne 5, 3, 22, 0), none, none, some (.iconst 0, 1, 0, 0), some (.ireturn, 1, 0, 0), some (.aload_n 0, 1, 0, 0), some (.getfield 39, 3, 9, 6), none, none, some (.aload_n 0, 1, 0, 0), some (.getfield 53, 3, 9, 9), none, none, some (.iload_n 1, 1, 1, 0), some (.aaload, 1, 0, 0)], [some (.invokevirtual 255, 3, 17, 0), none, none, some (.aload_n 0, 1, 0, 0), some (.getfield 49, 3, 9, 8), none, none, some (.iconst 0, 1, 0, 0), some (.putfield 115, 3, 3, 2), none, none, some (.aload_n 0, 1, 0, 0), some (.getfield 73, 3, 9, 12), none, none, some (.iconst 0, 1, 0, 0), some (.putfield 122, 3, 8, 1), none, none, some (.iconst 1, 1, 1, 0), some (.ireturn, 1, 0, 0)]]
def hm_m129 : hc_M := (⟨"HeardNext", "restore", "(I)Z"⟩, prog_1_method_61_code, 2, (some (.boolean)), 9, 1, hm_t129)
def hm_t130 : hc_K := [[some (.iload_n 1, 1, 1, 0), some (.tableswitch 253 0 17 #[87, 95, 103, 111, 122, 134, 142, 150, 158, 166, 171, 179, 187, 195, 203, 215, 233, 245], 87, 0, 0)], [], [none, none, none, none, none, none, none, none, none, none, none, none, none, none, none, none, none, none, none, none, none, none, none, none, some (.aload_n 0, 1, 0, 0), some (.getfield 20, 3, 9, 3), none, none, some (.getfield 125, 3, 5, 4), none, none, some (.ireturn, 1, 0, 0)], [some (.aload_n 0, 1, 0, 0), some (.getfield 20, 3, 9, 3), none, none, some (.getfield 297, 3, 5, 5), none, none, some (.ireturn, 1, 0, 0), some (.aload_n 0, 1, 0, 0), some (.getfield 39, 3, 9, 6), none, none, some (.getfield 157, 3, 2, 7), none, none, some (.ireturn, 1, 0, 0), some (.aload_n 0, 1, 0, 0), some (.getfield 39, 3, 9, 6), none, none, some (.getfield 157, 3, 2, 7), none, none, some (.bipush 24, 2, 24, 0), none, some (.irem, 1, 0, 0), some (.ireturn, 1, 0, 0), some (.aload_n 0, 1, 0, 0), some (.getfield 39, 3, 9, 6), none, none, some (.aload_n 0, 1, 0, 0)], [some (.getfield 20, 3, 9, 3), none, none, some (.invokevirtual 300, 3, 22, 0), none, none, some (.ireturn, 1, 0, 0), some (.aload_n 0, 1, 0, 0), some (.getfield 39, 3, 9, 6), none, none, some (.getfield 193, 3, 2, 9), none, none, some (.ireturn, 1, 0, 0), some (.aload_n 0, 1, 0, 0), some (.getfield 39, 3, 9, 6), none, none, some (.invokevirtual 271, 3, 29, 0), none, none, some (.ireturn, 1, 0, 0), some (.aload_n 0, 1, 0, 0), some (.getfield 39, 3, 9, 6), none, none, some (.invokevirtual 268, 3, 30, 0), none, none, some (.ireturn, 1, 0, 0), some (.aload_n 0, 1, 0, 0)], [some (.getfield 39, 3, 9, 6), none, none, some (.invokevirtual 265, 3, 31, 0), none, none, some (.ireturn, 1, 0, 0), some (.aload_n 0, 1, 0, 0), some (.getfield 100, 3, 9, 1), none, none, some (.ireturn, 1, 0, 0), some (.aload_n 0, 1, 0, 0), some (.getfield 49, 3, 9, 8), none, none, some (.getfield 115, 3, 3, 2), none, none, some (.ireturn, 1, 0, 0), some (.aload_n 0, 1, 0, 0), some (.getfield 80, 3, 9, 13), none, none, some (.getfield 118, 3, 7, 2), none, none, some (.ireturn, 1, 0, 0), some (.aload_n 0, 1, 0, 0), some (.getfield 119, 3, 9, 10)], [some (.invokestatic 164, 3, 242, 2), none, none, some (.ireturn, 1, 0, 0), some (.aload_n 0, 1, 0, 0), some (.getfield 39, 3, 9, 6), none, none, some (.getfield 304, 3, 2, 10), none, none, some (.ireturn, 1, 0, 0), some (.aload_n 0, 1, 0, 0), some (.aload_n 0, 1, 0, 0), some (.getfield 39, 3, 9, 6), none, none, some (.getfield 141, 3, 2, 2), none, none, some (.invokevirtual 307, 3, 131, 0), none, none, some (.ireturn, 1, 0, 0), some (.aload_n 0, 1, 0, 0), some (.getfield 39, 3, 9, 6), none, none, some (.getfield 193, 3, 2, 9), none, none, some (.aload_n 0, 1, 0, 0)], [some (.getfield 39, 3, 9, 6), none, none, some (.invokevirtual 271, 3, 29, 0), none, none, some (.iconst (-1), 1, 4294967295, 0), some (.ixor, 1, 0, 0), some (.iand, 1, 0, 0), some (.ireturn, 1, 0, 0), some (.aload_n 0, 1, 0, 0), some (.aload_n 0, 1, 0, 0), some (.getfield 39, 3, 9, 6), none, none, some (.getfield 138, 3, 2, 4), none, none, some (.invokevirtual 307, 3, 131, 0), none, none, some (.ireturn, 1, 0, 0), some (.aload_n 0, 1, 0, 0), some (.getfield 39, 3, 9, 6), none, none, some (.invokevirtual 311, 3, 32, 0), none, none, some (.ireturn, 1, 0, 0), some (.iconst (-1), 1, 4294967295, 0), some (.ireturn, 1, 0, 0)]]
def hm_m130 : hc_M := (⟨"HeardNext", "count", "(I)I"⟩, prog_1_method_62_code, 2, (some (.int)), 9, 1, hm_t130)
def hm_t131 : hc_K := [[some (.iconst 0, 1, 0, 0), some (.istore_n 2, 1, 2, 0), some (.iconst 0, 1, 0, 0), some (.istore_n 3, 1, 3, 0), some (.iload_n 3, 1, 3, 0), some (.aload_n 0, 1, 0, 0), some (.getfield 20, 3, 9, 3), none, none, some (.getfield 125, 3, 5, 4), none, none, some (.if_icmp .ge 18, 3, 30, 0), none, none, some (.iload_n 2, 1, 2, 0), some (.aload_n 1, 1, 1, 0), some (.iload_n 3, 1, 3, 0), some (.iaload, 1, 0, 0), some (.invokestatic 164, 3, 242, 2), none, none, some (.iadd, 1, 0, 0), some (.istore_n 2, 1, 2, 0), some (.iinc 3 1, 3, 3, 1), none, none, some (.goto (-23), 3, 4, 0), none, none, some (.iload_n 2, 1, 2, 0), some (.ireturn, 1, 0, 0)]]
def hm_m131 : hc_M := (⟨"HeardNext", "partsOf", "([I)I"⟩, prog_1_method_63_code, 4, (some (.int)), 9, 1, hm_t131)
def hm_t132 : hc_K := [[some (.aload_n 0, 1, 0, 0), some (.invokespecial 7, 3, 0, 9), none, none, some (.aload_n 0, 1, 0, 0), some (.sipush 2000, 3, 2000, 0), none, none, some (.newarray .byte, 2, 0, 0), none, some (.putfield 13, 3, 10, 1), none, none, some (.aload_n 0, 1, 0, 0), some (.sipush 2000, 3, 2000, 0), none, none, some (.newarray .byte, 2, 0, 0), none, some (.putfield 17, 3, 10, 3), none, none, some (.aload_n 0, 1, 0, 0), some (.sipush 403, 3, 403, 0), none, none, some (.newarray .int, 2, 1, 0), none, some (.putfield 20, 3, 10, 5), none, none, some (.aload_n 0, 1, 0, 0)], [some (.sipush 403, 3, 403, 0), none, none, some (.newarray .int, 2, 1, 0), none, some (.putfield 24, 3, 10, 6), none, none, some (.aload_n 0, 1, 0, 0), some (.sipush 403, 3, 403, 0), none, none, some (.newarray .int, 2, 1, 0), none, some (.putfield 27, 3, 10, 7), none, none, some (.aload_n 0, 1, 0, 0), some (.sipush 403, 3, 403, 0), none, none, some (.newarray .long, 2, 2, 0), none, some (.putfield 30, 3, 10, 8), none, none, some (.aload_n 0, 1, 0, 0), some (.bipush 20, 2, 20, 0), none, some (.newarray .long, 2, 2, 0), none, some (.putfield 34, 3, 10, 9)], [none, none, some (.aload_n 0, 1, 0, 0), some (.iconst (-1), 1, 4294967295, 0), some (.putfield 37, 3, 10, 17), none, none, some (.aload_n 0, 1, 0, 0), some (.bipush 10, 2, 10, 0), none, some (.newarray .long, 2, 2, 0), none, some (.putfield 40, 3, 10, 21), none, none, some (.aload_n 0, 1, 0, 0), some (.iconst 2, 1, 2, 0), some (.newarray .int, 2, 1, 0), none, some (.putfield 43, 3, 10, 22), none, none, some (.aload_n 0, 1, 0, 0), some (.bipush 20, 2, 20, 0), none, some (.newarray .int, 2, 1, 0), none, some (.putfield 46, 3, 10, 23), none, none, some (.aload_n 0, 1, 0, 0), some (.bipush 20, 2, 20, 0)], [none, some (.newarray .int, 2, 1, 0), none, some (.putfield 49, 3, 10, 24), none, none, some (.aload_n 0, 1, 0, 0), some (.iconst 2, 1, 2, 0), some (.newarray .int, 2, 1, 0), none, some (.putfield 52, 3, 10, 25), none, none, some (.aload_n 0, 1, 0, 0), some (.bipush 48, 2, 48, 0), none, some (.newarray .int, 2, 1, 0), none, some (.putfield 55, 3, 10, 26), none, none, some (.aload_n 0, 1, 0, 0), some (.iconst 2, 1, 2, 0), some (.newarray .int, 2, 1, 0), none, some (.putfield 58, 3, 10, 27), none, none, some (.aload_n 0, 1, 0, 0), some (.iconst 2, 1, 2, 0), some (.newarray .int, 2, 1, 0)], [some (.putfield 61, 3, 10, 28), none, none, some (.aload_n 0, 1, 0, 0), some (.bipush 8, 2, 8, 0), none, some (.newarray .int, 2, 1, 0), none, some (.putfield 64, 3, 10, 29), none, none, some (.aload_n 0, 1, 0, 0), some (.bipush 8, 2, 8, 0), none, some (.newarray .int, 2, 1, 0), none, some (.putfield 67, 3, 10, 30), none, none, some (.aload_n 0, 1, 0, 0), some (.sipush 260, 3, 260, 0), none, none, some (.newarray .boolean, 2, 3, 0), none, some (.putfield 70, 3, 10, 32), none, none, some (.aload_n 0, 1, 0, 0), some (.sipush 260, 3, 260, 0)], [some (.newarray .int, 2, 1, 0), none, some (.putfield 74, 3, 10, 33), none, none, some (.aload_n 0, 1, 0, 0), some (.sipush 260, 3, 260, 0), none, none, some (.newarray .int, 2, 1, 0), none, some (.putfield 77, 3, 10, 34), none, none, some (.aload_n 0, 1, 0, 0), some (.sipush 260, 3, 260, 0), none, none, some (.newarray .int, 2, 1, 0), none, some (.putfield 80, 3, 10, 35), none, none, some (.aload_n 0, 1, 0, 0), some (.sipush 260, 3, 260, 0), none, none, some (.newarray .int, 2, 1, 0), none, some (.putfield 83, 3, 10, 36)], [some (.aload_n 0, 1, 0, 0), some (.sipush 840, 3, 840, 0), none, none, some (.newarray .int, 2, 1, 0), none, some (.putfield 86, 3, 10, 38), none, none, some (.aload_n 0, 1, 0, 0), some (.sipush 840, 3, 840, 0), none, none, some (.newarray .int, 2, 1, 0), none, some (.putfield 89, 3, 10, 39), none, none, some (.aload_n 0, 1, 0, 0), some (.bipush 64, 2, 64, 0), none, some (.newarray .int, 2, 1, 0), none, some (.putfield 92, 3, 10, 40), none, none, some (.aload_n 0, 1, 0, 0), some (.bipush 9, 2, 9, 0), none, some (.newarray .int, 2, 1, 0), none, some (.putfield 95, 3, 10, 42)], [none, none, some (.aload_n 0, 1, 0, 0), some (.sipush 400, 3, 400, 0), none, none, some (.newarray .int, 2, 1, 0), none, some (.putfield 98, 3, 10, 43), none, none, some (.aload_n 0, 1, 0, 0), some (.bipush 73, 2, 73, 0), none, some (.newarray .int, 2, 1, 0), none, some (.putfield 101, 3, 10, 45), none, none, some (.aload_n 0, 1, 0, 0), some (.bipush 73, 2, 73, 0), none, some (.newarray .int, 2, 1, 0), none, some (.putfield 104, 3, 10, 46), none, none, some (.aload_n 0, 1, 0, 0), some (.bipush 10, 2, 10, 0), none, some (.newarray .int, 2, 1, 0)], [some (.putfield 107, 3, 10, 49), none, none, some (.aload_n 0, 1, 0, 0), some (.bipush 10, 2, 10, 0), none, some (.newarray .boolean, 2, 3, 0), none, some (.putfield 110, 3, 10, 50), none, none, some (.aload_n 0, 1, 0, 0), some (.sipush 2920, 3, 2920, 0), none, none, some (.newarray .int, 2, 1, 0), none, some (.putfield 113, 3, 10, 52), none, none, some (.aload_n 0, 1, 0, 0), some (.sipush 256, 3, 256, 0), none, none, some (.newarray .int, 2, 1, 0), none, some (.putfield 116, 3, 10, 53), none, none, some (.aload_n 0, 1, 0, 0), some (.sipush 256, 3, 256, 0)], [none, some (.newarray .boolean, 2, 3, 0), none, some (.putfield 119, 3, 10, 54), none, none, some (.aload_n 0, 1, 0, 0), some (.sipush 256, 3, 256, 0), none, none, some (.newarray .int, 2, 1, 0), none, some (.putfield 122, 3, 10, 55), none, none, some (.aload_n 0, 1, 0, 0), some (.bipush 24, 2, 24, 0), none, some (.newarray .int, 2, 1, 0), none, some (.putfield 125, 3, 10, 56), none, none, some (.aload_n 0, 1, 0, 0), some (.iconst 3, 1, 3, 0), some (.newarray .int, 2, 1, 0), none, some (.putfield 128, 3, 10, 57), none, none, some (.aload_n 0, 1, 0, 0), some (.bipush 10, 2, 10, 0)], [none, some (.newarray .int, 2, 1, 0), none, some (.putfield 131, 3, 10, 58), none, none, some (.aload_n 0, 1, 0, 0), some (.bipush 20, 2, 20, 0), none, some (.newarray .int, 2, 1, 0), none, some (.putfield 134, 3, 10, 60), none, none, some (.aload_n 0, 1, 0, 0), some (.bipush 20, 2, 20, 0), none, some (.newarray .int, 2, 1, 0), none, some (.putfield 137, 3, 10, 61), none, none, some (.aload_n 0, 1, 0, 0), some (.iconst 3, 1, 3, 0), some (.newarray .boolean, 2, 3, 0), none, some (.putfield 140, 3, 10, 62), none, none, some (.aload_n 0, 1, 0, 0), some (.sipush 219, 3, 219, 0)], [none, some (.newarray .int, 2, 1, 0), none, some (.putfield 143, 3, 10, 63), none, none, some (.aload_n 0, 1, 0, 0), some (.iconst 0, 1, 0, 0), some (.invokevirtual 146, 3, 149, 0), none, none, some (.aload_n 0, 1, 0, 0), some (.iconst 1, 1, 1, 0), some (.invokevirtual 146, 3, 149, 0), none, none, some (.aload_n 0, 1, 0, 0), some (.getfield 34, 3, 10, 9), none, none, some (.iconst 0, 1, 0, 0), some (.bipush 104, 2, 104, 0), none, some (.bipush 111, 2, 111, 0), none, some (.bipush 117, 2, 117, 0), none, some (.bipush 115, 2, 115, 0), none, some (.bipush 101, 2, 101, 0), none, some (.iconst 0, 1, 0, 0)], [some (.iconst 0, 1, 0, 0), some (.invokestatic 150, 3, 140, 2), none, none, some (.lastore, 1, 0, 0), some (.aload_n 0, 1, 0, 0), some (.getfield 34, 3, 10, 9), none, none, some (.iconst 1, 1, 1, 0), some (.bipush 115, 2, 115, 0), none, some (.bipush 101, 2, 101, 0), none, some (.bipush 110, 2, 110, 0), none, some (.bipush 100, 2, 100, 0), none, some (.bipush 115, 2, 115, 0), none, some (.iconst 0, 1, 0, 0), some (.iconst 0, 1, 0, 0), some (.invokestatic 150, 3, 140, 2), none, none, some (.lastore, 1, 0, 0), some (.aload_n 0, 1, 0, 0), some (.getfield 34, 3, 10, 9), none, none, some (.iconst 2, 1, 2, 0), some (.bipush 107, 2, 107, 0)], [none, some (.bipush 101, 2, 101, 0), none, some (.bipush 101, 2, 101, 0), none, some (.bipush 112, 2, 112, 0), none, some (.bipush 115, 2, 115, 0), none, some (.iconst 0, 1, 0, 0), some (.iconst 0, 1, 0, 0), some (.invokestatic 150, 3, 140, 2), none, none, some (.lastore, 1, 0, 0), some (.aload_n 0, 1, 0, 0), some (.getfield 34, 3, 10, 9), none, none, some (.iconst 3, 1, 3, 0), some (.bipush 116, 2, 116, 0), none, some (.bipush 117, 2, 117, 0), none, some (.bipush 114, 2, 114, 0), none, some (.bipush 110, 2, 110, 0), none, some (.bipush 115, 2, 115, 0), none, some (.iconst 0, 1, 0, 0), some (.iconst 0, 1, 0, 0)], [some (.invokestatic 150, 3, 140, 2), none, none, some (.lastore, 1, 0, 0), some (.aload_n 0, 1, 0, 0), some (.getfield 34, 3, 10, 9), none, none, some (.iconst 4, 1, 4, 0), some (.bipush 104, 2, 104, 0), none, some (.bipush 117, 2, 117, 0), none, some (.bipush 109, 2, 109, 0), none, some (.bipush 115, 2, 115, 0), none, some (.iconst 0, 1, 0, 0), some (.iconst 0, 1, 0, 0), some (.iconst 0, 1, 0, 0), some (.invokestatic 150, 3, 140, 2), none, none, some (.lastore, 1, 0, 0), some (.aload_n 0, 1, 0, 0), some (.getfield 34, 3, 10, 9), none, none, some (.iconst 5, 1, 5, 0), some (.bipush 100, 2, 100, 0), none, some (.bipush 105, 2, 105, 0)], [none, some (.bipush 101, 2, 101, 0), none, some (.bipush 115, 2, 115, 0), none, some (.iconst 0, 1, 0, 0), some (.iconst 0, 1, 0, 0), some (.iconst 0, 1, 0, 0), some (.invokestatic 150, 3, 140, 2), none, none, some (.lastore, 1, 0, 0), some (.aload_n 0, 1, 0, 0), some (.getfield 34, 3, 10, 9), none, none, some (.bipush 6, 2, 6, 0), none, some (.bipush 103, 2, 103, 0), none, some (.bipush 114, 2, 114, 0), none, some (.bipush 105, 2, 105, 0), none, some (.bipush 101, 2, 101, 0), none, some (.bipush 102, 2, 102, 0), none, some (.iconst 0, 1, 0, 0), some (.iconst 0, 1, 0, 0), some (.invokestatic 150, 3, 140, 2)], [none, some (.lastore, 1, 0, 0), some (.aload_n 0, 1, 0, 0), some (.getfield 34, 3, 10, 9), none, none, some (.bipush 7, 2, 7, 0), none, some (.bipush 115, 2, 115, 0), none, some (.bipush 101, 2, 101, 0), none, some (.bipush 101, 2, 101, 0), none, some (.bipush 100, 2, 100, 0), none, some (.iconst 0, 1, 0, 0), some (.iconst 0, 1, 0, 0), some (.iconst 0, 1, 0, 0), some (.invokestatic 150, 3, 140, 2), none, none, some (.lastore, 1, 0, 0), some (.aload_n 0, 1, 0, 0), some (.getfield 34, 3, 10, 9), none, none, some (.bipush 8, 2, 8, 0), none, some (.bipush 105, 2, 105, 0), none, some (.bipush 102, 2, 102, 0)], [none, some (.iconst 0, 1, 0, 0), some (.iconst 0, 1, 0, 0), some (.iconst 0, 1, 0, 0), some (.iconst 0, 1, 0, 0), some (.iconst 0, 1, 0, 0), some (.invokestatic 150, 3, 140, 2), none, none, some (.lastore, 1, 0, 0), some (.aload_n 0, 1, 0, 0), some (.getfield 34, 3, 10, 9), none, none, some (.bipush 9, 2, 9, 0), none, some (.bipush 116, 2, 116, 0), none, some (.bipush 104, 2, 104, 0), none, some (.bipush 101, 2, 101, 0), none, some (.bipush 110, 2, 110, 0), none, some (.iconst 0, 1, 0, 0), some (.iconst 0, 1, 0, 0), some (.iconst 0, 1, 0, 0), some (.invokestatic 150, 3, 140, 2), none, none, some (.lastore, 1, 0, 0), some (.aload_n 0, 1, 0, 0)], [some (.getfield 34, 3, 10, 9), none, none, some (.bipush 10, 2, 10, 0), none, some (.bipush 101, 2, 101, 0), none, some (.bipush 108, 2, 108, 0), none, some (.bipush 115, 2, 115, 0), none, some (.bipush 101, 2, 101, 0), none, some (.iconst 0, 1, 0, 0), some (.iconst 0, 1, 0, 0), some (.iconst 0, 1, 0, 0), some (.invokestatic 150, 3, 140, 2), none, none, some (.lastore, 1, 0, 0), some (.aload_n 0, 1, 0, 0), some (.getfield 34, 3, 10, 9), none, none, some (.bipush 11, 2, 11, 0), none, some (.bipush 100, 2, 100, 0), none, some (.bipush 111, 2, 111, 0), none, some (.bipush 111, 2, 111, 0)], [some (.bipush 114, 2, 114, 0), none, some (.iconst 0, 1, 0, 0), some (.iconst 0, 1, 0, 0), some (.iconst 0, 1, 0, 0), some (.invokestatic 150, 3, 140, 2), none, none, some (.lastore, 1, 0, 0), some (.aload_n 0, 1, 0, 0), some (.getfield 34, 3, 10, 9), none, none, some (.bipush 12, 2, 12, 0), none, some (.bipush 104, 2, 104, 0), none, some (.bipush 111, 2, 111, 0), none, some (.bipush 117, 2, 117, 0), none, some (.bipush 114, 2, 114, 0), none, some (.iconst 0, 1, 0, 0), some (.iconst 0, 1, 0, 0), some (.iconst 0, 1, 0, 0), some (.invokestatic 150, 3, 140, 2), none, none, some (.lastore, 1, 0, 0), some (.aload_n 0, 1, 0, 0), some (.getfield 34, 3, 10, 9)], [none, none, some (.bipush 13, 2, 13, 0), none, some (.bipush 100, 2, 100, 0), none, some (.bipush 97, 2, 97, 0), none, some (.bipush 121, 2, 121, 0), none, some (.iconst 0, 1, 0, 0), some (.iconst 0, 1, 0, 0), some (.iconst 0, 1, 0, 0), some (.iconst 0, 1, 0, 0), some (.invokestatic 150, 3, 140, 2), none, none, some (.lastore, 1, 0, 0), some (.aload_n 0, 1, 0, 0), some (.getfield 34, 3, 10, 9), none, none, some (.bipush 14, 2, 14, 0), none, some (.bipush 112, 2, 112, 0), none, some (.bipush 97, 2, 97, 0), none, some (.bipush 114, 2, 114, 0), none, some (.bipush 116, 2, 116, 0)], [some (.iconst 0, 1, 0, 0), some (.iconst 0, 1, 0, 0), some (.iconst 0, 1, 0, 0), some (.invokestatic 150, 3, 140, 2), none, none, some (.lastore, 1, 0, 0), some (.aload_n 0, 1, 0, 0), some (.getfield 34, 3, 10, 9), none, none, some (.bipush 15, 2, 15, 0), none, some (.bipush 119, 2, 119, 0), none, some (.bipush 97, 2, 97, 0), none, some (.bipush 110, 2, 110, 0), none, some (.bipush 116, 2, 116, 0), none, some (.bipush 115, 2, 115, 0), none, some (.iconst 0, 1, 0, 0), some (.iconst 0, 1, 0, 0), some (.invokestatic 150, 3, 140, 2), none, none, some (.lastore, 1, 0, 0), some (.aload_n 0, 1, 0, 0), some (.getfield 34, 3, 10, 9)], [none, some (.bipush 16, 2, 16, 0), none, some (.bipush 97, 2, 97, 0), none, some (.bipush 103, 2, 103, 0), none, some (.bipush 101, 2, 101, 0), none, some (.iconst 0, 1, 0, 0), some (.iconst 0, 1, 0, 0), some (.iconst 0, 1, 0, 0), some (.iconst 0, 1, 0, 0), some (.invokestatic 150, 3, 140, 2), none, none, some (.lastore, 1, 0, 0), some (.aload_n 0, 1, 0, 0), some (.getfield 34, 3, 10, 9), none, none, some (.bipush 17, 2, 17, 0), none, some (.bipush 112, 2, 112, 0), none, some (.bipush 97, 2, 97, 0), none, some (.bipush 114, 2, 114, 0), none, some (.bipush 116, 2, 116, 0), none, some (.bipush 115, 2, 115, 0)], [none, some (.iconst 0, 1, 0, 0), some (.iconst 0, 1, 0, 0), some (.invokestatic 150, 3, 140, 2), none, none, some (.lastore, 1, 0, 0), some (.aload_n 0, 1, 0, 0), some (.getfield 34, 3, 10, 9), none, none, some (.bipush 18, 2, 18, 0), none, some (.bipush 109, 2, 109, 0), none, some (.bipush 97, 2, 97, 0), none, some (.bipush 110, 2, 110, 0), none, some (.bipush 121, 2, 121, 0), none, some (.iconst 0, 1, 0, 0), some (.iconst 0, 1, 0, 0), some (.iconst 0, 1, 0, 0), some (.invokestatic 150, 3, 140, 2), none, none, some (.lastore, 1, 0, 0), some (.aload_n 0, 1, 0, 0), some (.getfield 34, 3, 10, 9)], [some (.bipush 19, 2, 19, 0), none, some (.bipush 104, 2, 104, 0), none, some (.bipush 97, 2, 97, 0), none, some (.bipush 100, 2, 100, 0), none, some (.iconst 0, 1, 0, 0), some (.iconst 0, 1, 0, 0), some (.iconst 0, 1, 0, 0), some (.iconst 0, 1, 0, 0), some (.invokestatic 150, 3, 140, 2), none, none, some (.lastore, 1, 0, 0), some (.aload_n 0, 1, 0, 0), some (.invokevirtual 154, 3, 169, 0), none, none, some (.aload_n 0, 1, 0, 0), some (.invokevirtual 157, 3, 170, 0), none, none, some (.return_, 1, 0, 0)]]
def hm_m132 : hc_M := (⟨"HeardNextModel", "<init>", "()V"⟩, prog_12_method_2_code, 1, none, 10, 0, hm_t132)
def hm_t133 : hc_K := [[some (.aload_n 0, 1, 0, 0), some (.getfield 160, 3, 10, 2), none, none, some (.bipush 20, 2, 20, 0), none, some (.iadd, 1, 0, 0), some (.sipush 2000, 3, 2000, 0), none, none, some (.if_icmp .le 5, 3, 15, 0), none, none, some (.iconst (-1), 1, 4294967295, 0), some (.ireturn, 1, 0, 0), some (.aload_n 0, 1, 0, 0), some (.iload_n 1, 1, 1, 0), some (.invokevirtual 163, 3, 134, 0), none, none, some (.aload_n 0, 1, 0, 0), some (.iload_n 2, 1, 2, 0), some (.invokevirtual 163, 3, 134, 0), none, none, some (.aload_n 0, 1, 0, 0), some (.iload_n 3, 1, 3, 0), some (.invokevirtual 163, 3, 134, 0), none, none, some (.aload_n 0, 1, 0, 0), some (.iload 4, 2, 4, 0)], [none, some (.invokevirtual 163, 3, 134, 0), none, none, some (.aload_n 0, 1, 0, 0), some (.iload 5, 2, 5, 0), none, some (.invokevirtual 163, 3, 134, 0), none, none, some (.aload_n 0, 1, 0, 0), some (.getfield 160, 3, 10, 2), none, none, some (.ireturn, 1, 0, 0)]]
def hm_m133 : hc_M := (⟨"HeardNextModel", "feed", "(IIIII)I"⟩, prog_12_method_3_code, 6, (some (.int)), 10, 5, hm_t133)
def hm_t134 : hc_K := [[some (.bipush 24, 2, 24, 0), none, some (.istore_n 2, 1, 2, 0), some (.iload_n 2, 1, 2, 0), some (.ifCond .lt 32, 3, 36, 0), none, none, some (.aload_n 0, 1, 0, 0), some (.getfield 13, 3, 10, 1), none, none, some (.aload_n 0, 1, 0, 0), some (.getfield 160, 3, 10, 2), none, none, some (.iload_n 1, 1, 1, 0), some (.iload_n 2, 1, 2, 0), some (.ishr, 1, 0, 0), some (.i2b, 1, 0, 0), some (.bastore, 1, 0, 0), some (.aload_n 0, 1, 0, 0), some (.dup, 1, 0, 0), some (.getfield 160, 3, 10, 2), none, none, some (.iconst 1, 1, 1, 0), some (.iadd, 1, 0, 0), some (.putfield 160, 3, 10, 2), none, none, some (.iinc 2 (-8), 3, 2, 4294967288)], [none, some (.goto (-30), 3, 3, 0), none, none, some (.return_, 1, 0, 0)]]
def hm_m134 : hc_M := (⟨"HeardNextModel", "put", "(I)V"⟩, prog_12_method_4_code, 3, none, 10, 1, hm_t134)
def hm_t135 : hc_K := [[some (.iload_n 1, 1, 1, 0), some (.ifCond .lt 11, 3, 12, 0), none, none, some (.iload_n 1, 1, 1, 0), some (.aload_n 0, 1, 0, 0), some (.getfield 160, 3, 10, 2), none, none, some (.if_icmp .le 5, 3, 14, 0), none, none, some (.iconst (-1), 1, 4294967295, 0), some (.ireturn, 1, 0, 0), some (.aload_n 0, 1, 0, 0), some (.dup, 1, 0, 0), some (.getfield 160, 3, 10, 2), none, none, some (.iload_n 1, 1, 1, 0), some (.isub, 1, 0, 0), some (.putfield 160, 3, 10, 2), none, none, some (.aload_n 0, 1, 0, 0), some (.getfield 160, 3, 10, 2), none, none, some (.ireturn, 1, 0, 0)]]
def hm_m135 : hc_M := (⟨"HeardNextModel", "back", "(I)I"⟩, prog_12_method_5_code, 2, (some (.int)), 10, 1, hm_t135)
def hm_t136 : hc_K := [[some (.iload_n 1, 1, 1, 0), some (.aload_n 0, 1, 0, 0), some (.getfield 166, 3, 10, 4), none, none, some (.if_icmp .ge 16, 3, 21, 0), none, none, some (.aload_n 0, 1, 0, 0), some (.getfield 17, 3, 10, 3), none, none, some (.iload_n 1, 1, 1, 0), some (.baload, 1, 0, 0), some (.sipush 255, 3, 255, 0), none, none, some (.iand, 1, 0, 0), some (.goto 4, 3, 22, 0), none, none, some (.iconst 0, 1, 0, 0), some (.ireturn, 1, 0, 0)]]
def hm_m136 : hc_M := (⟨"HeardNextModel", "byteAt", "(I)I"⟩, prog_12_method_6_code, 2, (some (.int)), 10, 1, hm_t136)
def hm_t137 : hc_K := [[some (.iload_n 0, 1, 0, 0), some (.bipush 48, 2, 48, 0), none, some (.if_icmp .lt 13, 3, 16, 0), none, none, some (.iload_n 0, 1, 0, 0), some (.bipush 57, 2, 57, 0), none, some (.if_icmp .gt 7, 3, 16, 0), none, none, some (.iconst 1, 1, 1, 0), some (.goto 4, 3, 17, 0), none, none, some (.iconst 0, 1, 0, 0), some (.ireturn, 1, 0, 0)]]
def hm_m137 : hc_M := (⟨"HeardNextModel", "isDigit", "(I)Z"⟩, prog_12_method_7_code, 1, (some (.boolean)), 10, 1, hm_t137)
def hm_t138 : hc_K := [[some (.iload_n 0, 1, 0, 0), some (.bipush 97, 2, 97, 0), none, some (.if_icmp .lt 13, 3, 16, 0), none, none, some (.iload_n 0, 1, 0, 0), some (.bipush 122, 2, 122, 0), none, some (.if_icmp .gt 7, 3, 16, 0), none, none, some (.iconst 1, 1, 1, 0), some (.goto 4, 3, 17, 0), none, none, some (.iconst 0, 1, 0, 0), some (.ireturn, 1, 0, 0)]]
def hm_m138 : hc_M := (⟨"HeardNextModel", "isLetter", "(I)Z"⟩, prog_12_method_8_code, 1, (some (.boolean)), 10, 1, hm_t138)
def hm_t139 : hc_K := [[some (.iload_n 2, 1, 2, 0), some (.ifCond .ne 7, 3, 8, 0), none, none, some (.lload_n 0, 1, 0, 0), some (.goto 16, 3, 21, 0), none, none, some (.ldc2_w 169, 3, 27, 0), none, none, some (.lload_n 0, 1, 0, 0), some (.lmul, 1, 0, 0), some (.iload_n 2, 1, 2, 0), some (.bipush 97, 2, 97, 0), none, some (.isub, 1, 0, 0), some (.iconst 1, 1, 1, 0), some (.iadd, 1, 0, 0), some (.i2l, 1, 0, 0), some (.ladd, 1, 0, 0), some (.lreturn, 1, 0, 0)]]
def hm_m139 : hc_M := (⟨"HeardNextModel", "appends", "(JI)J"⟩, prog_12_method_9_code, 3, (some (.long)), 10, 2, hm_t139)
def hm_t140 : hc_K := [[some (.lconst 0, 1, 0, 0), some (.iload_n 0, 1, 0, 0), some (.invokestatic 171, 3, 139, 2), none, none, some (.iload_n 1, 1, 1, 0), some (.invokestatic 171, 3, 139, 2), none, none, some (.iload_n 2, 1, 2, 0), some (.invokestatic 171, 3, 139, 2), none, none, some (.iload_n 3, 1, 3, 0), some (.invokestatic 171, 3, 139, 2), none, none, some (.iload 4, 2, 4, 0), none, some (.invokestatic 171, 3, 139, 2), none, none, some (.iload 5, 2, 5, 0), none, some (.invokestatic 171, 3, 139, 2), none, none, some (.iload 6, 2, 6, 0), none, some (.invokestatic 171, 3, 139, 2)], [some (.lreturn, 1, 0, 0)]]
def hm_m140 : hc_M := (⟨"HeardNextModel", "word", "(IIIIIII)J"⟩, prog_12_method_10_code, 7, (some (.long)), 10, 7, hm_t140)
def hm_t141 : hc_K := [[some (.aload_n 0, 1, 0, 0), some (.getfield 20, 3, 10, 5), none, none, some (.aload_n 0, 1, 0, 0), some (.getfield 175, 3, 10, 10), none, none, some (.iload_n 1, 1, 1, 0), some (.iastore, 1, 0, 0), some (.aload_n 0, 1, 0, 0), some (.getfield 24, 3, 10, 6), none, none, some (.aload_n 0, 1, 0, 0), some (.getfield 175, 3, 10, 10), none, none, some (.iload_n 2, 1, 2, 0), some (.iastore, 1, 0, 0), some (.aload_n 0, 1, 0, 0), some (.getfield 27, 3, 10, 7), none, none, some (.aload_n 0, 1, 0, 0), some (.getfield 175, 3, 10, 10), none, none, some (.iload_n 3, 1, 3, 0), some (.iastore, 1, 0, 0), some (.aload_n 0, 1, 0, 0), some (.getfield 30, 3, 10, 8)], [none, none, some (.aload_n 0, 1, 0, 0), some (.getfield 175, 3, 10, 10), none, none, some (.lload 4, 2, 4, 0), none, some (.lastore, 1, 0, 0), some (.aload_n 0, 1, 0, 0), some (.dup, 1, 0, 0), some (.getfield 175, 3, 10, 10), none, none, some (.iconst 1, 1, 1, 0), some (.iadd, 1, 0, 0), some (.putfield 175, 3, 10, 10), none, none, some (.return_, 1, 0, 0)]]
def hm_m141 : hc_M := (⟨"HeardNextModel", "token", "(IIIJ)V"⟩, prog_12_method_11_code, 6, none, 10, 4, hm_t141)
def hm_t142 : hc_K := [[some (.aload_n 0, 1, 0, 0), some (.iconst 0, 1, 0, 0), some (.putfield 175, 3, 10, 10), none, none, some (.iconst 0, 1, 0, 0), some (.istore_n 1, 1, 1, 0), some (.aload_n 0, 1, 0, 0), some (.getfield 175, 3, 10, 10), none, none, some (.sipush 400, 3, 400, 0), none, none, some (.if_icmp .gt 280, 3, 294, 0), none, none, some (.aload_n 0, 1, 0, 0), some (.iload_n 1, 1, 1, 0), some (.invokevirtual 178, 3, 136, 0), none, none, some (.istore_n 2, 1, 2, 0), some (.iload_n 1, 1, 1, 0), some (.aload_n 0, 1, 0, 0), some (.getfield 166, 3, 10, 4), none, none, some (.if_icmp .lt 15, 3, 43, 0), none, none, some (.aload_n 0, 1, 0, 0)], [some (.iconst 0, 1, 0, 0), some (.aload_n 0, 1, 0, 0), some (.getfield 166, 3, 10, 4), none, none, some (.iconst 0, 1, 0, 0), some (.lconst 0, 1, 0, 0), some (.invokevirtual 182, 3, 141, 0), none, none, some (.return_, 1, 0, 0), some (.iload_n 2, 1, 2, 0), some (.bipush 9, 2, 9, 0), none, some (.if_icmp .eq 21, 3, 67, 0), none, none, some (.iload_n 2, 1, 2, 0), some (.bipush 10, 2, 10, 0), none, some (.if_icmp .eq 15, 3, 67, 0), none, none, some (.iload_n 2, 1, 2, 0), some (.bipush 13, 2, 13, 0), none, some (.if_icmp .eq 9, 3, 67, 0), none, none, some (.iload_n 2, 1, 2, 0), some (.bipush 32, 2, 32, 0)], [some (.if_icmp .ne 9, 3, 73, 0), none, none, some (.iinc 1 1, 3, 1, 1), none, none, some (.goto 221, 3, 291, 0), none, none, some (.iload_n 2, 1, 2, 0), some (.invokestatic 186, 3, 138, 2), none, none, some (.ifCond .eq 119, 3, 196, 0), none, none, some (.iconst 0, 1, 0, 0), some (.istore_n 3, 1, 3, 0), some (.lconst 0, 1, 0, 0), some (.lstore 4, 2, 4, 0), none, some (.aload_n 0, 1, 0, 0), some (.iload_n 1, 1, 1, 0), some (.iload_n 3, 1, 3, 0), some (.iadd, 1, 0, 0), some (.invokevirtual 178, 3, 136, 0), none, none, some (.invokestatic 186, 3, 138, 2), none, none, some (.ifCond .eq 29, 3, 124, 0)], [none, none, some (.iload_n 3, 1, 3, 0), some (.bipush 8, 2, 8, 0), none, some (.if_icmp .ge 17, 3, 118, 0), none, none, some (.lload 4, 2, 4, 0), none, some (.aload_n 0, 1, 0, 0), some (.iload_n 1, 1, 1, 0), some (.iload_n 3, 1, 3, 0), some (.iadd, 1, 0, 0), some (.invokevirtual 178, 3, 136, 0), none, none, some (.invokestatic 171, 3, 139, 2), none, none, some (.lstore 4, 2, 4, 0), none, some (.iinc 3 1, 3, 3, 1), none, none, some (.goto (-36), 3, 85, 0), none, none, some (.iload_n 3, 1, 3, 0), some (.bipush 8, 2, 8, 0), none, some (.if_icmp .le 7, 3, 134, 0)], [none, none, some (.iconst 3, 1, 3, 0), some (.goto 4, 3, 135, 0), none, none, some (.iconst 1, 1, 1, 0), some (.istore 6, 2, 6, 0), none, some (.iload_n 3, 1, 3, 0), some (.bipush 8, 2, 8, 0), none, some (.if_icmp .gt 39, 3, 179, 0), none, none, some (.iconst 0, 1, 0, 0), some (.istore 7, 2, 7, 0), none, some (.iload 7, 2, 7, 0), none, some (.bipush 20, 2, 20, 0), none, some (.if_icmp .ge 29, 3, 179, 0), none, none, some (.aload_n 0, 1, 0, 0), some (.getfield 34, 3, 10, 9), none, none, some (.iload 7, 2, 7, 0), none, some (.laload, 1, 0, 0)], [some (.lload 4, 2, 4, 0), none, some (.lcmp, 1, 0, 0), some (.ifCond .ne 10, 3, 173, 0), none, none, some (.bipush 20, 2, 20, 0), none, some (.iload 7, 2, 7, 0), none, some (.iadd, 1, 0, 0), some (.istore 6, 2, 6, 0), none, some (.iinc 7 1, 3, 7, 1), none, none, some (.goto (-30), 3, 146, 0), none, none, some (.aload_n 0, 1, 0, 0), some (.iload 6, 2, 6, 0), none, some (.iload_n 1, 1, 1, 0), some (.iconst 0, 1, 0, 0), some (.lload 4, 2, 4, 0), none, some (.invokevirtual 182, 3, 141, 0), none, none, some (.iload_n 1, 1, 1, 0), some (.iload_n 3, 1, 3, 0), some (.iadd, 1, 0, 0)], [some (.istore_n 1, 1, 1, 0), some (.goto 98, 3, 291, 0), none, none, some (.iload_n 2, 1, 2, 0), some (.invokestatic 190, 3, 137, 2), none, none, some (.ifCond .eq 75, 3, 275, 0), none, none, some (.iconst 0, 1, 0, 0), some (.istore_n 3, 1, 3, 0), some (.iconst 0, 1, 0, 0), some (.istore 4, 2, 4, 0), none, some (.aload_n 0, 1, 0, 0), some (.iload_n 1, 1, 1, 0), some (.iload_n 3, 1, 3, 0), some (.iadd, 1, 0, 0), some (.invokevirtual 178, 3, 136, 0), none, none, some (.invokestatic 190, 3, 137, 2), none, none, some (.ifCond .eq 32, 3, 250, 0), none, none, some (.iload_n 3, 1, 3, 0), some (.iconst 4, 1, 4, 0), some (.if_icmp .ge 21, 3, 244, 0)], [none, none, some (.bipush 10, 2, 10, 0), none, some (.iload 4, 2, 4, 0), none, some (.imul, 1, 0, 0), some (.aload_n 0, 1, 0, 0), some (.iload_n 1, 1, 1, 0), some (.iload_n 3, 1, 3, 0), some (.iadd, 1, 0, 0), some (.invokevirtual 178, 3, 136, 0), none, none, some (.iadd, 1, 0, 0), some (.bipush 48, 2, 48, 0), none, some (.isub, 1, 0, 0), some (.istore 4, 2, 4, 0), none, some (.iinc 3 1, 3, 3, 1), none, none, some (.goto (-39), 3, 208, 0), none, none, some (.aload_n 0, 1, 0, 0), some (.iload_n 3, 1, 3, 0), some (.iconst 4, 1, 4, 0), some (.if_icmp .le 7, 3, 260, 0)], [some (.iconst 3, 1, 3, 0), some (.goto 4, 3, 261, 0), none, none, some (.iconst 2, 1, 2, 0), some (.iload_n 1, 1, 1, 0), some (.iload 4, 2, 4, 0), none, some (.lconst 0, 1, 0, 0), some (.invokevirtual 182, 3, 141, 0), none, none, some (.iload_n 1, 1, 1, 0), some (.iload_n 3, 1, 3, 0), some (.iadd, 1, 0, 0), some (.istore_n 1, 1, 1, 0), some (.goto 19, 3, 291, 0), none, none, some (.iload_n 1, 1, 1, 0), some (.aload_n 0, 1, 0, 0), some (.iload_n 1, 1, 1, 0), some (.iload_n 2, 1, 2, 0), some (.aload_n 0, 1, 0, 0), some (.iload_n 1, 1, 1, 0), some (.iconst 1, 1, 1, 0), some (.iadd, 1, 0, 0), some (.invokevirtual 178, 3, 136, 0), none, none, some (.invokevirtual 193, 3, 143, 0)], [none, some (.iadd, 1, 0, 0), some (.istore_n 1, 1, 1, 0), some (.goto (-284), 3, 7, 0), none, none, some (.return_, 1, 0, 0)]]
def hm_m142 : hc_M := (⟨"HeardNextModel", "cut", "()V"⟩, prog_12_method_12_code, 8, none, 10, 0, hm_t142)
def hm_t143 : hc_K := [[some (.iload_n 2, 1, 2, 0), some (.bipush 59, 2, 59, 0), none, some (.if_icmp .ne 7, 3, 10, 0), none, none, some (.iconst 4, 1, 4, 0), some (.goto 36, 3, 43, 0), none, none, some (.iload_n 2, 1, 2, 0), some (.bipush 61, 2, 61, 0), none, some (.if_icmp .ne 7, 3, 20, 0), none, none, some (.iconst 5, 1, 5, 0), some (.goto 26, 3, 43, 0), none, none, some (.iload_n 2, 1, 2, 0), some (.bipush 40, 2, 40, 0), none, some (.if_icmp .ne 8, 3, 31, 0), none, none, some (.bipush 6, 2, 6, 0), none, some (.goto 15, 3, 43, 0), none, none, some (.iload_n 2, 1, 2, 0)], [some (.bipush 41, 2, 41, 0), none, some (.if_icmp .ne 8, 3, 42, 0), none, none, some (.bipush 7, 2, 7, 0), none, some (.goto 4, 3, 43, 0), none, none, some (.iconst 3, 1, 3, 0), some (.istore 4, 2, 4, 0), none, some (.iload_n 2, 1, 2, 0), some (.bipush 43, 2, 43, 0), none, some (.if_icmp .ne 7, 3, 55, 0), none, none, some (.bipush 8, 2, 8, 0), none, some (.istore 4, 2, 4, 0), none, some (.iload_n 2, 1, 2, 0), some (.bipush 45, 2, 45, 0), none, some (.if_icmp .ne 7, 3, 65, 0), none, none, some (.bipush 9, 2, 9, 0), none, some (.istore 4, 2, 4, 0)], [none, some (.iload_n 2, 1, 2, 0), some (.bipush 42, 2, 42, 0), none, some (.if_icmp .ne 7, 3, 75, 0), none, none, some (.bipush 10, 2, 10, 0), none, some (.istore 4, 2, 4, 0), none, some (.iload_n 2, 1, 2, 0), some (.bipush 47, 2, 47, 0), none, some (.if_icmp .ne 7, 3, 85, 0), none, none, some (.bipush 15, 2, 15, 0), none, some (.istore 4, 2, 4, 0), none, some (.iload_n 2, 1, 2, 0), some (.bipush 60, 2, 60, 0), none, some (.if_icmp .ne 7, 3, 95, 0), none, none, some (.bipush 13, 2, 13, 0), none, some (.istore 4, 2, 4, 0), none, some (.aload_n 0, 1, 0, 0)], [some (.iload 4, 2, 4, 0), none, some (.iload_n 1, 1, 1, 0), some (.iconst 0, 1, 0, 0), some (.lconst 0, 1, 0, 0), some (.invokevirtual 182, 3, 141, 0), none, none, some (.iconst 1, 1, 1, 0), some (.ireturn, 1, 0, 0)]]
def hm_m143 : hc_M := (⟨"HeardNextModel", "sign", "(III)I"⟩, prog_12_method_13_code, 5, (some (.int)), 10, 3, hm_t143)
def hm_t144 : hc_K := [[some (.aload_n 0, 1, 0, 0), some (.getfield 197, 3, 10, 13), none, none, some (.ifCond .ne 20, 3, 24, 0), none, none, some (.aload_n 0, 1, 0, 0), some (.getfield 20, 3, 10, 5), none, none, some (.aload_n 0, 1, 0, 0), some (.getfield 200, 3, 10, 11), none, none, some (.iaload, 1, 0, 0), some (.iload_n 1, 1, 1, 0), some (.if_icmp .ne 7, 3, 24, 0), none, none, some (.iconst 1, 1, 1, 0), some (.goto 4, 3, 25, 0), none, none, some (.iconst 0, 1, 0, 0), some (.ireturn, 1, 0, 0)]]
def hm_m144 : hc_M := (⟨"HeardNextModel", "is", "(I)Z"⟩, prog_12_method_14_code, 2, (some (.boolean)), 10, 1, hm_t144)
def hm_t145 : hc_K := [[some (.aload_n 0, 1, 0, 0), some (.getfield 197, 3, 10, 13), none, none, some (.ifCond .le 4, 3, 8, 0), none, none, some (.return_, 1, 0, 0), some (.aload_n 0, 1, 0, 0), some (.iload_n 1, 1, 1, 0), some (.putfield 197, 3, 10, 13), none, none, some (.aload_n 0, 1, 0, 0), some (.aload_n 0, 1, 0, 0), some (.getfield 24, 3, 10, 6), none, none, some (.aload_n 0, 1, 0, 0), some (.getfield 200, 3, 10, 11), none, none, some (.iaload, 1, 0, 0), some (.putfield 203, 3, 10, 14), none, none, some (.return_, 1, 0, 0)]]
def hm_m145 : hc_M := (⟨"HeardNextModel", "fail", "(I)V"⟩, prog_12_method_15_code, 2, none, 10, 1, hm_t145)
def hm_t146 : hc_K := [[some (.aload_n 0, 1, 0, 0), some (.getfield 24, 3, 10, 6), none, none, some (.iload_n 2, 1, 2, 0), some (.iaload, 1, 0, 0), some (.istore_n 3, 1, 3, 0), some (.aload_n 0, 1, 0, 0), some (.getfield 197, 3, 10, 13), none, none, some (.ifCond .gt 34, 3, 45, 0), none, none, some (.aload_n 0, 1, 0, 0), some (.getfield 206, 3, 10, 15), none, none, some (.ifCond .eq 28, 3, 46, 0), none, none, some (.iload_n 3, 1, 3, 0), some (.aload_n 0, 1, 0, 0), some (.getfield 209, 3, 10, 16), none, none, some (.if_icmp .gt 19, 3, 45, 0), none, none, some (.iload_n 3, 1, 3, 0), some (.aload_n 0, 1, 0, 0), some (.getfield 209, 3, 10, 16)], [none, none, some (.if_icmp .ne 12, 3, 46, 0), none, none, some (.iload_n 1, 1, 1, 0), some (.aload_n 0, 1, 0, 0), some (.getfield 206, 3, 10, 15), none, none, some (.if_icmp .lt 4, 3, 46, 0), none, none, some (.return_, 1, 0, 0), some (.aload_n 0, 1, 0, 0), some (.iload_n 1, 1, 1, 0), some (.putfield 206, 3, 10, 15), none, none, some (.aload_n 0, 1, 0, 0), some (.iload_n 3, 1, 3, 0), some (.putfield 209, 3, 10, 16), none, none, some (.return_, 1, 0, 0)]]
def hm_m146 : hc_M := (⟨"HeardNextModel", "wrong", "(II)V"⟩, prog_12_method_16_code, 4, none, 10, 2, hm_t146)
def hm_t147 : hc_K := [[some (.aload_n 0, 1, 0, 0), some (.getfield 200, 3, 10, 11), none, none, some (.sipush 400, 3, 400, 0), none, none, some (.if_icmp .ne 11, 3, 18, 0), none, none, some (.aload_n 0, 1, 0, 0), some (.iconst 2, 1, 2, 0), some (.invokevirtual 212, 3, 145, 0), none, none, some (.goto 13, 3, 28, 0), none, none, some (.aload_n 0, 1, 0, 0), some (.dup, 1, 0, 0), some (.getfield 200, 3, 10, 11), none, none, some (.iconst 1, 1, 1, 0), some (.iadd, 1, 0, 0), some (.putfield 200, 3, 10, 11), none, none, some (.return_, 1, 0, 0)]]
def hm_m147 : hc_M := (⟨"HeardNextModel", "goesOn", "()V"⟩, prog_12_method_17_code, 1, none, 10, 0, hm_t147)
def hm_t148 : hc_K := [[some (.aload_n 0, 1, 0, 0), some (.iload_n 1, 1, 1, 0), some (.invokevirtual 215, 3, 144, 0), none, none, some (.ifCond .eq 10, 3, 15, 0), none, none, some (.aload_n 0, 1, 0, 0), some (.invokevirtual 218, 3, 147, 0), none, none, some (.goto 8, 3, 20, 0), none, none, some (.aload_n 0, 1, 0, 0), some (.iconst 1, 1, 1, 0), some (.invokevirtual 212, 3, 145, 0), none, none, some (.return_, 1, 0, 0)]]
def hm_m148 : hc_M := (⟨"HeardNextModel", "must", "(I)V"⟩, prog_12_method_18_code, 2, none, 10, 1, hm_t148)
def hm_t149 : hc_K := [[some (.aload_n 0, 1, 0, 0), some (.getfield 43, 3, 10, 22), none, none, some (.iload_n 1, 1, 1, 0), some (.iconst 0, 1, 0, 0), some (.iastore, 1, 0, 0), some (.aload_n 0, 1, 0, 0), some (.getfield 52, 3, 10, 25), none, none, some (.iload_n 1, 1, 1, 0), some (.iconst 0, 1, 0, 0), some (.iastore, 1, 0, 0), some (.aload_n 0, 1, 0, 0), some (.getfield 58, 3, 10, 27), none, none, some (.iload_n 1, 1, 1, 0), some (.bipush 6, 2, 6, 0), none, some (.iastore, 1, 0, 0), some (.aload_n 0, 1, 0, 0), some (.getfield 61, 3, 10, 28), none, none, some (.iload_n 1, 1, 1, 0), some (.iconst 0, 1, 0, 0), some (.iastore, 1, 0, 0), some (.iconst 0, 1, 0, 0), some (.istore_n 2, 1, 2, 0), some (.iload_n 2, 1, 2, 0)], [some (.bipush 24, 2, 24, 0), none, some (.if_icmp .ge 21, 3, 55, 0), none, none, some (.aload_n 0, 1, 0, 0), some (.getfield 55, 3, 10, 26), none, none, some (.bipush 24, 2, 24, 0), none, some (.iload_n 1, 1, 1, 0), some (.imul, 1, 0, 0), some (.iload_n 2, 1, 2, 0), some (.iadd, 1, 0, 0), some (.iconst 0, 1, 0, 0), some (.iastore, 1, 0, 0), some (.iinc 2 1, 3, 2, 1), none, none, some (.goto (-21), 3, 31, 0), none, none, some (.iconst 0, 1, 0, 0), some (.istore_n 2, 1, 2, 0), some (.iload_n 2, 1, 2, 0), some (.iconst 4, 1, 4, 0), some (.if_icmp .ge 31, 3, 90, 0), none, none, some (.aload_n 0, 1, 0, 0), some (.getfield 64, 3, 10, 29)], [none, none, some (.iconst 4, 1, 4, 0), some (.iload_n 1, 1, 1, 0), some (.imul, 1, 0, 0), some (.iload_n 2, 1, 2, 0), some (.iadd, 1, 0, 0), some (.iconst 0, 1, 0, 0), some (.iastore, 1, 0, 0), some (.aload_n 0, 1, 0, 0), some (.getfield 67, 3, 10, 30), none, none, some (.iconst 4, 1, 4, 0), some (.iload_n 1, 1, 1, 0), some (.imul, 1, 0, 0), some (.iload_n 2, 1, 2, 0), some (.iadd, 1, 0, 0), some (.iconst 0, 1, 0, 0), some (.iastore, 1, 0, 0), some (.iinc 2 1, 3, 2, 1), none, none, some (.goto (-30), 3, 57, 0), none, none, some (.return_, 1, 0, 0)]]
def hm_m149 : hc_M := (⟨"HeardNextModel", "plain", "(I)V"⟩, prog_12_method_19_code, 3, none, 10, 1, hm_t149)
def hm_t150 : hc_K := [[some (.aload_n 0, 1, 0, 0), some (.aload_n 0, 1, 0, 0), some (.getfield 160, 3, 10, 2), none, none, some (.putfield 166, 3, 10, 4), none, none, some (.iconst 0, 1, 0, 0), some (.istore_n 1, 1, 1, 0), some (.iload_n 1, 1, 1, 0), some (.aload_n 0, 1, 0, 0), some (.getfield 166, 3, 10, 4), none, none, some (.if_icmp .ge 21, 3, 36, 0), none, none, some (.aload_n 0, 1, 0, 0), some (.getfield 17, 3, 10, 3), none, none, some (.iload_n 1, 1, 1, 0), some (.aload_n 0, 1, 0, 0), some (.getfield 13, 3, 10, 1), none, none, some (.iload_n 1, 1, 1, 0), some (.baload, 1, 0, 0), some (.bastore, 1, 0, 0), some (.iinc 1 1, 3, 1, 1)], [none, some (.goto (-23), 3, 10, 0), none, none, some (.aload_n 0, 1, 0, 0), some (.iconst 0, 1, 0, 0), some (.putfield 160, 3, 10, 2), none, none, some (.aload_n 0, 1, 0, 0), some (.invokevirtual 221, 3, 142, 0), none, none, some (.aload_n 0, 1, 0, 0), some (.iconst 0, 1, 0, 0), some (.putfield 200, 3, 10, 11), none, none, some (.aload_n 0, 1, 0, 0), some (.iconst 0, 1, 0, 0), some (.putfield 224, 3, 10, 12), none, none, some (.aload_n 0, 1, 0, 0), some (.iconst 0, 1, 0, 0), some (.putfield 197, 3, 10, 13), none, none, some (.aload_n 0, 1, 0, 0), some (.iconst 0, 1, 0, 0), some (.putfield 206, 3, 10, 15)], [none, some (.aload_n 0, 1, 0, 0), some (.iconst 1, 1, 1, 0), some (.aload_n 0, 1, 0, 0), some (.getfield 227, 3, 10, 18), none, none, some (.isub, 1, 0, 0), some (.putfield 230, 3, 10, 19), none, none, some (.aload_n 0, 1, 0, 0), some (.iconst 0, 1, 0, 0), some (.putfield 233, 3, 10, 20), none, none, some (.aload_n 0, 1, 0, 0), some (.aload_n 0, 1, 0, 0), some (.getfield 230, 3, 10, 19), none, none, some (.invokevirtual 146, 3, 149, 0), none, none, some (.aload_n 0, 1, 0, 0), some (.sipush 130, 3, 130, 0), none, none, some (.aload_n 0, 1, 0, 0), some (.getfield 230, 3, 10, 19)], [some (.imul, 1, 0, 0), some (.putfield 236, 3, 10, 31), none, none, some (.aload_n 0, 1, 0, 0), some (.sipush 420, 3, 420, 0), none, none, some (.aload_n 0, 1, 0, 0), some (.getfield 230, 3, 10, 19), none, none, some (.imul, 1, 0, 0), some (.putfield 239, 3, 10, 37), none, none, some (.aload_n 0, 1, 0, 0), some (.getfield 197, 3, 10, 13), none, none, some (.ifCond .ne 18, 3, 134, 0), none, none, some (.aload_n 0, 1, 0, 0), some (.iconst 0, 1, 0, 0), some (.invokevirtual 215, 3, 144, 0), none, none, some (.ifCond .ne 10, 3, 134, 0), none, none, some (.aload_n 0, 1, 0, 0)], [some (.invokevirtual 242, 3, 154, 0), none, none, some (.goto (-19), 3, 112, 0), none, none, some (.aload_n 0, 1, 0, 0), some (.aload_n 0, 1, 0, 0), some (.getfield 197, 3, 10, 13), none, none, some (.ifCond .le 10, 3, 149, 0), none, none, some (.aload_n 0, 1, 0, 0), some (.getfield 203, 3, 10, 14), none, none, some (.goto 18, 3, 164, 0), none, none, some (.aload_n 0, 1, 0, 0), some (.getfield 206, 3, 10, 15), none, none, some (.ifCond .le 10, 3, 163, 0), none, none, some (.aload_n 0, 1, 0, 0), some (.getfield 209, 3, 10, 16)], [some (.goto 4, 3, 164, 0), none, none, some (.iconst (-1), 1, 4294967295, 0), some (.putfield 37, 3, 10, 17), none, none, some (.aload_n 0, 1, 0, 0), some (.getfield 197, 3, 10, 13), none, none, some (.ifCond .le 8, 3, 179, 0), none, none, some (.aload_n 0, 1, 0, 0), some (.getfield 197, 3, 10, 13), none, none, some (.ireturn, 1, 0, 0), some (.aload_n 0, 1, 0, 0), some (.getfield 206, 3, 10, 15), none, none, some (.ifCond .le 8, 3, 191, 0), none, none, some (.aload_n 0, 1, 0, 0), some (.getfield 206, 3, 10, 15), none, none, some (.ireturn, 1, 0, 0), some (.aload_n 0, 1, 0, 0)], [some (.aload_n 0, 1, 0, 0), some (.getfield 230, 3, 10, 19), none, none, some (.putfield 227, 3, 10, 18), none, none, some (.aload_n 0, 1, 0, 0), some (.invokevirtual 154, 3, 169, 0), none, none, some (.aload_n 0, 1, 0, 0), some (.invokevirtual 157, 3, 170, 0), none, none, some (.aload_n 0, 1, 0, 0), some (.iconst 0, 1, 0, 0), some (.putfield 245, 3, 10, 51), none, none, some (.aload_n 0, 1, 0, 0), some (.iconst 0, 1, 0, 0), some (.putfield 248, 3, 10, 59), none, none, some (.iconst 0, 1, 0, 0), some (.istore_n 1, 1, 1, 0), some (.iload_n 1, 1, 1, 0), some (.iconst 3, 1, 3, 0), some (.if_icmp .ge 16, 3, 237, 0)], [some (.aload_n 0, 1, 0, 0), some (.getfield 140, 3, 10, 62), none, none, some (.iload_n 1, 1, 1, 0), some (.iconst 0, 1, 0, 0), some (.bastore, 1, 0, 0), some (.iinc 1 1, 3, 1, 1), none, none, some (.goto (-15), 3, 219, 0), none, none, some (.iconst 0, 1, 0, 0), some (.ireturn, 1, 0, 0)]]
def hm_m150 : hc_M := (⟨"HeardNextModel", "read", "()I"⟩, prog_12_method_20_code, 2, (some (.int)), 10, 0, hm_t150)
def hm_t151 : hc_K := [[some (.aload_n 0, 1, 0, 0), some (.getfield 37, 3, 10, 17), none, none, some (.ireturn, 1, 0, 0)]]
def hm_m151 : hc_M := (⟨"HeardNextModel", "place", "()I"⟩, prog_12_method_21_code, 1, (some (.int)), 10, 0, hm_t151)
def hm_t152 : hc_K := [[some (.iload_n 1, 1, 1, 0), some (.iload_n 2, 1, 2, 0), some (.if_icmp .ne 8, 3, 10, 0), none, none, some (.aload_n 0, 1, 0, 0), some (.iconst 2, 1, 2, 0), some (.invokevirtual 212, 3, 145, 0), none, none, some (.aload_n 0, 1, 0, 0), some (.getfield 197, 3, 10, 13), none, none, some (.ifCond .ne 7, 3, 21, 0), none, none, some (.aload_n 0, 1, 0, 0), some (.invokevirtual 218, 3, 147, 0), none, none, some (.return_, 1, 0, 0)]]
def hm_m152 : hc_M := (⟨"HeardNextModel", "roomFor", "(II)V"⟩, prog_12_method_22_code, 3, none, 10, 2, hm_t152)
def hm_t153 : hc_K := [[some (.aload_n 0, 1, 0, 0), some (.invokevirtual 218, 3, 147, 0), none, none, some (.aload_n 0, 1, 0, 0), some (.iload_n 1, 1, 1, 0), some (.iload_n 2, 1, 2, 0), some (.invokevirtual 251, 3, 155, 0), none, none, some (.istore_n 3, 1, 3, 0), some (.aload_n 0, 1, 0, 0), some (.iconst 4, 1, 4, 0), some (.invokevirtual 255, 3, 148, 0), none, none, some (.iload_n 3, 1, 3, 0), some (.ireturn, 1, 0, 0)]]
def hm_m153 : hc_M := (⟨"HeardNextModel", "toldInt", "(II)I"⟩, prog_12_method_23_code, 4, (some (.int)), 10, 2, hm_t153)
def hm_t154 : hc_K := [[some (.aload_n 0, 1, 0, 0), some (.getfield 20, 3, 10, 5), none, none, some (.aload_n 0, 1, 0, 0), some (.getfield 200, 3, 10, 11), none, none, some (.iaload, 1, 0, 0), some (.tableswitch 197 20 27 #[47, 76, 197, 197, 197, 197, 158, 177], 47, 0, 0)], [none, none, none, none, none, none, none, none, none, none, none, none, none, none, none, none, none, none, none, none, none, none, none, none, some (.aload_n 0, 1, 0, 0), some (.aload_n 0, 1, 0, 0), some (.getfield 43, 3, 10, 22), none, none, some (.aload_n 0, 1, 0, 0), some (.getfield 230, 3, 10, 19)], [none, some (.iaload, 1, 0, 0), some (.bipush 10, 2, 10, 0), none, some (.invokevirtual 258, 3, 152, 0), none, none, some (.aload_n 0, 1, 0, 0), some (.getfield 197, 3, 10, 13), none, none, some (.ifCond .ne 184, 3, 259, 0), none, none, some (.aload_n 0, 1, 0, 0), some (.invokevirtual 262, 3, 156, 0), none, none, some (.goto 177, 3, 259, 0), none, none, some (.aload_n 0, 1, 0, 0), some (.aload_n 0, 1, 0, 0), some (.getfield 52, 3, 10, 25), none, none, some (.aload_n 0, 1, 0, 0), some (.getfield 230, 3, 10, 19), none, none, some (.iaload, 1, 0, 0), some (.bipush 8, 2, 8, 0)], [none, some (.invokevirtual 258, 3, 152, 0), none, none, some (.aload_n 0, 1, 0, 0), some (.getfield 197, 3, 10, 13), none, none, some (.ifCond .le 4, 3, 108, 0), none, none, some (.return_, 1, 0, 0), some (.aload_n 0, 1, 0, 0), some (.iconst 0, 1, 0, 0), some (.bipush 23, 2, 23, 0), none, some (.invokevirtual 251, 3, 155, 0), none, none, some (.istore_n 1, 1, 1, 0), some (.aload_n 0, 1, 0, 0), some (.iconst 0, 1, 0, 0), some (.sipush 255, 3, 255, 0), none, none, some (.invokevirtual 251, 3, 155, 0), none, none, some (.istore_n 2, 1, 2, 0), some (.aload_n 0, 1, 0, 0), some (.iconst 4, 1, 4, 0), some (.invokevirtual 255, 3, 148, 0)], [none, none, some (.iload_n 1, 1, 1, 0), some (.bipush 23, 2, 23, 0), none, some (.if_icmp .gt 18, 3, 151, 0), none, none, some (.aload_n 0, 1, 0, 0), some (.getfield 55, 3, 10, 26), none, none, some (.bipush 24, 2, 24, 0), none, some (.aload_n 0, 1, 0, 0), some (.getfield 230, 3, 10, 19), none, none, some (.imul, 1, 0, 0), some (.iload_n 1, 1, 1, 0), some (.iadd, 1, 0, 0), some (.iload_n 2, 1, 2, 0), some (.iastore, 1, 0, 0), some (.aload_n 0, 1, 0, 0), some (.getfield 52, 3, 10, 25), none, none, some (.aload_n 0, 1, 0, 0), some (.getfield 230, 3, 10, 19), none, none, some (.dup2, 1, 0, 0)], [some (.iaload, 1, 0, 0), some (.iconst 1, 1, 1, 0), some (.iadd, 1, 0, 0), some (.iastore, 1, 0, 0), some (.goto 95, 3, 259, 0), none, none, some (.aload_n 0, 1, 0, 0), some (.getfield 58, 3, 10, 27), none, none, some (.aload_n 0, 1, 0, 0), some (.getfield 230, 3, 10, 19), none, none, some (.aload_n 0, 1, 0, 0), some (.iconst 1, 1, 1, 0), some (.bipush 99, 2, 99, 0), none, some (.invokevirtual 265, 3, 153, 0), none, none, some (.iastore, 1, 0, 0), some (.goto 76, 3, 259, 0), none, none, some (.aload_n 0, 1, 0, 0), some (.getfield 61, 3, 10, 28), none, none, some (.aload_n 0, 1, 0, 0), some (.getfield 230, 3, 10, 19)], [none, none, some (.aload_n 0, 1, 0, 0), some (.iconst 0, 1, 0, 0), some (.sipush 9999, 3, 9999, 0), none, none, some (.invokevirtual 265, 3, 153, 0), none, none, some (.iastore, 1, 0, 0), some (.goto 56, 3, 259, 0), none, none, some (.aload_n 0, 1, 0, 0), some (.getfield 20, 3, 10, 5), none, none, some (.aload_n 0, 1, 0, 0), some (.getfield 200, 3, 10, 11), none, none, some (.iaload, 1, 0, 0), some (.bipush 22, 2, 22, 0), none, some (.isub, 1, 0, 0), some (.istore_n 1, 1, 1, 0), some (.iload_n 1, 1, 1, 0), some (.ifCond .lt 17, 3, 237, 0), none, none, some (.aload_n 0, 1, 0, 0)], [some (.getfield 20, 3, 10, 5), none, none, some (.aload_n 0, 1, 0, 0), some (.getfield 200, 3, 10, 11), none, none, some (.iaload, 1, 0, 0), some (.bipush 25, 2, 25, 0), none, some (.if_icmp .le 8, 3, 242, 0), none, none, some (.aload_n 0, 1, 0, 0), some (.iconst 1, 1, 1, 0), some (.invokevirtual 212, 3, 145, 0), none, none, some (.aload_n 0, 1, 0, 0), some (.getfield 197, 3, 10, 13), none, none, some (.ifCond .le 4, 3, 250, 0), none, none, some (.return_, 1, 0, 0), some (.aload_n 0, 1, 0, 0), some (.invokevirtual 218, 3, 147, 0), none, none, some (.aload_n 0, 1, 0, 0), some (.iload_n 1, 1, 1, 0)], [some (.invokevirtual 268, 3, 157, 0), none, none, some (.return_, 1, 0, 0)]]
def hm_m154 : hc_M := (⟨"HeardNextModel", "tellOne", "()V"⟩, prog_12_method_24_code, 3, none, 10, 0, hm_t154)
def hm_t155 : hc_K := [[some (.aload_n 0, 1, 0, 0), some (.getfield 197, 3, 10, 13), none, none, some (.ifCond .gt 11, 3, 15, 0), none, none, some (.aload_n 0, 1, 0, 0), some (.iconst 2, 1, 2, 0), some (.invokevirtual 215, 3, 144, 0), none, none, some (.ifCond .ne 10, 3, 22, 0), none, none, some (.aload_n 0, 1, 0, 0), some (.iconst 1, 1, 1, 0), some (.invokevirtual 212, 3, 145, 0), none, none, some (.iload_n 1, 1, 1, 0), some (.ireturn, 1, 0, 0), some (.aload_n 0, 1, 0, 0), some (.getfield 27, 3, 10, 7), none, none, some (.aload_n 0, 1, 0, 0), some (.getfield 200, 3, 10, 11), none, none, some (.iaload, 1, 0, 0), some (.istore_n 3, 1, 3, 0)], [some (.iload_n 3, 1, 3, 0), some (.iload_n 1, 1, 1, 0), some (.if_icmp .lt 8, 3, 42, 0), none, none, some (.iload_n 3, 1, 3, 0), some (.iload_n 2, 1, 2, 0), some (.if_icmp .le 12, 3, 51, 0), none, none, some (.aload_n 0, 1, 0, 0), some (.iconst 5, 1, 5, 0), some (.aload_n 0, 1, 0, 0), some (.getfield 200, 3, 10, 11), none, none, some (.invokevirtual 271, 3, 146, 0), none, none, some (.aload_n 0, 1, 0, 0), some (.invokevirtual 218, 3, 147, 0), none, none, some (.iload_n 3, 1, 3, 0), some (.ireturn, 1, 0, 0)]]
def hm_m155 : hc_M := (⟨"HeardNextModel", "bounded", "(II)I"⟩, prog_12_method_25_code, 4, (some (.int)), 10, 2, hm_t155)
def hm_t156 : hc_K := [[some (.bipush 10, 2, 10, 0), none, some (.aload_n 0, 1, 0, 0), some (.getfield 230, 3, 10, 19), none, none, some (.imul, 1, 0, 0), some (.aload_n 0, 1, 0, 0), some (.getfield 43, 3, 10, 22), none, none, some (.aload_n 0, 1, 0, 0), some (.getfield 230, 3, 10, 19), none, none, some (.iaload, 1, 0, 0), some (.iadd, 1, 0, 0), some (.istore_n 1, 1, 1, 0), some (.aload_n 0, 1, 0, 0), some (.getfield 200, 3, 10, 11), none, none, some (.istore_n 2, 1, 2, 0), some (.aload_n 0, 1, 0, 0), some (.iconst 1, 1, 1, 0), some (.invokevirtual 255, 3, 148, 0), none, none, some (.iconst 0, 1, 0, 0), some (.istore_n 3, 1, 3, 0), some (.iload_n 3, 1, 3, 0), some (.aload_n 0, 1, 0, 0)], [some (.getfield 233, 3, 10, 20), none, none, some (.if_icmp .ge 38, 3, 73, 0), none, none, some (.aload_n 0, 1, 0, 0), some (.getfield 197, 3, 10, 13), none, none, some (.ifCond .ne 31, 3, 73, 0), none, none, some (.aload_n 0, 1, 0, 0), some (.getfield 40, 3, 10, 21), none, none, some (.iload_n 3, 1, 3, 0), some (.laload, 1, 0, 0), some (.aload_n 0, 1, 0, 0), some (.getfield 30, 3, 10, 8), none, none, some (.iload_n 2, 1, 2, 0), some (.laload, 1, 0, 0), some (.lcmp, 1, 0, 0), some (.ifCond .ne 9, 3, 67, 0), none, none, some (.aload_n 0, 1, 0, 0), some (.iconst 3, 1, 3, 0), some (.iload_n 2, 1, 2, 0)], [some (.invokevirtual 271, 3, 146, 0), none, none, some (.iinc 3 1, 3, 3, 1), none, none, some (.goto (-40), 3, 30, 0), none, none, some (.aload_n 0, 1, 0, 0), some (.getfield 46, 3, 10, 23), none, none, some (.iload_n 1, 1, 1, 0), some (.aload_n 0, 1, 0, 0), some (.iconst 0, 1, 0, 0), some (.sipush 255, 3, 255, 0), none, none, some (.invokevirtual 251, 3, 155, 0), none, none, some (.iastore, 1, 0, 0), some (.aload_n 0, 1, 0, 0), some (.getfield 49, 3, 10, 24), none, none, some (.iload_n 1, 1, 1, 0), some (.aload_n 0, 1, 0, 0), some (.iconst 0, 1, 0, 0), some (.bipush 99, 2, 99, 0)], [some (.invokevirtual 251, 3, 155, 0), none, none, some (.iastore, 1, 0, 0), some (.aload_n 0, 1, 0, 0), some (.iconst 4, 1, 4, 0), some (.invokevirtual 255, 3, 148, 0), none, none, some (.aload_n 0, 1, 0, 0), some (.getfield 197, 3, 10, 13), none, none, some (.ifCond .le 4, 3, 113, 0), none, none, some (.return_, 1, 0, 0), some (.aload_n 0, 1, 0, 0), some (.getfield 40, 3, 10, 21), none, none, some (.aload_n 0, 1, 0, 0), some (.getfield 233, 3, 10, 20), none, none, some (.aload_n 0, 1, 0, 0), some (.getfield 30, 3, 10, 8), none, none, some (.iload_n 2, 1, 2, 0), some (.laload, 1, 0, 0), some (.lastore, 1, 0, 0)], [some (.aload_n 0, 1, 0, 0), some (.dup, 1, 0, 0), some (.getfield 233, 3, 10, 20), none, none, some (.iconst 1, 1, 1, 0), some (.iadd, 1, 0, 0), some (.putfield 233, 3, 10, 20), none, none, some (.aload_n 0, 1, 0, 0), some (.getfield 43, 3, 10, 22), none, none, some (.aload_n 0, 1, 0, 0), some (.getfield 230, 3, 10, 19), none, none, some (.dup2, 1, 0, 0), some (.iaload, 1, 0, 0), some (.iconst 1, 1, 1, 0), some (.iadd, 1, 0, 0), some (.iastore, 1, 0, 0), some (.return_, 1, 0, 0)]]
def hm_m156 : hc_M := (⟨"HeardNextModel", "tellHouse", "()V"⟩, prog_12_method_26_code, 4, none, 10, 0, hm_t156)
def hm_t157 : hc_K := [[some (.aload_n 0, 1, 0, 0), some (.iconst 5, 1, 5, 0), some (.invokevirtual 255, 3, 148, 0), none, none, some (.aload_n 0, 1, 0, 0), some (.getfield 236, 3, 10, 31), none, none, some (.istore_n 2, 1, 2, 0), some (.iconst 0, 1, 0, 0), some (.istore_n 3, 1, 3, 0), some (.aload_n 0, 1, 0, 0), some (.getfield 197, 3, 10, 13), none, none, some (.ifCond .ne 113, 3, 129, 0), none, none, some (.aload_n 0, 1, 0, 0), some (.bipush 28, 2, 28, 0), none, some (.invokevirtual 215, 3, 144, 0), none, none, some (.ifCond .eq 104, 3, 129, 0), none, none, some (.iload_n 3, 1, 3, 0), some (.iconst 4, 1, 4, 0), some (.if_icmp .ne 8, 3, 38, 0)], [none, some (.aload_n 0, 1, 0, 0), some (.iconst 2, 1, 2, 0), some (.invokevirtual 212, 3, 145, 0), none, none, some (.aload_n 0, 1, 0, 0), some (.getfield 197, 3, 10, 13), none, none, some (.ifCond .le 4, 3, 46, 0), none, none, some (.return_, 1, 0, 0), some (.iinc 3 1, 3, 3, 1), none, none, some (.aload_n 0, 1, 0, 0), some (.invokevirtual 218, 3, 147, 0), none, none, some (.aload_n 0, 1, 0, 0), some (.getfield 70, 3, 10, 32), none, none, some (.aload_n 0, 1, 0, 0), some (.getfield 236, 3, 10, 31), none, none, some (.iconst 1, 1, 1, 0), some (.bastore, 1, 0, 0), some (.aload_n 0, 1, 0, 0)], [some (.getfield 74, 3, 10, 33), none, none, some (.aload_n 0, 1, 0, 0), some (.getfield 236, 3, 10, 31), none, none, some (.aload_n 0, 1, 0, 0), some (.getfield 239, 3, 10, 37), none, none, some (.iastore, 1, 0, 0), some (.aload_n 0, 1, 0, 0), some (.invokevirtual 274, 3, 161, 0), none, none, some (.aload_n 0, 1, 0, 0), some (.bipush 13, 2, 13, 0), none, some (.invokevirtual 255, 3, 148, 0), none, none, some (.aload_n 0, 1, 0, 0), some (.getfield 77, 3, 10, 34), none, none, some (.aload_n 0, 1, 0, 0), some (.getfield 236, 3, 10, 31), none, none, some (.aload_n 0, 1, 0, 0), some (.getfield 239, 3, 10, 37)], [none, none, some (.iastore, 1, 0, 0), some (.aload_n 0, 1, 0, 0), some (.getfield 197, 3, 10, 13), none, none, some (.ifCond .ne 7, 3, 110, 0), none, none, some (.aload_n 0, 1, 0, 0), some (.invokevirtual 274, 3, 161, 0), none, none, some (.aload_n 0, 1, 0, 0), some (.bipush 29, 2, 29, 0), none, some (.invokevirtual 255, 3, 148, 0), none, none, some (.aload_n 0, 1, 0, 0), some (.invokevirtual 277, 3, 158, 0), none, none, some (.aload_n 0, 1, 0, 0), some (.bipush 30, 2, 30, 0), none, some (.invokevirtual 255, 3, 148, 0), none, none, some (.goto (-114), 3, 12, 0)], [none, some (.aload_n 0, 1, 0, 0), some (.getfield 70, 3, 10, 32), none, none, some (.aload_n 0, 1, 0, 0), some (.getfield 236, 3, 10, 31), none, none, some (.iconst 0, 1, 0, 0), some (.bastore, 1, 0, 0), some (.aload_n 0, 1, 0, 0), some (.invokevirtual 277, 3, 158, 0), none, none, some (.aload_n 0, 1, 0, 0), some (.iconst 4, 1, 4, 0), some (.invokevirtual 255, 3, 148, 0), none, none, some (.aload_n 0, 1, 0, 0), some (.getfield 197, 3, 10, 13), none, none, some (.ifCond .le 4, 3, 156, 0), none, none, some (.return_, 1, 0, 0), some (.aload_n 0, 1, 0, 0), some (.getfield 64, 3, 10, 29)], [some (.iconst 4, 1, 4, 0), some (.aload_n 0, 1, 0, 0), some (.getfield 230, 3, 10, 19), none, none, some (.imul, 1, 0, 0), some (.iload_n 1, 1, 1, 0), some (.iadd, 1, 0, 0), some (.iload_n 2, 1, 2, 0), some (.iastore, 1, 0, 0), some (.aload_n 0, 1, 0, 0), some (.getfield 67, 3, 10, 30), none, none, some (.iconst 4, 1, 4, 0), some (.aload_n 0, 1, 0, 0), some (.getfield 230, 3, 10, 19), none, none, some (.imul, 1, 0, 0), some (.iload_n 1, 1, 1, 0), some (.iadd, 1, 0, 0), some (.aload_n 0, 1, 0, 0), some (.getfield 236, 3, 10, 31), none, none, some (.iastore, 1, 0, 0), some (.return_, 1, 0, 0)]]
def hm_m157 : hc_M := (⟨"HeardNextModel", "tellLaw", "(I)V"⟩, prog_12_method_27_code, 4, none, 10, 1, hm_t157)
def hm_t158 : hc_K := [[some (.aload_n 0, 1, 0, 0), some (.getfield 80, 3, 10, 35), none, none, some (.aload_n 0, 1, 0, 0), some (.getfield 236, 3, 10, 31), none, none, some (.aload_n 0, 1, 0, 0), some (.getfield 239, 3, 10, 37), none, none, some (.iastore, 1, 0, 0), some (.aload_n 0, 1, 0, 0), some (.getfield 197, 3, 10, 13), none, none, some (.ifCond .ne 7, 3, 24, 0), none, none, some (.aload_n 0, 1, 0, 0), some (.invokevirtual 274, 3, 161, 0), none, none, some (.aload_n 0, 1, 0, 0), some (.getfield 83, 3, 10, 36), none, none, some (.aload_n 0, 1, 0, 0), some (.getfield 236, 3, 10, 31)], [some (.aload_n 0, 1, 0, 0), some (.getfield 239, 3, 10, 37), none, none, some (.iastore, 1, 0, 0), some (.aload_n 0, 1, 0, 0), some (.dup, 1, 0, 0), some (.getfield 236, 3, 10, 31), none, none, some (.iconst 1, 1, 1, 0), some (.iadd, 1, 0, 0), some (.putfield 236, 3, 10, 31), none, none, some (.return_, 1, 0, 0)]]
def hm_m158 : hc_M := (⟨"HeardNextModel", "term", "()V"⟩, prog_12_method_28_code, 1, none, 10, 0, hm_t158)
def hm_t159 : hc_K := [[some (.aload_n 0, 1, 0, 0), some (.getfield 86, 3, 10, 38), none, none, some (.aload_n 0, 1, 0, 0), some (.getfield 239, 3, 10, 37), none, none, some (.iload_n 1, 1, 1, 0), some (.iastore, 1, 0, 0), some (.aload_n 0, 1, 0, 0), some (.getfield 89, 3, 10, 39), none, none, some (.aload_n 0, 1, 0, 0), some (.getfield 239, 3, 10, 37), none, none, some (.iload_n 2, 1, 2, 0), some (.iastore, 1, 0, 0), some (.aload_n 0, 1, 0, 0), some (.dup, 1, 0, 0), some (.getfield 239, 3, 10, 37), none, none, some (.iconst 1, 1, 1, 0), some (.iadd, 1, 0, 0), some (.putfield 239, 3, 10, 37), none, none, some (.return_, 1, 0, 0)]]
def hm_m159 : hc_M := (⟨"HeardNextModel", "emit", "(II)V"⟩, prog_12_method_29_code, 3, none, 10, 2, hm_t159)
def hm_t160 : hc_K := [[some (.aload_n 0, 1, 0, 0), some (.getfield 280, 3, 10, 41), none, none, some (.ifCond .le 87, 3, 91, 0), none, none, some (.aload_n 0, 1, 0, 0), some (.getfield 92, 3, 10, 40), none, none, some (.aload_n 0, 1, 0, 0), some (.getfield 280, 3, 10, 41), none, none, some (.iconst 1, 1, 1, 0), some (.isub, 1, 0, 0), some (.iaload, 1, 0, 0), some (.istore_n 2, 1, 2, 0), some (.iload_n 2, 1, 2, 0), some (.bipush 6, 2, 6, 0), none, some (.if_icmp .eq 19, 3, 41, 0), none, none, some (.iload_n 1, 1, 1, 0), some (.ifCond .eq 16, 3, 42, 0), none, none, some (.iload_n 2, 1, 2, 0), some (.bipush 8, 2, 8, 0)], [some (.if_icmp .eq 9, 3, 41, 0), none, none, some (.iload_n 2, 1, 2, 0), some (.bipush 9, 2, 9, 0), none, some (.if_icmp .ne 4, 3, 42, 0), none, none, some (.return_, 1, 0, 0), some (.aload_n 0, 1, 0, 0), some (.dup, 1, 0, 0), some (.getfield 280, 3, 10, 41), none, none, some (.iconst 1, 1, 1, 0), some (.isub, 1, 0, 0), some (.putfield 280, 3, 10, 41), none, none, some (.aload_n 0, 1, 0, 0), some (.iload_n 2, 1, 2, 0), some (.bipush 8, 2, 8, 0), none, some (.if_icmp .ne 7, 3, 63, 0), none, none, some (.iconst 2, 1, 2, 0), some (.goto 24, 3, 84, 0), none, none, some (.iload_n 2, 1, 2, 0)], [some (.bipush 9, 2, 9, 0), none, some (.if_icmp .ne 7, 3, 73, 0), none, none, some (.iconst 3, 1, 3, 0), some (.goto 14, 3, 84, 0), none, none, some (.iload_n 2, 1, 2, 0), some (.bipush 10, 2, 10, 0), none, some (.if_icmp .ne 7, 3, 83, 0), none, none, some (.iconst 4, 1, 4, 0), some (.goto 4, 3, 84, 0), none, none, some (.iconst 5, 1, 5, 0), some (.iconst 0, 1, 0, 0), some (.invokevirtual 283, 3, 159, 0), none, none, some (.goto (-88), 3, 0, 0), none, none, some (.return_, 1, 0, 0)]]
def hm_m160 : hc_M := (⟨"HeardNextModel", "comesOut", "(Z)V"⟩, prog_12_method_30_code, 3, none, 10, 1, hm_t160)
def hm_t161 : hc_K := [[some (.aload_n 0, 1, 0, 0), some (.iconst 0, 1, 0, 0), some (.putfield 280, 3, 10, 41), none, none, some (.aload_n 0, 1, 0, 0), some (.getfield 224, 3, 10, 12), none, none, some (.istore_n 1, 1, 1, 0), some (.iconst 1, 1, 1, 0), some (.istore_n 2, 1, 2, 0), some (.iload_n 2, 1, 2, 0), some (.ifCond .eq 259, 3, 272, 0), none, none, some (.aload_n 0, 1, 0, 0), some (.getfield 197, 3, 10, 13), none, none, some (.ifCond .ne 252, 3, 272, 0), none, none, some (.aload_n 0, 1, 0, 0), some (.bipush 6, 2, 6, 0), none, some (.invokevirtual 215, 3, 144, 0), none, none, some (.ifCond .eq 55, 3, 84, 0)], [some (.aload_n 0, 1, 0, 0), some (.getfield 224, 3, 10, 12), none, none, some (.bipush 6, 2, 6, 0), none, some (.if_icmp .ne 8, 3, 46, 0), none, none, some (.aload_n 0, 1, 0, 0), some (.iconst 2, 1, 2, 0), some (.invokevirtual 212, 3, 145, 0), none, none, some (.aload_n 0, 1, 0, 0), some (.dup, 1, 0, 0), some (.getfield 224, 3, 10, 12), none, none, some (.iconst 1, 1, 1, 0), some (.iadd, 1, 0, 0), some (.putfield 224, 3, 10, 12), none, none, some (.aload_n 0, 1, 0, 0), some (.invokevirtual 218, 3, 147, 0), none, none, some (.aload_n 0, 1, 0, 0), some (.getfield 92, 3, 10, 40)], [some (.aload_n 0, 1, 0, 0), some (.getfield 280, 3, 10, 41), none, none, some (.bipush 6, 2, 6, 0), none, some (.iastore, 1, 0, 0), some (.aload_n 0, 1, 0, 0), some (.dup, 1, 0, 0), some (.getfield 280, 3, 10, 41), none, none, some (.iconst 1, 1, 1, 0), some (.iadd, 1, 0, 0), some (.putfield 280, 3, 10, 41), none, none, some (.goto (-58), 3, 23, 0), none, none, some (.aload_n 0, 1, 0, 0), some (.invokevirtual 286, 3, 162, 0), none, none, some (.aload_n 0, 1, 0, 0), some (.getfield 197, 3, 10, 13), none, none, some (.ifCond .le 4, 3, 96, 0), none, none, some (.return_, 1, 0, 0)], [some (.aload_n 0, 1, 0, 0), some (.bipush 7, 2, 7, 0), none, some (.invokevirtual 215, 3, 144, 0), none, none, some (.ifCond .eq 43, 3, 145, 0), none, none, some (.aload_n 0, 1, 0, 0), some (.getfield 224, 3, 10, 12), none, none, some (.iload_n 1, 1, 1, 0), some (.if_icmp .le 35, 3, 145, 0), none, none, some (.aload_n 0, 1, 0, 0), some (.iconst 0, 1, 0, 0), some (.invokevirtual 289, 3, 160, 0), none, none, some (.aload_n 0, 1, 0, 0), some (.dup, 1, 0, 0), some (.getfield 280, 3, 10, 41), none, none, some (.iconst 1, 1, 1, 0), some (.isub, 1, 0, 0), some (.putfield 280, 3, 10, 41)], [some (.aload_n 0, 1, 0, 0), some (.dup, 1, 0, 0), some (.getfield 224, 3, 10, 12), none, none, some (.iconst 1, 1, 1, 0), some (.isub, 1, 0, 0), some (.putfield 224, 3, 10, 12), none, none, some (.aload_n 0, 1, 0, 0), some (.invokevirtual 218, 3, 147, 0), none, none, some (.goto (-46), 3, 96, 0), none, none, some (.aload_n 0, 1, 0, 0), some (.bipush 8, 2, 8, 0), none, some (.invokevirtual 215, 3, 144, 0), none, none, some (.ifCond .ne 30, 3, 181, 0), none, none, some (.aload_n 0, 1, 0, 0), some (.bipush 9, 2, 9, 0), none, some (.invokevirtual 215, 3, 144, 0)], [some (.ifCond .ne 21, 3, 181, 0), none, none, some (.aload_n 0, 1, 0, 0), some (.bipush 10, 2, 10, 0), none, some (.invokevirtual 215, 3, 144, 0), none, none, some (.ifCond .ne 12, 3, 181, 0), none, none, some (.aload_n 0, 1, 0, 0), some (.bipush 15, 2, 15, 0), none, some (.invokevirtual 215, 3, 144, 0), none, none, some (.ifCond .eq 7, 3, 185, 0), none, none, some (.iconst 1, 1, 1, 0), some (.goto 4, 3, 186, 0), none, none, some (.iconst 0, 1, 0, 0), some (.istore_n 2, 1, 2, 0), some (.iload_n 2, 1, 2, 0), some (.ifCond .ne 22, 3, 210, 0), none, none, some (.aload_n 0, 1, 0, 0)], [some (.getfield 224, 3, 10, 12), none, none, some (.iload_n 1, 1, 1, 0), some (.if_icmp .le 8, 3, 204, 0), none, none, some (.aload_n 0, 1, 0, 0), some (.iconst 1, 1, 1, 0), some (.invokevirtual 212, 3, 145, 0), none, none, some (.aload_n 0, 1, 0, 0), some (.iconst 0, 1, 0, 0), some (.invokevirtual 289, 3, 160, 0), none, none, some (.return_, 1, 0, 0), some (.aload_n 0, 1, 0, 0), some (.aload_n 0, 1, 0, 0), some (.bipush 10, 2, 10, 0), none, some (.invokevirtual 215, 3, 144, 0), none, none, some (.ifCond .ne 12, 3, 229, 0), none, none, some (.aload_n 0, 1, 0, 0), some (.bipush 15, 2, 15, 0), none, some (.invokevirtual 215, 3, 144, 0)], [none, none, some (.ifCond .eq 7, 3, 233, 0), none, none, some (.iconst 1, 1, 1, 0), some (.goto 4, 3, 234, 0), none, none, some (.iconst 0, 1, 0, 0), some (.invokevirtual 289, 3, 160, 0), none, none, some (.aload_n 0, 1, 0, 0), some (.getfield 92, 3, 10, 40), none, none, some (.aload_n 0, 1, 0, 0), some (.getfield 280, 3, 10, 41), none, none, some (.aload_n 0, 1, 0, 0), some (.getfield 20, 3, 10, 5), none, none, some (.aload_n 0, 1, 0, 0), some (.getfield 200, 3, 10, 11), none, none, some (.iaload, 1, 0, 0), some (.iastore, 1, 0, 0), some (.aload_n 0, 1, 0, 0)], [some (.dup, 1, 0, 0), some (.getfield 280, 3, 10, 41), none, none, some (.iconst 1, 1, 1, 0), some (.iadd, 1, 0, 0), some (.putfield 280, 3, 10, 41), none, none, some (.aload_n 0, 1, 0, 0), some (.invokevirtual 218, 3, 147, 0), none, none, some (.goto (-257), 3, 12, 0), none, none, some (.return_, 1, 0, 0)]]
def hm_m161 : hc_M := (⟨"HeardNextModel", "expression", "()V"⟩, prog_12_method_31_code, 3, none, 10, 0, hm_t161)
def hm_t162 : hc_K := [[some (.aload_n 0, 1, 0, 0), some (.iconst 2, 1, 2, 0), some (.invokevirtual 215, 3, 144, 0), none, none, some (.ifCond .eq 24, 3, 29, 0), none, none, some (.aload_n 0, 1, 0, 0), some (.iconst 0, 1, 0, 0), some (.aload_n 0, 1, 0, 0), some (.getfield 27, 3, 10, 7), none, none, some (.aload_n 0, 1, 0, 0), some (.getfield 200, 3, 10, 11), none, none, some (.iaload, 1, 0, 0), some (.invokevirtual 283, 3, 159, 0), none, none, some (.aload_n 0, 1, 0, 0), some (.invokevirtual 218, 3, 147, 0), none, none, some (.goto 67, 3, 93, 0), none, none, some (.aload_n 0, 1, 0, 0), some (.getfield 197, 3, 10, 13)], [none, some (.ifCond .ne 55, 3, 88, 0), none, none, some (.aload_n 0, 1, 0, 0), some (.getfield 20, 3, 10, 5), none, none, some (.aload_n 0, 1, 0, 0), some (.getfield 200, 3, 10, 11), none, none, some (.iaload, 1, 0, 0), some (.bipush 31, 2, 31, 0), none, some (.if_icmp .lt 41, 3, 88, 0), none, none, some (.aload_n 0, 1, 0, 0), some (.getfield 20, 3, 10, 5), none, none, some (.aload_n 0, 1, 0, 0), some (.getfield 200, 3, 10, 11), none, none, some (.iaload, 1, 0, 0), some (.bipush 39, 2, 39, 0), none, some (.if_icmp .gt 27, 3, 88, 0)], [some (.aload_n 0, 1, 0, 0), some (.iconst 1, 1, 1, 0), some (.aload_n 0, 1, 0, 0), some (.getfield 20, 3, 10, 5), none, none, some (.aload_n 0, 1, 0, 0), some (.getfield 200, 3, 10, 11), none, none, some (.iaload, 1, 0, 0), some (.bipush 31, 2, 31, 0), none, some (.isub, 1, 0, 0), some (.invokevirtual 283, 3, 159, 0), none, none, some (.aload_n 0, 1, 0, 0), some (.invokevirtual 218, 3, 147, 0), none, none, some (.goto 8, 3, 93, 0), none, none, some (.aload_n 0, 1, 0, 0), some (.iconst 1, 1, 1, 0), some (.invokevirtual 212, 3, 145, 0), none, none, some (.return_, 1, 0, 0)]]
def hm_m162 : hc_M := (⟨"HeardNextModel", "unit", "()V"⟩, prog_12_method_32_code, 1, none, 10, 0, hm_t162)
def hm_t163 : hc_K := [[some (.iconst 0, 1, 0, 0), some (.istore_n 3, 1, 3, 0), some (.iload_n 1, 1, 1, 0), some (.istore 4, 2, 4, 0), none, some (.iload 4, 2, 4, 0), none, some (.iload_n 2, 1, 2, 0), some (.if_icmp .ge 157, 3, 165, 0), none, none, some (.aload_n 0, 1, 0, 0), some (.getfield 86, 3, 10, 38), none, none, some (.iload 4, 2, 4, 0), none, some (.iaload, 1, 0, 0), some (.istore 5, 2, 5, 0), none, some (.iload 5, 2, 5, 0), none, some (.iconst 2, 1, 2, 0), some (.if_icmp .ge 42, 3, 65, 0), none, none, some (.aload_n 0, 1, 0, 0), some (.getfield 98, 3, 10, 43), none, none, some (.iload_n 3, 1, 3, 0), some (.iload 5, 2, 5, 0)], [none, some (.ifCond .ne 13, 3, 46, 0), none, none, some (.aload_n 0, 1, 0, 0), some (.getfield 89, 3, 10, 39), none, none, some (.iload 4, 2, 4, 0), none, some (.iaload, 1, 0, 0), some (.goto 15, 3, 58, 0), none, none, some (.aload_n 0, 1, 0, 0), some (.getfield 95, 3, 10, 42), none, none, some (.aload_n 0, 1, 0, 0), some (.getfield 89, 3, 10, 39), none, none, some (.iload 4, 2, 4, 0), none, some (.iaload, 1, 0, 0), some (.iaload, 1, 0, 0), some (.iastore, 1, 0, 0), some (.iinc 3 1, 3, 3, 1), none, none, some (.goto 97, 3, 159, 0)], [none, some (.iinc 3 (-1), 3, 3, 4294967295), none, none, some (.aload_n 0, 1, 0, 0), some (.getfield 98, 3, 10, 43), none, none, some (.iload_n 3, 1, 3, 0), some (.iconst 1, 1, 1, 0), some (.isub, 1, 0, 0), some (.iaload, 1, 0, 0), some (.istore 6, 2, 6, 0), none, some (.aload_n 0, 1, 0, 0), some (.getfield 98, 3, 10, 43), none, none, some (.iload_n 3, 1, 3, 0), some (.iaload, 1, 0, 0), some (.istore 7, 2, 7, 0), none, some (.iload 5, 2, 5, 0), none, some (.iconst 5, 1, 5, 0), some (.if_icmp .ne 15, 3, 104, 0), none, none, some (.iload 7, 2, 7, 0), none, some (.ifCond .ne 10, 3, 104, 0)], [none, some (.aload_n 0, 1, 0, 0), some (.iconst 1, 1, 1, 0), some (.putfield 293, 3, 10, 44), none, none, some (.iconst 0, 1, 0, 0), some (.ireturn, 1, 0, 0), some (.aload_n 0, 1, 0, 0), some (.getfield 98, 3, 10, 43), none, none, some (.iload_n 3, 1, 3, 0), some (.iconst 1, 1, 1, 0), some (.isub, 1, 0, 0), some (.iload 5, 2, 5, 0), none, some (.iconst 2, 1, 2, 0), some (.if_icmp .ne 11, 3, 125, 0), none, none, some (.iload 6, 2, 6, 0), none, some (.iload 7, 2, 7, 0), none, some (.iadd, 1, 0, 0), some (.goto 36, 3, 158, 0), none, none, some (.iload 5, 2, 5, 0), none, some (.iconst 3, 1, 3, 0)], [some (.if_icmp .ne 11, 3, 139, 0), none, none, some (.iload 6, 2, 6, 0), none, some (.iload 7, 2, 7, 0), none, some (.isub, 1, 0, 0), some (.goto 22, 3, 158, 0), none, none, some (.iload 5, 2, 5, 0), none, some (.iconst 4, 1, 4, 0), some (.if_icmp .ne 11, 3, 153, 0), none, none, some (.iload 6, 2, 6, 0), none, some (.iload 7, 2, 7, 0), none, some (.imul, 1, 0, 0), some (.goto 8, 3, 158, 0), none, none, some (.iload 6, 2, 6, 0), none, some (.iload 7, 2, 7, 0), none, some (.idiv, 1, 0, 0), some (.iastore, 1, 0, 0), some (.iinc 4 1, 3, 4, 1)], [none, none, some (.goto (-157), 3, 5, 0), none, none, some (.aload_n 0, 1, 0, 0), some (.getfield 98, 3, 10, 43), none, none, some (.iconst 0, 1, 0, 0), some (.iaload, 1, 0, 0), some (.ireturn, 1, 0, 0)]]
def hm_m163 : hc_M := (⟨"HeardNextModel", "termOf", "(II)I"⟩, prog_12_method_33_code, 8, (some (.int)), 10, 2, hm_t163)
def hm_t164 : hc_K := [[some (.iload_n 0, 1, 0, 0), some (.iload_n 1, 1, 1, 0), some (.if_icmp .lt 12, 3, 14, 0), none, none, some (.iload_n 0, 1, 0, 0), some (.iload_n 2, 1, 2, 0), some (.if_icmp .gt 7, 3, 14, 0), none, none, some (.iconst 1, 1, 1, 0), some (.goto 4, 3, 15, 0), none, none, some (.iconst 0, 1, 0, 0), some (.ireturn, 1, 0, 0)]]
def hm_m164 : hc_M := (⟨"HeardNextModel", "in", "(III)Z"⟩, prog_12_method_34_code, 3, (some (.boolean)), 10, 3, hm_t164)
def hm_t165 : hc_K := [[some (.iload_n 0, 1, 0, 0), some (.iload_n 1, 1, 1, 0), some (.if_icmp .ge 7, 3, 9, 0), none, none, some (.iload_n 1, 1, 1, 0), some (.goto 13, 3, 19, 0), none, none, some (.iload_n 0, 1, 0, 0), some (.iload_n 2, 1, 2, 0), some (.if_icmp .le 7, 3, 18, 0), none, none, some (.iload_n 2, 1, 2, 0), some (.goto 4, 3, 19, 0), none, none, some (.iload_n 0, 1, 0, 0), some (.ireturn, 1, 0, 0)]]
def hm_m165 : hc_M := (⟨"HeardNextModel", "within", "(III)I"⟩, prog_12_method_35_code, 3, (some (.int)), 10, 3, hm_t165)
def hm_t166 : hc_K := [[some (.iconst 0, 1, 0, 0), some (.istore_n 1, 1, 1, 0), some (.iconst 0, 1, 0, 0), some (.istore_n 2, 1, 2, 0), some (.iload_n 2, 1, 2, 0), some (.bipush 10, 2, 10, 0), none, some (.if_icmp .ge 17, 3, 24, 0), none, none, some (.iload_n 1, 1, 1, 0), some (.iload_n 0, 1, 0, 0), some (.iload_n 2, 1, 2, 0), some (.ishr, 1, 0, 0), some (.iconst 1, 1, 1, 0), some (.iand, 1, 0, 0), some (.iadd, 1, 0, 0), some (.istore_n 1, 1, 1, 0), some (.iinc 2 1, 3, 2, 1), none, none, some (.goto (-17), 3, 4, 0), none, none, some (.iload_n 1, 1, 1, 0), some (.ireturn, 1, 0, 0)]]
def hm_m166 : hc_M := (⟨"HeardNextModel", "bits", "(I)I"⟩, prog_12_method_36_code, 3, (some (.int)), 10, 1, hm_t166)
def hm_t167 : hc_K := [[some (.iload_n 1, 1, 1, 0), some (.iconst 0, 1, 0, 0), some (.aload_n 0, 1, 0, 0), some (.getfield 43, 3, 10, 22), none, none, some (.aload_n 0, 1, 0, 0), some (.getfield 227, 3, 10, 18), none, none, some (.iaload, 1, 0, 0), some (.iconst 1, 1, 1, 0), some (.isub, 1, 0, 0), some (.invokestatic 297, 3, 164, 2), none, none, some (.ireturn, 1, 0, 0)]]
def hm_m167 : hc_M := (⟨"HeardNextModel", "isHouse", "(I)Z"⟩, prog_12_method_37_code, 2, (some (.boolean)), 10, 1, hm_t167)
def hm_t168 : hc_K := [[some (.iload_n 0, 1, 0, 0), some (.iconst 0, 1, 0, 0), some (.sipush 255, 3, 255, 0), none, none, some (.invokestatic 297, 3, 164, 2), none, none, some (.ireturn, 1, 0, 0)]]
def hm_m168 : hc_M := (⟨"HeardNextModel", "isProgramme", "(I)Z"⟩, prog_12_method_38_code, 1, (some (.boolean)), 10, 1, hm_t168)
def hm_t169 : hc_K := [[some (.iconst 0, 1, 0, 0), some (.istore_n 1, 1, 1, 0), some (.iload_n 1, 1, 1, 0), some (.bipush 73, 2, 73, 0), none, some (.if_icmp .ge 16, 3, 21, 0), none, none, some (.aload_n 0, 1, 0, 0), some (.getfield 104, 3, 10, 46), none, none, some (.iload_n 1, 1, 1, 0), some (.iconst 0, 1, 0, 0), some (.iastore, 1, 0, 0), some (.iinc 1 1, 3, 1, 1), none, none, some (.goto (-16), 3, 2, 0), none, none, some (.iconst 0, 1, 0, 0), some (.istore_n 1, 1, 1, 0), some (.iload_n 1, 1, 1, 0), some (.aload_n 0, 1, 0, 0), some (.getfield 43, 3, 10, 22), none, none, some (.aload_n 0, 1, 0, 0), some (.getfield 227, 3, 10, 18)], [some (.iaload, 1, 0, 0), some (.if_icmp .ge 72, 3, 105, 0), none, none, some (.aload_n 0, 1, 0, 0), some (.getfield 104, 3, 10, 46), none, none, some (.iload_n 1, 1, 1, 0), some (.aload_n 0, 1, 0, 0), some (.getfield 46, 3, 10, 23), none, none, some (.bipush 10, 2, 10, 0), none, some (.aload_n 0, 1, 0, 0), some (.getfield 227, 3, 10, 18), none, none, some (.imul, 1, 0, 0), some (.iload_n 1, 1, 1, 0), some (.iadd, 1, 0, 0), some (.iaload, 1, 0, 0), some (.iastore, 1, 0, 0), some (.aload_n 0, 1, 0, 0), some (.getfield 104, 3, 10, 46), none, none, some (.bipush 10, 2, 10, 0), none, some (.iload_n 1, 1, 1, 0), some (.iadd, 1, 0, 0)], [some (.aload_n 0, 1, 0, 0), some (.getfield 49, 3, 10, 24), none, none, some (.bipush 10, 2, 10, 0), none, some (.aload_n 0, 1, 0, 0), some (.getfield 227, 3, 10, 18), none, none, some (.imul, 1, 0, 0), some (.iload_n 1, 1, 1, 0), some (.iadd, 1, 0, 0), some (.iaload, 1, 0, 0), some (.iastore, 1, 0, 0), some (.aload_n 0, 1, 0, 0), some (.getfield 104, 3, 10, 46), none, none, some (.bipush 20, 2, 20, 0), none, some (.iload_n 1, 1, 1, 0), some (.iadd, 1, 0, 0), some (.iload_n 1, 1, 1, 0), some (.iastore, 1, 0, 0), some (.aload_n 0, 1, 0, 0), some (.getfield 104, 3, 10, 46), none, none, some (.bipush 50, 2, 50, 0), none, some (.iload_n 1, 1, 1, 0)], [some (.iadd, 1, 0, 0), some (.iconst 1, 1, 1, 0), some (.iastore, 1, 0, 0), some (.iinc 1 1, 3, 1, 1), none, none, some (.goto (-79), 3, 23, 0), none, none, some (.aload_n 0, 1, 0, 0), some (.getfield 104, 3, 10, 46), none, none, some (.bipush 71, 2, 71, 0), none, some (.iconst (-1), 1, 4294967295, 0), some (.iastore, 1, 0, 0), some (.aload_n 0, 1, 0, 0), some (.aload_n 0, 1, 0, 0), some (.getfield 61, 3, 10, 28), none, none, some (.aload_n 0, 1, 0, 0), some (.getfield 227, 3, 10, 18), none, none, some (.iaload, 1, 0, 0), some (.putfield 301, 3, 10, 47), none, none, some (.aload_n 0, 1, 0, 0), some (.iconst 0, 1, 0, 0)], [some (.putfield 304, 3, 10, 48), none, none, some (.return_, 1, 0, 0)]]
def hm_m169 : hc_M := (⟨"HeardNextModel", "begins", "()V"⟩, prog_12_method_39_code, 2, none, 10, 0, hm_t169)
def hm_t170 : hc_K := [[some (.iconst 0, 1, 0, 0), some (.istore_n 1, 1, 1, 0), some (.iload_n 1, 1, 1, 0), some (.bipush 73, 2, 73, 0), none, some (.if_icmp .ge 21, 3, 26, 0), none, none, some (.aload_n 0, 1, 0, 0), some (.getfield 101, 3, 10, 45), none, none, some (.iload_n 1, 1, 1, 0), some (.aload_n 0, 1, 0, 0), some (.getfield 104, 3, 10, 46), none, none, some (.iload_n 1, 1, 1, 0), some (.iaload, 1, 0, 0), some (.iastore, 1, 0, 0), some (.iinc 1 1, 3, 1, 1), none, none, some (.goto (-21), 3, 2, 0), none, none, some (.return_, 1, 0, 0)]]
def hm_m170 : hc_M := (⟨"HeardNextModel", "keepsRow", "()V"⟩, prog_12_method_40_code, 2, none, 10, 0, hm_t170)
def hm_t171 : hc_K := [[some (.iconst 0, 1, 0, 0), some (.istore_n 1, 1, 1, 0), some (.iload_n 1, 1, 1, 0), some (.bipush 73, 2, 73, 0), none, some (.if_icmp .ge 21, 3, 26, 0), none, none, some (.aload_n 0, 1, 0, 0), some (.getfield 104, 3, 10, 46), none, none, some (.iload_n 1, 1, 1, 0), some (.aload_n 0, 1, 0, 0), some (.getfield 101, 3, 10, 45), none, none, some (.iload_n 1, 1, 1, 0), some (.iaload, 1, 0, 0), some (.iastore, 1, 0, 0), some (.iinc 1 1, 3, 1, 1), none, none, some (.goto (-21), 3, 2, 0), none, none, some (.aload_n 0, 1, 0, 0), some (.aload_n 0, 1, 0, 0), some (.getfield 61, 3, 10, 28), none, none, some (.aload_n 0, 1, 0, 0)], [some (.getfield 227, 3, 10, 18), none, none, some (.iaload, 1, 0, 0), some (.putfield 301, 3, 10, 47), none, none, some (.aload_n 0, 1, 0, 0), some (.iconst 0, 1, 0, 0), some (.putfield 304, 3, 10, 48), none, none, some (.return_, 1, 0, 0)]]
def hm_m171 : hc_M := (⟨"HeardNextModel", "copies", "()V"⟩, prog_12_method_41_code, 2, none, 10, 0, hm_t171)
def hm_t172 : hc_K := [[some (.aload_n 0, 1, 0, 0), some (.invokevirtual 307, 3, 171, 0), none, none, some (.aload_n 0, 1, 0, 0), some (.iconst 1, 1, 1, 0), some (.putfield 304, 3, 10, 48), none, none, some (.return_, 1, 0, 0)]]
def hm_m172 : hc_M := (⟨"HeardNextModel", "copiesStill", "()V"⟩, prog_12_method_42_code, 1, none, 10, 0, hm_t172)
def hm_t173 : hc_K := [[some (.iload_n 0, 1, 0, 0), some (.iload_n 1, 1, 1, 0), some (.ixor, 1, 0, 0), some (.ldc_w 310, 3, 1103515245, 0), none, none, some (.imul, 1, 0, 0), some (.sipush 12345, 3, 12345, 0), none, none, some (.iadd, 1, 0, 0), some (.istore_n 2, 1, 2, 0), some (.iload_n 2, 1, 2, 0), some (.iload_n 2, 1, 2, 0), some (.bipush 15, 2, 15, 0), none, some (.iushr, 1, 0, 0), some (.ixor, 1, 0, 0), some (.ireturn, 1, 0, 0)]]
def hm_m173 : hc_M := (⟨"HeardNextModel", "mixed", "(II)I"⟩, prog_12_method_43_code, 3, (some (.int)), 10, 2, hm_t173)
def hm_t174 : hc_K := [[some (.aload_n 0, 1, 0, 0), some (.getfield 301, 3, 10, 47), none, none, some (.sipush 137, 3, 137, 0), none, none, some (.invokestatic 311, 3, 173, 2), none, none, some (.iload_n 1, 1, 1, 0), some (.invokestatic 311, 3, 173, 2), none, none, some (.iconst 1, 1, 1, 0), some (.iushr, 1, 0, 0), some (.bipush 100, 2, 100, 0), none, some (.irem, 1, 0, 0), some (.ireturn, 1, 0, 0)]]
def hm_m174 : hc_M := (⟨"HeardNextModel", "lotOf", "(I)I"⟩, prog_12_method_44_code, 2, (some (.int)), 10, 1, hm_t174)
def hm_t175 : hc_K := [[some (.aload_n 0, 1, 0, 0), some (.getfield 95, 3, 10, 42), none, none, some (.iconst 0, 1, 0, 0), some (.iload_n 1, 1, 1, 0), some (.iastore, 1, 0, 0), some (.aload_n 0, 1, 0, 0), some (.getfield 95, 3, 10, 42), none, none, some (.iconst 1, 1, 1, 0), some (.iload 4, 2, 4, 0), none, some (.bipush 24, 2, 24, 0), none, some (.irem, 1, 0, 0), some (.iastore, 1, 0, 0), some (.aload_n 0, 1, 0, 0), some (.getfield 95, 3, 10, 42), none, none, some (.iconst 2, 1, 2, 0), some (.iload 4, 2, 4, 0), none, some (.bipush 24, 2, 24, 0), none, some (.idiv, 1, 0, 0), some (.iastore, 1, 0, 0), some (.aload_n 0, 1, 0, 0), some (.getfield 95, 3, 10, 42)], [none, some (.iconst 3, 1, 3, 0), some (.iload_n 3, 1, 3, 0), some (.iastore, 1, 0, 0), some (.aload_n 0, 1, 0, 0), some (.getfield 95, 3, 10, 42), none, none, some (.iconst 4, 1, 4, 0), some (.aload_n 0, 1, 0, 0), some (.getfield 104, 3, 10, 46), none, none, some (.iload_n 1, 1, 1, 0), some (.iaload, 1, 0, 0), some (.invokestatic 314, 3, 166, 2), none, none, some (.iastore, 1, 0, 0), some (.aload_n 0, 1, 0, 0), some (.getfield 95, 3, 10, 42), none, none, some (.iconst 5, 1, 5, 0), some (.aload_n 0, 1, 0, 0), some (.getfield 104, 3, 10, 46), none, none, some (.bipush 10, 2, 10, 0), none, some (.iload_n 1, 1, 1, 0), some (.iadd, 1, 0, 0)], [some (.iaload, 1, 0, 0), some (.iastore, 1, 0, 0), some (.aload_n 0, 1, 0, 0), some (.getfield 95, 3, 10, 42), none, none, some (.bipush 6, 2, 6, 0), none, some (.iload_n 2, 1, 2, 0), some (.iastore, 1, 0, 0), some (.aload_n 0, 1, 0, 0), some (.getfield 95, 3, 10, 42), none, none, some (.bipush 7, 2, 7, 0), none, some (.aload_n 0, 1, 0, 0), some (.getfield 43, 3, 10, 22), none, none, some (.aload_n 0, 1, 0, 0), some (.getfield 227, 3, 10, 18), none, none, some (.iaload, 1, 0, 0), some (.iastore, 1, 0, 0), some (.aload_n 0, 1, 0, 0), some (.getfield 95, 3, 10, 42), none, none, some (.bipush 8, 2, 8, 0)], [some (.aload_n 0, 1, 0, 0), some (.getfield 104, 3, 10, 46), none, none, some (.bipush 40, 2, 40, 0), none, some (.iload_n 1, 1, 1, 0), some (.iadd, 1, 0, 0), some (.iaload, 1, 0, 0), some (.invokestatic 314, 3, 166, 2), none, none, some (.iastore, 1, 0, 0), some (.return_, 1, 0, 0)]]
def hm_m175 : hc_M := (⟨"HeardNextModel", "looks", "(IIII)V"⟩, prog_12_method_45_code, 5, none, 10, 4, hm_t175)
def hm_t176 : hc_K := [[some (.iconst 4, 1, 4, 0), some (.aload_n 0, 1, 0, 0), some (.getfield 227, 3, 10, 18), none, none, some (.imul, 1, 0, 0), some (.iload_n 1, 1, 1, 0), some (.iadd, 1, 0, 0), some (.istore_n 3, 1, 3, 0), some (.aload_n 0, 1, 0, 0), some (.getfield 64, 3, 10, 29), none, none, some (.iload_n 3, 1, 3, 0), some (.iaload, 1, 0, 0), some (.aload_n 0, 1, 0, 0), some (.getfield 67, 3, 10, 30), none, none, some (.iload_n 3, 1, 3, 0), some (.iaload, 1, 0, 0), some (.if_icmp .ne 5, 3, 26, 0), none, none, some (.iload_n 2, 1, 2, 0), some (.ireturn, 1, 0, 0), some (.aload_n 0, 1, 0, 0), some (.iconst 0, 1, 0, 0), some (.putfield 293, 3, 10, 44), none, none, some (.aload_n 0, 1, 0, 0)], [some (.getfield 64, 3, 10, 29), none, none, some (.iload_n 3, 1, 3, 0), some (.iaload, 1, 0, 0), some (.istore 4, 2, 4, 0), none, some (.iload 4, 2, 4, 0), none, some (.aload_n 0, 1, 0, 0), some (.getfield 67, 3, 10, 30), none, none, some (.iload_n 3, 1, 3, 0), some (.iaload, 1, 0, 0), some (.if_icmp .ge 112, 3, 159, 0), none, none, some (.aload_n 0, 1, 0, 0), some (.getfield 70, 3, 10, 32), none, none, some (.iload 4, 2, 4, 0), none, some (.baload, 1, 0, 0), some (.ifCond .eq 62, 3, 119, 0), none, none, some (.aload_n 0, 1, 0, 0), some (.aload_n 0, 1, 0, 0), some (.getfield 74, 3, 10, 33)], [none, some (.iload 4, 2, 4, 0), none, some (.iaload, 1, 0, 0), some (.aload_n 0, 1, 0, 0), some (.getfield 77, 3, 10, 34), none, none, some (.iload 4, 2, 4, 0), none, some (.iaload, 1, 0, 0), some (.invokevirtual 317, 3, 163, 0), none, none, some (.istore 5, 2, 5, 0), none, some (.aload_n 0, 1, 0, 0), some (.aload_n 0, 1, 0, 0), some (.getfield 77, 3, 10, 34), none, none, some (.iload 4, 2, 4, 0), none, some (.iaload, 1, 0, 0), some (.aload_n 0, 1, 0, 0), some (.getfield 80, 3, 10, 35), none, none, some (.iload 4, 2, 4, 0), none, some (.iaload, 1, 0, 0), some (.invokevirtual 317, 3, 163, 0)], [none, none, some (.istore 6, 2, 6, 0), none, some (.aload_n 0, 1, 0, 0), some (.getfield 293, 3, 10, 44), none, none, some (.ifCond .eq 5, 3, 109, 0), none, none, some (.iconst 0, 1, 0, 0), some (.ireturn, 1, 0, 0), some (.iload 5, 2, 5, 0), none, some (.iload 6, 2, 6, 0), none, some (.if_icmp .lt 6, 3, 119, 0), none, none, some (.goto 37, 3, 153, 0), none, none, some (.aload_n 0, 1, 0, 0), some (.aload_n 0, 1, 0, 0), some (.getfield 80, 3, 10, 35), none, none, some (.iload 4, 2, 4, 0), none, some (.iaload, 1, 0, 0), some (.aload_n 0, 1, 0, 0)], [some (.getfield 83, 3, 10, 36), none, none, some (.iload 4, 2, 4, 0), none, some (.iaload, 1, 0, 0), some (.invokevirtual 317, 3, 163, 0), none, none, some (.istore 5, 2, 5, 0), none, some (.aload_n 0, 1, 0, 0), some (.getfield 293, 3, 10, 44), none, none, some (.ifCond .eq 7, 3, 150, 0), none, none, some (.iconst 0, 1, 0, 0), some (.goto 5, 3, 152, 0), none, none, some (.iload 5, 2, 5, 0), none, some (.ireturn, 1, 0, 0), some (.iinc 4 1, 3, 4, 1), none, none, some (.goto (-117), 3, 39, 0), none, none, some (.iconst 0, 1, 0, 0)], [some (.ireturn, 1, 0, 0)]]
def hm_m176 : hc_M := (⟨"HeardNextModel", "lawTells", "(II)I"⟩, prog_12_method_46_code, 7, (some (.int)), 10, 2, hm_t176)
def hm_t177 : hc_K := [[some (.aload_n 0, 1, 0, 0), some (.iload_n 1, 1, 1, 0), some (.iload_n 2, 1, 2, 0), some (.iload_n 3, 1, 3, 0), some (.iload 4, 2, 4, 0), none, some (.invokevirtual 320, 3, 175, 0), none, none, some (.aload_n 0, 1, 0, 0), some (.iconst 0, 1, 0, 0), some (.iconst 1, 1, 1, 0), some (.invokevirtual 324, 3, 176, 0), none, none, some (.ifCond .le 7, 3, 22, 0), none, none, some (.iconst 1, 1, 1, 0), some (.goto 4, 3, 23, 0), none, none, some (.iconst 0, 1, 0, 0), some (.ireturn, 1, 0, 0)]]
def hm_m177 : hc_M := (⟨"HeardNextModel", "isKept", "(IIII)Z"⟩, prog_12_method_47_code, 5, (some (.boolean)), 10, 4, hm_t177)
def hm_t178 : hc_K := [[some (.aload_n 0, 1, 0, 0), some (.iload_n 1, 1, 1, 0), some (.iload_n 2, 1, 2, 0), some (.iconst 0, 1, 0, 0), some (.iload_n 3, 1, 3, 0), some (.invokevirtual 320, 3, 175, 0), none, none, some (.aload_n 0, 1, 0, 0), some (.iconst 1, 1, 1, 0), some (.iconst 0, 1, 0, 0), some (.invokevirtual 324, 3, 176, 0), none, none, some (.iconst 0, 1, 0, 0), some (.bipush 7, 2, 7, 0), none, some (.invokestatic 327, 3, 165, 2), none, none, some (.ireturn, 1, 0, 0)]]
def hm_m178 : hc_M := (⟨"HeardNextModel", "turnsOf", "(III)I"⟩, prog_12_method_48_code, 4, (some (.int)), 10, 3, hm_t178)
def hm_t179 : hc_K := [[some (.aload_n 0, 1, 0, 0), some (.iload_n 1, 1, 1, 0), some (.iconst 0, 1, 0, 0), some (.iconst 0, 1, 0, 0), some (.iload_n 2, 1, 2, 0), some (.invokevirtual 320, 3, 175, 0), none, none, some (.aload_n 0, 1, 0, 0), some (.iconst 2, 1, 2, 0), some (.iconst 0, 1, 0, 0), some (.invokevirtual 324, 3, 176, 0), none, none, some (.iconst 0, 1, 0, 0), some (.sipush 255, 3, 255, 0), none, none, some (.invokestatic 327, 3, 165, 2), none, none, some (.ireturn, 1, 0, 0)]]
def hm_m179 : hc_M := (⟨"HeardNextModel", "humsOf", "(II)I"⟩, prog_12_method_49_code, 3, (some (.int)), 10, 2, hm_t179)
def hm_t180 : hc_K := [[some (.aload_n 0, 1, 0, 0), some (.iload_n 1, 1, 1, 0), some (.iconst 0, 1, 0, 0), some (.iconst 0, 1, 0, 0), some (.aload_n 0, 1, 0, 0), some (.getfield 104, 3, 10, 46), none, none, some (.bipush 70, 2, 70, 0), none, some (.iaload, 1, 0, 0), some (.invokevirtual 320, 3, 175, 0), none, none, some (.aload_n 0, 1, 0, 0), some (.iconst 3, 1, 3, 0), some (.iconst 0, 1, 0, 0), some (.invokevirtual 324, 3, 176, 0), none, none, some (.iconst 0, 1, 0, 0), some (.bipush 100, 2, 100, 0), none, some (.invokestatic 327, 3, 165, 2), none, none, some (.ireturn, 1, 0, 0)]]
def hm_m180 : hc_M := (⟨"HeardNextModel", "diesOf", "(I)I"⟩, prog_12_method_50_code, 2, (some (.int)), 10, 1, hm_t180)
def hm_t181 : hc_K := [[some (.iload_n 2, 1, 2, 0), some (.invokestatic 314, 3, 166, 2), none, none, some (.istore 4, 2, 4, 0), none, some (.aload_n 0, 1, 0, 0), some (.iload_n 1, 1, 1, 0), some (.iload 4, 2, 4, 0), none, some (.iload_n 3, 1, 3, 0), some (.invokevirtual 330, 3, 178, 0), none, none, some (.istore 5, 2, 5, 0), none, some (.aload_n 0, 1, 0, 0), some (.iload_n 1, 1, 1, 0), some (.iload_n 3, 1, 3, 0), some (.invokevirtual 333, 3, 179, 0), none, none, some (.istore 6, 2, 6, 0), none, some (.iconst 0, 1, 0, 0), some (.istore 7, 2, 7, 0), none, some (.iload 7, 2, 7, 0), none, some (.bipush 8, 2, 8, 0), none, some (.if_icmp .ge 47, 3, 78, 0)], [none, none, some (.iload_n 2, 1, 2, 0), some (.iload 7, 2, 7, 0), none, some (.ishr, 1, 0, 0), some (.iconst 1, 1, 1, 0), some (.iand, 1, 0, 0), some (.iconst 1, 1, 1, 0), some (.if_icmp .ne 31, 3, 72, 0), none, none, some (.aload_n 0, 1, 0, 0), some (.iload_n 1, 1, 1, 0), some (.iload 4, 2, 4, 0), none, some (.iload 7, 2, 7, 0), none, some (.iload_n 3, 1, 3, 0), some (.invokevirtual 336, 3, 177, 0), none, none, some (.ifCond .eq 18, 3, 72, 0), none, none, some (.iload 6, 2, 6, 0), none, some (.iconst 1, 1, 1, 0), some (.iload 7, 2, 7, 0), none, some (.iload 5, 2, 5, 0)], [some (.iadd, 1, 0, 0), some (.bipush 8, 2, 8, 0), none, some (.irem, 1, 0, 0), some (.ishl, 1, 0, 0), some (.ior, 1, 0, 0), some (.istore 6, 2, 6, 0), none, some (.iinc 7 1, 3, 7, 1), none, none, some (.goto (-48), 3, 27, 0), none, none, some (.iload 6, 2, 6, 0), none, some (.ireturn, 1, 0, 0)]]
def hm_m181 : hc_M := (⟨"HeardNextModel", "passes", "(III)I"⟩, prog_12_method_51_code, 8, (some (.int)), 10, 3, hm_t181)
def hm_t182 : hc_K := [[some (.aload_n 0, 1, 0, 0), some (.getfield 104, 3, 10, 46), none, none, some (.bipush 50, 2, 50, 0), none, some (.iload_n 1, 1, 1, 0), some (.iadd, 1, 0, 0), some (.iaload, 1, 0, 0), some (.iconst 1, 1, 1, 0), some (.if_icmp .ne 19, 3, 29, 0), none, none, some (.aload_n 0, 1, 0, 0), some (.getfield 104, 3, 10, 46), none, none, some (.bipush 60, 2, 60, 0), none, some (.iload_n 1, 1, 1, 0), some (.iadd, 1, 0, 0), some (.iaload, 1, 0, 0), some (.ifCond .ne 7, 3, 29, 0), none, none, some (.iconst 1, 1, 1, 0), some (.goto 4, 3, 30, 0), none, none, some (.iconst 0, 1, 0, 0), some (.ireturn, 1, 0, 0)]]
def hm_m182 : hc_M := (⟨"HeardNextModel", "hears", "(I)Z"⟩, prog_12_method_52_code, 2, (some (.boolean)), 10, 1, hm_t182)
def hm_t183 : hc_K := [[some (.aload_n 0, 1, 0, 0), some (.getfield 104, 3, 10, 46), none, none, some (.bipush 71, 2, 71, 0), none, some (.iaload, 1, 0, 0), some (.iconst (-1), 1, 4294967295, 0), some (.if_icmp .eq 13, 3, 21, 0), none, none, some (.aload_n 0, 1, 0, 0), some (.getfield 104, 3, 10, 46), none, none, some (.bipush 71, 2, 71, 0), none, some (.iaload, 1, 0, 0), some (.goto 26, 3, 44, 0), none, none, some (.aload_n 0, 1, 0, 0), some (.getfield 55, 3, 10, 26), none, none, some (.bipush 24, 2, 24, 0), none, some (.aload_n 0, 1, 0, 0), some (.getfield 227, 3, 10, 18), none, none, some (.imul, 1, 0, 0)], [some (.aload_n 0, 1, 0, 0), some (.getfield 104, 3, 10, 46), none, none, some (.bipush 70, 2, 70, 0), none, some (.iaload, 1, 0, 0), some (.bipush 24, 2, 24, 0), none, some (.irem, 1, 0, 0), some (.iadd, 1, 0, 0), some (.iaload, 1, 0, 0), some (.ireturn, 1, 0, 0)]]
def hm_m183 : hc_M := (⟨"HeardNextModel", "sentNow", "()I"⟩, prog_12_method_53_code, 1, (some (.int)), 10, 0, hm_t183)
def hm_t184 : hc_K := [[some (.iconst 0, 1, 0, 0), some (.istore_n 1, 1, 1, 0), some (.iload_n 1, 1, 1, 0), some (.aload_n 0, 1, 0, 0), some (.getfield 43, 3, 10, 22), none, none, some (.aload_n 0, 1, 0, 0), some (.getfield 227, 3, 10, 18), none, none, some (.iaload, 1, 0, 0), some (.if_icmp .ge 113, 3, 125, 0), none, none, some (.aload_n 0, 1, 0, 0), some (.getfield 107, 3, 10, 49), none, none, some (.iload_n 1, 1, 1, 0), some (.aload_n 0, 1, 0, 0), some (.iload_n 1, 1, 1, 0), some (.invokevirtual 340, 3, 182, 0), none, none, some (.ifCond .ne 7, 3, 32, 0), none, none, some (.iconst 0, 1, 0, 0), some (.goto 35, 3, 64, 0)], [some (.iload_n 1, 1, 1, 0), some (.ifCond .ne 10, 3, 43, 0), none, none, some (.aload_n 0, 1, 0, 0), some (.invokevirtual 343, 3, 183, 0), none, none, some (.goto 24, 3, 64, 0), none, none, some (.aload_n 0, 1, 0, 0), some (.iload_n 1, 1, 1, 0), some (.aload_n 0, 1, 0, 0), some (.getfield 104, 3, 10, 46), none, none, some (.bipush 29, 2, 29, 0), none, some (.iload_n 1, 1, 1, 0), some (.iadd, 1, 0, 0), some (.iaload, 1, 0, 0), some (.aload_n 0, 1, 0, 0), some (.getfield 104, 3, 10, 46), none, none, some (.bipush 70, 2, 70, 0), none, some (.iaload, 1, 0, 0), some (.invokevirtual 347, 3, 181, 0)], [some (.iastore, 1, 0, 0), some (.aload_n 0, 1, 0, 0), some (.getfield 110, 3, 10, 50), none, none, some (.iload_n 1, 1, 1, 0), some (.aload_n 0, 1, 0, 0), some (.getfield 304, 3, 10, 48), none, none, some (.ifCond .ne 43, 3, 117, 0), none, none, some (.aload_n 0, 1, 0, 0), some (.getfield 104, 3, 10, 46), none, none, some (.bipush 60, 2, 60, 0), none, some (.iload_n 1, 1, 1, 0), some (.iadd, 1, 0, 0), some (.iaload, 1, 0, 0), some (.ifCond .ne 31, 3, 117, 0), none, none, some (.aload_n 0, 1, 0, 0), some (.bipush 16, 2, 16, 0), none, some (.aload_n 0, 1, 0, 0), some (.getfield 104, 3, 10, 46)], [some (.bipush 70, 2, 70, 0), none, some (.iaload, 1, 0, 0), some (.imul, 1, 0, 0), some (.iload_n 1, 1, 1, 0), some (.iadd, 1, 0, 0), some (.invokevirtual 350, 3, 174, 0), none, none, some (.aload_n 0, 1, 0, 0), some (.iload_n 1, 1, 1, 0), some (.invokevirtual 353, 3, 180, 0), none, none, some (.if_icmp .ge 7, 3, 117, 0), none, none, some (.iconst 1, 1, 1, 0), some (.goto 4, 3, 118, 0), none, none, some (.iconst 0, 1, 0, 0), some (.bastore, 1, 0, 0), some (.iinc 1 1, 3, 1, 1), none, none, some (.goto (-120), 3, 2, 0), none, none, some (.iconst 0, 1, 0, 0), some (.istore_n 1, 1, 1, 0), some (.iload_n 1, 1, 1, 0)], [some (.aload_n 0, 1, 0, 0), some (.getfield 43, 3, 10, 22), none, none, some (.aload_n 0, 1, 0, 0), some (.getfield 227, 3, 10, 18), none, none, some (.iaload, 1, 0, 0), some (.if_icmp .ge 115, 3, 252, 0), none, none, some (.aload_n 0, 1, 0, 0), some (.getfield 104, 3, 10, 46), none, none, some (.bipush 30, 2, 30, 0), none, some (.iload_n 1, 1, 1, 0), some (.iadd, 1, 0, 0), some (.aload_n 0, 1, 0, 0), some (.getfield 107, 3, 10, 49), none, none, some (.iload_n 1, 1, 1, 0), some (.iaload, 1, 0, 0), some (.iastore, 1, 0, 0), some (.aload_n 0, 1, 0, 0), some (.getfield 104, 3, 10, 46), none, none, some (.bipush 40, 2, 40, 0)], [none, some (.iload_n 1, 1, 1, 0), some (.iadd, 1, 0, 0), some (.dup2, 1, 0, 0), some (.iaload, 1, 0, 0), some (.aload_n 0, 1, 0, 0), some (.getfield 107, 3, 10, 49), none, none, some (.iload_n 1, 1, 1, 0), some (.iaload, 1, 0, 0), some (.aload_n 0, 1, 0, 0), some (.getfield 104, 3, 10, 46), none, none, some (.iload_n 1, 1, 1, 0), some (.iaload, 1, 0, 0), some (.iand, 1, 0, 0), some (.ior, 1, 0, 0), some (.iastore, 1, 0, 0), some (.aload_n 0, 1, 0, 0), some (.getfield 104, 3, 10, 46), none, none, some (.bipush 60, 2, 60, 0), none, some (.iload_n 1, 1, 1, 0), some (.iadd, 1, 0, 0), some (.iaload, 1, 0, 0), some (.ifCond .le 16, 3, 205, 0)], [some (.aload_n 0, 1, 0, 0), some (.getfield 104, 3, 10, 46), none, none, some (.bipush 60, 2, 60, 0), none, some (.iload_n 1, 1, 1, 0), some (.iadd, 1, 0, 0), some (.dup2, 1, 0, 0), some (.iaload, 1, 0, 0), some (.iconst 1, 1, 1, 0), some (.isub, 1, 0, 0), some (.iastore, 1, 0, 0), some (.aload_n 0, 1, 0, 0), some (.getfield 110, 3, 10, 50), none, none, some (.iload_n 1, 1, 1, 0), some (.baload, 1, 0, 0), some (.ifCond .ne 6, 3, 217, 0), none, none, some (.goto 32, 3, 246, 0), none, none, some (.aload_n 0, 1, 0, 0), some (.getfield 104, 3, 10, 46), none, none, some (.bipush 60, 2, 60, 0), none, some (.iload_n 1, 1, 1, 0)], [some (.iadd, 1, 0, 0), some (.aload_n 0, 1, 0, 0), some (.getfield 58, 3, 10, 27), none, none, some (.aload_n 0, 1, 0, 0), some (.getfield 227, 3, 10, 18), none, none, some (.iaload, 1, 0, 0), some (.iastore, 1, 0, 0), some (.aload_n 0, 1, 0, 0), some (.getfield 104, 3, 10, 46), none, none, some (.bipush 72, 2, 72, 0), none, some (.dup2, 1, 0, 0), some (.iaload, 1, 0, 0), some (.iconst 1, 1, 1, 0), some (.iadd, 1, 0, 0), some (.iastore, 1, 0, 0), some (.iinc 1 1, 3, 1, 1), none, none, some (.goto (-122), 3, 127, 0), none, none, some (.aload_n 0, 1, 0, 0), some (.getfield 104, 3, 10, 46)], [some (.bipush 70, 2, 70, 0), none, some (.dup2, 1, 0, 0), some (.iaload, 1, 0, 0), some (.iconst 1, 1, 1, 0), some (.iadd, 1, 0, 0), some (.iastore, 1, 0, 0), some (.aload_n 0, 1, 0, 0), some (.getfield 104, 3, 10, 46), none, none, some (.bipush 71, 2, 71, 0), none, some (.iconst (-1), 1, 4294967295, 0), some (.iastore, 1, 0, 0), some (.return_, 1, 0, 0)]]
def hm_m184 : hc_M := (⟨"HeardNextModel", "hourGoes", "()V"⟩, prog_12_method_54_code, 2, none, 10, 0, hm_t184)
def hm_t185 : hc_K := [[some (.iconst 0, 1, 0, 0), some (.istore_n 2, 1, 2, 0), some (.iload_n 2, 1, 2, 0), some (.iload_n 1, 1, 1, 0), some (.if_icmp .ge 13, 3, 17, 0), none, none, some (.aload_n 0, 1, 0, 0), some (.invokevirtual 356, 3, 184, 0), none, none, some (.iinc 2 1, 3, 2, 1), none, none, some (.goto (-12), 3, 2, 0), none, none, some (.return_, 1, 0, 0)]]
def hm_m185 : hc_M := (⟨"HeardNextModel", "goes", "(I)V"⟩, prog_12_method_55_code, 3, none, 10, 1, hm_t185)
def hm_t186 : hc_K := [[some (.aload_n 0, 1, 0, 0), some (.getfield 104, 3, 10, 46), none, none, some (.bipush 40, 2, 40, 0), none, some (.iload_n 1, 1, 1, 0), some (.iadd, 1, 0, 0), some (.iaload, 1, 0, 0), some (.aload_n 0, 1, 0, 0), some (.getfield 104, 3, 10, 46), none, none, some (.iload_n 1, 1, 1, 0), some (.iaload, 1, 0, 0), some (.if_icmp .ne 7, 3, 22, 0), none, none, some (.iconst 1, 1, 1, 0), some (.goto 4, 3, 23, 0), none, none, some (.iconst 0, 1, 0, 0), some (.ireturn, 1, 0, 0)]]
def hm_m186 : hc_M := (⟨"HeardNextModel", "hadAll", "(I)Z"⟩, prog_12_method_56_code, 2, (some (.boolean)), 10, 1, hm_t186)
def hm_t187 : hc_K := [[some (.iconst 0, 1, 0, 0), some (.istore_n 1, 1, 1, 0), some (.iconst 0, 1, 0, 0), some (.istore_n 2, 1, 2, 0), some (.iload_n 2, 1, 2, 0), some (.aload_n 0, 1, 0, 0), some (.getfield 43, 3, 10, 22), none, none, some (.aload_n 0, 1, 0, 0), some (.getfield 227, 3, 10, 18), none, none, some (.iaload, 1, 0, 0), some (.if_icmp .ge 20, 3, 34, 0), none, none, some (.aload_n 0, 1, 0, 0), some (.iload_n 2, 1, 2, 0), some (.invokevirtual 359, 3, 186, 0), none, none, some (.ifCond .eq 6, 3, 28, 0), none, none, some (.iinc 1 1, 3, 1, 1), none, none, some (.iinc 2 1, 3, 2, 1), none, none, some (.goto (-27), 3, 4, 0)], [none, none, some (.iload_n 1, 1, 1, 0), some (.ireturn, 1, 0, 0)]]
def hm_m187 : hc_M := (⟨"HeardNextModel", "hadAllMany", "()I"⟩, prog_12_method_57_code, 3, (some (.int)), 10, 0, hm_t187)
def hm_t188 : hc_K := [[some (.aload_n 0, 1, 0, 0), some (.iload_n 1, 1, 1, 0), some (.invokevirtual 362, 3, 167, 0), none, none, some (.ifCond .eq 13, 3, 18, 0), none, none, some (.iload_n 2, 1, 2, 0), some (.iconst 0, 1, 0, 0), some (.bipush 9, 2, 9, 0), none, some (.invokestatic 297, 3, 164, 2), none, none, some (.ifCond .ne 5, 3, 20, 0), none, none, some (.iconst (-1), 1, 4294967295, 0), some (.ireturn, 1, 0, 0), some (.aload_n 0, 1, 0, 0), some (.invokevirtual 307, 3, 171, 0), none, none, some (.iload_n 2, 1, 2, 0), some (.tableswitch 164 0 8 #[51, 58, 68, 78, 88, 98, 108, 118, 151], 51, 0, 0)], [], [none, none, none, none, none, none, none, none, none, none, none, none, some (.aload_n 0, 1, 0, 0), some (.getfield 104, 3, 10, 46), none, none, some (.iload_n 1, 1, 1, 0), some (.iaload, 1, 0, 0), some (.ireturn, 1, 0, 0), some (.aload_n 0, 1, 0, 0), some (.getfield 104, 3, 10, 46), none, none, some (.bipush 10, 2, 10, 0), none, some (.iload_n 1, 1, 1, 0), some (.iadd, 1, 0, 0), some (.iaload, 1, 0, 0), some (.ireturn, 1, 0, 0), some (.aload_n 0, 1, 0, 0), some (.getfield 104, 3, 10, 46)], [none, some (.bipush 30, 2, 30, 0), none, some (.iload_n 1, 1, 1, 0), some (.iadd, 1, 0, 0), some (.iaload, 1, 0, 0), some (.ireturn, 1, 0, 0), some (.aload_n 0, 1, 0, 0), some (.getfield 104, 3, 10, 46), none, none, some (.bipush 40, 2, 40, 0), none, some (.iload_n 1, 1, 1, 0), some (.iadd, 1, 0, 0), some (.iaload, 1, 0, 0), some (.ireturn, 1, 0, 0), some (.aload_n 0, 1, 0, 0), some (.getfield 104, 3, 10, 46), none, none, some (.bipush 50, 2, 50, 0), none, some (.iload_n 1, 1, 1, 0), some (.iadd, 1, 0, 0), some (.iaload, 1, 0, 0), some (.ireturn, 1, 0, 0), some (.aload_n 0, 1, 0, 0), some (.getfield 104, 3, 10, 46), none, none, some (.bipush 60, 2, 60, 0)], [none, some (.iload_n 1, 1, 1, 0), some (.iadd, 1, 0, 0), some (.iaload, 1, 0, 0), some (.ireturn, 1, 0, 0), some (.aload_n 0, 1, 0, 0), some (.getfield 104, 3, 10, 46), none, none, some (.bipush 20, 2, 20, 0), none, some (.iload_n 1, 1, 1, 0), some (.iadd, 1, 0, 0), some (.iaload, 1, 0, 0), some (.ireturn, 1, 0, 0), some (.aload_n 0, 1, 0, 0), some (.iload_n 1, 1, 1, 0), some (.iload_n 1, 1, 1, 0), some (.ifCond .ne 7, 3, 153, 0), none, none, some (.iconst 0, 1, 0, 0), some (.goto 15, 3, 165, 0), none, none, some (.aload_n 0, 1, 0, 0), some (.getfield 104, 3, 10, 46), none, none, some (.bipush 29, 2, 29, 0), none, some (.iload_n 1, 1, 1, 0)], [some (.iadd, 1, 0, 0), some (.iaload, 1, 0, 0), some (.invokestatic 314, 3, 166, 2), none, none, some (.aload_n 0, 1, 0, 0), some (.getfield 104, 3, 10, 46), none, none, some (.bipush 70, 2, 70, 0), none, some (.iaload, 1, 0, 0), some (.invokevirtual 330, 3, 178, 0), none, none, some (.ireturn, 1, 0, 0), some (.aload_n 0, 1, 0, 0), some (.iload_n 1, 1, 1, 0), some (.aload_n 0, 1, 0, 0), some (.getfield 104, 3, 10, 46), none, none, some (.bipush 70, 2, 70, 0), none, some (.iaload, 1, 0, 0), some (.invokevirtual 333, 3, 179, 0), none, none, some (.ireturn, 1, 0, 0), some (.aload_n 0, 1, 0, 0), some (.iload_n 1, 1, 1, 0), some (.invokevirtual 353, 3, 180, 0)], [none, none, some (.ireturn, 1, 0, 0)]]
def hm_m188 : hc_M := (⟨"HeardNextModel", "house", "(II)I"⟩, prog_12_method_58_code, 3, (some (.int)), 10, 2, hm_t188)
def hm_t189 : hc_K := [[some (.aload_n 0, 1, 0, 0), some (.iload_n 1, 1, 1, 0), some (.invokevirtual 362, 3, 167, 0), none, none, some (.ifCond .eq 10, 3, 15, 0), none, none, some (.iload_n 2, 1, 2, 0), some (.invokestatic 365, 3, 168, 2), none, none, some (.ifCond .ne 5, 3, 17, 0), none, none, some (.iconst (-1), 1, 4294967295, 0), some (.ireturn, 1, 0, 0), some (.aload_n 0, 1, 0, 0), some (.invokevirtual 307, 3, 171, 0), none, none, some (.aload_n 0, 1, 0, 0), some (.iload_n 1, 1, 1, 0), some (.iload_n 2, 1, 2, 0), some (.aload_n 0, 1, 0, 0), some (.getfield 104, 3, 10, 46), none, none, some (.bipush 70, 2, 70, 0), none, some (.iaload, 1, 0, 0), some (.invokevirtual 347, 3, 181, 0)], [none, none, some (.ireturn, 1, 0, 0)]]
def hm_m189 : hc_M := (⟨"HeardNextModel", "passed", "(II)I"⟩, prog_12_method_59_code, 3, (some (.int)), 10, 2, hm_t189)
def hm_t190 : hc_K := [[some (.aload_n 0, 1, 0, 0), some (.getfield 245, 3, 10, 51), none, none, some (.bipush 40, 2, 40, 0), none, some (.if_icmp .ne 43, 3, 49, 0), none, none, some (.iconst 0, 1, 0, 0), some (.istore_n 1, 1, 1, 0), some (.iload_n 1, 1, 1, 0), some (.sipush 2847, 3, 2847, 0), none, none, some (.if_icmp .ge 24, 3, 39, 0), none, none, some (.aload_n 0, 1, 0, 0), some (.getfield 113, 3, 10, 52), none, none, some (.iload_n 1, 1, 1, 0), some (.aload_n 0, 1, 0, 0), some (.getfield 113, 3, 10, 52), none, none, some (.iload_n 1, 1, 1, 0), some (.bipush 73, 2, 73, 0), none, some (.iadd, 1, 0, 0), some (.iaload, 1, 0, 0)], [some (.iastore, 1, 0, 0), some (.iinc 1 1, 3, 1, 1), none, none, some (.goto (-25), 3, 11, 0), none, none, some (.aload_n 0, 1, 0, 0), some (.dup, 1, 0, 0), some (.getfield 245, 3, 10, 51), none, none, some (.iconst 1, 1, 1, 0), some (.isub, 1, 0, 0), some (.putfield 245, 3, 10, 51), none, none, some (.iconst 0, 1, 0, 0), some (.istore_n 1, 1, 1, 0), some (.iload_n 1, 1, 1, 0), some (.bipush 73, 2, 73, 0), none, some (.if_icmp .ge 29, 3, 83, 0), none, none, some (.aload_n 0, 1, 0, 0), some (.getfield 113, 3, 10, 52), none, none, some (.bipush 73, 2, 73, 0), none, some (.aload_n 0, 1, 0, 0)], [some (.getfield 245, 3, 10, 51), none, none, some (.imul, 1, 0, 0), some (.iload_n 1, 1, 1, 0), some (.iadd, 1, 0, 0), some (.aload_n 0, 1, 0, 0), some (.getfield 101, 3, 10, 45), none, none, some (.iload_n 1, 1, 1, 0), some (.iaload, 1, 0, 0), some (.iastore, 1, 0, 0), some (.iinc 1 1, 3, 1, 1), none, none, some (.goto (-29), 3, 51, 0), none, none, some (.aload_n 0, 1, 0, 0), some (.dup, 1, 0, 0), some (.getfield 245, 3, 10, 51), none, none, some (.iconst 1, 1, 1, 0), some (.iadd, 1, 0, 0), some (.putfield 245, 3, 10, 51), none, none, some (.aload_n 0, 1, 0, 0), some (.invokevirtual 157, 3, 170, 0)], [none, some (.return_, 1, 0, 0)]]
def hm_m190 : hc_M := (⟨"HeardNextModel", "records", "()V"⟩, prog_12_method_60_code, 2, none, 10, 0, hm_t190)
def hm_t191 : hc_K := [[some (.aload_n 0, 1, 0, 0), some (.iload_n 1, 1, 1, 0), some (.invokevirtual 362, 3, 167, 0), none, none, some (.ifCond .eq 25, 3, 30, 0), none, none, some (.aload_n 0, 1, 0, 0), some (.getfield 101, 3, 10, 45), none, none, some (.bipush 50, 2, 50, 0), none, some (.iload_n 1, 1, 1, 0), some (.iadd, 1, 0, 0), some (.iaload, 1, 0, 0), some (.iconst 1, 1, 1, 0), some (.if_icmp .ne 7, 3, 25, 0), none, none, some (.iconst 1, 1, 1, 0), some (.goto 4, 3, 26, 0), none, none, some (.iconst 0, 1, 0, 0), some (.iload_n 2, 1, 2, 0), some (.if_icmp .ne 5, 3, 32, 0), none, none, some (.iconst 0, 1, 0, 0), some (.ireturn, 1, 0, 0)], [some (.aload_n 0, 1, 0, 0), some (.invokevirtual 307, 3, 171, 0), none, none, some (.aload_n 0, 1, 0, 0), some (.getfield 104, 3, 10, 46), none, none, some (.bipush 50, 2, 50, 0), none, some (.iload_n 1, 1, 1, 0), some (.iadd, 1, 0, 0), some (.iload_n 2, 1, 2, 0), some (.ifCond .eq 7, 3, 52, 0), none, none, some (.iconst 1, 1, 1, 0), some (.goto 4, 3, 53, 0), none, none, some (.iconst 0, 1, 0, 0), some (.iastore, 1, 0, 0), some (.aload_n 0, 1, 0, 0), some (.invokevirtual 368, 3, 190, 0), none, none, some (.iconst 1, 1, 1, 0), some (.ireturn, 1, 0, 0)]]
def hm_m191 : hc_M := (⟨"HeardNextModel", "turn", "(IZ)Z"⟩, prog_12_method_61_code, 3, (some (.boolean)), 10, 2, hm_t191)
def hm_t192 : hc_K := [[some (.iload_n 1, 1, 1, 0), some (.invokestatic 365, 3, 168, 2), none, none, some (.ifCond .eq 15, 3, 19, 0), none, none, some (.aload_n 0, 1, 0, 0), some (.getfield 43, 3, 10, 22), none, none, some (.aload_n 0, 1, 0, 0), some (.getfield 227, 3, 10, 18), none, none, some (.iaload, 1, 0, 0), some (.ifCond .ne 5, 3, 21, 0), none, none, some (.iconst 0, 1, 0, 0), some (.ireturn, 1, 0, 0), some (.aload_n 0, 1, 0, 0), some (.invokevirtual 307, 3, 171, 0), none, none, some (.aload_n 0, 1, 0, 0), some (.getfield 104, 3, 10, 46), none, none, some (.bipush 71, 2, 71, 0), none, some (.iload_n 1, 1, 1, 0)], [some (.iastore, 1, 0, 0), some (.aload_n 0, 1, 0, 0), some (.invokevirtual 368, 3, 190, 0), none, none, some (.iconst 1, 1, 1, 0), some (.ireturn, 1, 0, 0)]]
def hm_m192 : hc_M := (⟨"HeardNextModel", "send", "(I)Z"⟩, prog_12_method_62_code, 2, (some (.boolean)), 10, 1, hm_t192)
def hm_t193 : hc_K := [[some (.aload_n 0, 1, 0, 0), some (.iload_n 1, 1, 1, 0), some (.invokevirtual 362, 3, 167, 0), none, none, some (.ifCond .eq 16, 3, 21, 0), none, none, some (.aload_n 0, 1, 0, 0), some (.iload_n 2, 1, 2, 0), some (.invokevirtual 362, 3, 167, 0), none, none, some (.ifCond .eq 8, 3, 21, 0), none, none, some (.iload_n 1, 1, 1, 0), some (.iload_n 2, 1, 2, 0), some (.if_icmp .ne 5, 3, 23, 0), none, none, some (.iconst (-1), 1, 4294967295, 0), some (.ireturn, 1, 0, 0), some (.aload_n 0, 1, 0, 0), some (.invokevirtual 307, 3, 171, 0), none, none, some (.aload_n 0, 1, 0, 0), some (.getfield 104, 3, 10, 46), none, none, some (.bipush 30, 2, 30, 0)], [none, some (.iload_n 2, 1, 2, 0), some (.iadd, 1, 0, 0), some (.aload_n 0, 1, 0, 0), some (.getfield 104, 3, 10, 46), none, none, some (.bipush 30, 2, 30, 0), none, some (.iload_n 1, 1, 1, 0), some (.iadd, 1, 0, 0), some (.iaload, 1, 0, 0), some (.iastore, 1, 0, 0), some (.aload_n 0, 1, 0, 0), some (.getfield 104, 3, 10, 46), none, none, some (.bipush 40, 2, 40, 0), none, some (.iload_n 2, 1, 2, 0), some (.iadd, 1, 0, 0), some (.dup2, 1, 0, 0), some (.iaload, 1, 0, 0), some (.aload_n 0, 1, 0, 0), some (.getfield 104, 3, 10, 46), none, none, some (.bipush 30, 2, 30, 0), none, some (.iload_n 1, 1, 1, 0), some (.iadd, 1, 0, 0), some (.iaload, 1, 0, 0)], [some (.aload_n 0, 1, 0, 0), some (.getfield 104, 3, 10, 46), none, none, some (.iload_n 2, 1, 2, 0), some (.iaload, 1, 0, 0), some (.iand, 1, 0, 0), some (.ior, 1, 0, 0), some (.iastore, 1, 0, 0), some (.aload_n 0, 1, 0, 0), some (.invokevirtual 368, 3, 190, 0), none, none, some (.aload_n 0, 1, 0, 0), some (.getfield 101, 3, 10, 45), none, none, some (.bipush 30, 2, 30, 0), none, some (.iload_n 2, 1, 2, 0), some (.iadd, 1, 0, 0), some (.iaload, 1, 0, 0), some (.ireturn, 1, 0, 0)]]
def hm_m193 : hc_M := (⟨"HeardNextModel", "carry", "(II)I"⟩, prog_12_method_63_code, 3, (some (.int)), 10, 2, hm_t193)
def hm_t194 : hc_K := [[some (.iconst 0, 1, 0, 0), some (.istore_n 3, 1, 3, 0), some (.iload_n 3, 1, 3, 0), some (.bipush 50, 2, 50, 0), none, some (.if_icmp .ge 54, 3, 59, 0), none, none, some (.iload_n 3, 1, 3, 0), some (.bipush 30, 2, 30, 0), none, some (.if_icmp .ne 6, 3, 17, 0), none, none, some (.goto 39, 3, 53, 0), none, none, some (.aload_n 0, 1, 0, 0), some (.getfield 104, 3, 10, 46), none, none, some (.iload_n 3, 1, 3, 0), some (.iload_n 1, 1, 1, 0), some (.iadd, 1, 0, 0), some (.iaload, 1, 0, 0), some (.istore 4, 2, 4, 0), none, some (.aload_n 0, 1, 0, 0), some (.getfield 104, 3, 10, 46), none, none, some (.iload_n 3, 1, 3, 0)], [some (.iload_n 1, 1, 1, 0), some (.iadd, 1, 0, 0), some (.aload_n 0, 1, 0, 0), some (.getfield 104, 3, 10, 46), none, none, some (.iload_n 3, 1, 3, 0), some (.iload_n 2, 1, 2, 0), some (.iadd, 1, 0, 0), some (.iaload, 1, 0, 0), some (.iastore, 1, 0, 0), some (.aload_n 0, 1, 0, 0), some (.getfield 104, 3, 10, 46), none, none, some (.iload_n 3, 1, 3, 0), some (.iload_n 2, 1, 2, 0), some (.iadd, 1, 0, 0), some (.iload 4, 2, 4, 0), none, some (.iastore, 1, 0, 0), some (.iinc 3 10, 3, 3, 10), none, none, some (.goto (-54), 3, 2, 0), none, none, some (.return_, 1, 0, 0)]]
def hm_m194 : hc_M := (⟨"HeardNextModel", "changes", "(II)V"⟩, prog_12_method_64_code, 5, none, 10, 2, hm_t194)
def hm_t195 : hc_K := [[some (.aload_n 0, 1, 0, 0), some (.iload_n 1, 1, 1, 0), some (.invokevirtual 362, 3, 167, 0), none, none, some (.ifCond .eq 16, 3, 21, 0), none, none, some (.aload_n 0, 1, 0, 0), some (.iload_n 2, 1, 2, 0), some (.invokevirtual 362, 3, 167, 0), none, none, some (.ifCond .eq 8, 3, 21, 0), none, none, some (.iload_n 1, 1, 1, 0), some (.iload_n 2, 1, 2, 0), some (.if_icmp .ne 5, 3, 23, 0), none, none, some (.iconst 0, 1, 0, 0), some (.ireturn, 1, 0, 0), some (.aload_n 0, 1, 0, 0), some (.invokevirtual 307, 3, 171, 0), none, none, some (.aload_n 0, 1, 0, 0), some (.iload_n 1, 1, 1, 0), some (.iload_n 2, 1, 2, 0), some (.invokevirtual 371, 3, 194, 0)], [none, some (.aload_n 0, 1, 0, 0), some (.invokevirtual 368, 3, 190, 0), none, none, some (.iconst 1, 1, 1, 0), some (.ireturn, 1, 0, 0)]]
def hm_m195 : hc_M := (⟨"HeardNextModel", "change", "(II)Z"⟩, prog_12_method_65_code, 3, (some (.boolean)), 10, 2, hm_t195)
def hm_t196 : hc_K := [[some (.iload_n 0, 1, 0, 0), some (.iconst 0, 1, 0, 0), some (.bipush 72, 2, 72, 0), none, some (.invokestatic 297, 3, 164, 2), none, none, some (.ireturn, 1, 0, 0)]]
def hm_m196 : hc_M := (⟨"HeardNextModel", "isLong", "(I)Z"⟩, prog_12_method_66_code, 1, (some (.boolean)), 10, 1, hm_t196)
def hm_t197 : hc_K := [[some (.iload_n 0, 1, 0, 0), some (.iconst 1, 1, 1, 0), some (.bipush 72, 2, 72, 0), none, some (.invokestatic 297, 3, 164, 2), none, none, some (.ireturn, 1, 0, 0)]]
def hm_m197 : hc_M := (⟨"HeardNextModel", "isSome", "(I)Z"⟩, prog_12_method_67_code, 1, (some (.boolean)), 10, 1, hm_t197)
def hm_t198 : hc_K := [[some (.iload_n 1, 1, 1, 0), some (.invokestatic 374, 3, 196, 2), none, none, some (.ifCond .ne 5, 3, 9, 0), none, none, some (.iconst (-1), 1, 4294967295, 0), some (.ireturn, 1, 0, 0), some (.iload_n 1, 1, 1, 0), some (.ifCond .ne 11, 3, 21, 0), none, none, some (.aload_n 0, 1, 0, 0), some (.getfield 101, 3, 10, 45), none, none, some (.bipush 70, 2, 70, 0), none, some (.iaload, 1, 0, 0), some (.ireturn, 1, 0, 0), some (.aload_n 0, 1, 0, 0), some (.invokevirtual 307, 3, 171, 0), none, none, some (.aload_n 0, 1, 0, 0), some (.iload_n 1, 1, 1, 0), some (.invokevirtual 377, 3, 185, 0), none, none, some (.aload_n 0, 1, 0, 0), some (.invokevirtual 368, 3, 190, 0)], [none, none, some (.aload_n 0, 1, 0, 0), some (.getfield 101, 3, 10, 45), none, none, some (.bipush 70, 2, 70, 0), none, some (.iaload, 1, 0, 0), some (.ireturn, 1, 0, 0)]]
def hm_m198 : hc_M := (⟨"HeardNextModel", "hours", "(I)I"⟩, prog_12_method_68_code, 2, (some (.int)), 10, 1, hm_t198)
def hm_t199 : hc_K := [[some (.aload_n 0, 1, 0, 0), some (.getfield 245, 3, 10, 51), none, none, some (.ifCond .ne 5, 3, 9, 0), none, none, some (.iconst 0, 1, 0, 0), some (.ireturn, 1, 0, 0), some (.aload_n 0, 1, 0, 0), some (.dup, 1, 0, 0), some (.getfield 245, 3, 10, 51), none, none, some (.iconst 1, 1, 1, 0), some (.isub, 1, 0, 0), some (.putfield 245, 3, 10, 51), none, none, some (.iconst 0, 1, 0, 0), some (.istore_n 1, 1, 1, 0), some (.iload_n 1, 1, 1, 0), some (.bipush 73, 2, 73, 0), none, some (.if_icmp .ge 29, 3, 53, 0), none, none, some (.aload_n 0, 1, 0, 0), some (.getfield 101, 3, 10, 45), none, none, some (.iload_n 1, 1, 1, 0)], [some (.aload_n 0, 1, 0, 0), some (.getfield 113, 3, 10, 52), none, none, some (.bipush 73, 2, 73, 0), none, some (.aload_n 0, 1, 0, 0), some (.getfield 245, 3, 10, 51), none, none, some (.imul, 1, 0, 0), some (.iload_n 1, 1, 1, 0), some (.iadd, 1, 0, 0), some (.iaload, 1, 0, 0), some (.iastore, 1, 0, 0), some (.iinc 1 1, 3, 1, 1), none, none, some (.goto (-29), 3, 21, 0), none, none, some (.iconst 1, 1, 1, 0), some (.ireturn, 1, 0, 0)]]
def hm_m199 : hc_M := (⟨"HeardNextModel", "undo", "()Z"⟩, prog_12_method_69_code, 2, (some (.boolean)), 10, 0, hm_t199)
def hm_t200 : hc_K := [[some (.iconst 0, 1, 0, 0), some (.istore_n 2, 1, 2, 0), some (.iload_n 2, 1, 2, 0), some (.iload_n 1, 1, 1, 0), some (.if_icmp .gt 19, 3, 23, 0), none, none, some (.aload_n 0, 1, 0, 0), some (.iload_n 2, 1, 2, 0), some (.invokevirtual 340, 3, 182, 0), none, none, some (.ifCond .ne 5, 3, 17, 0), none, none, some (.iload_n 2, 1, 2, 0), some (.ireturn, 1, 0, 0), some (.iinc 2 1, 3, 2, 1), none, none, some (.goto (-18), 3, 2, 0), none, none, some (.bipush (-2), 2, 4294967294, 0), none, some (.ireturn, 1, 0, 0)]]
def hm_m200 : hc_M := (⟨"HeardNextModel", "breakTo", "(I)I"⟩, prog_12_method_70_code, 3, (some (.int)), 10, 1, hm_t200)
def hm_t201 : hc_K := [[some (.aload_n 0, 1, 0, 0), some (.iload_n 1, 1, 1, 0), some (.invokevirtual 380, 3, 200, 0), none, none, some (.ifCond .lt 5, 3, 10, 0), none, none, some (.iconst 0, 1, 0, 0), some (.ireturn, 1, 0, 0), some (.iload_n 2, 1, 2, 0), some (.istore 4, 2, 4, 0), none, some (.iconst 1, 1, 1, 0), some (.istore 5, 2, 5, 0), none, some (.iload 5, 2, 5, 0), none, some (.iload_n 1, 1, 1, 0), some (.if_icmp .gt 23, 3, 42, 0), none, none, some (.aload_n 0, 1, 0, 0), some (.iload 5, 2, 5, 0), none, some (.iload 4, 2, 4, 0), none, some (.iload_n 3, 1, 3, 0), some (.iload 5, 2, 5, 0), none, some (.iadd, 1, 0, 0), some (.invokevirtual 347, 3, 181, 0)], [none, none, some (.istore 4, 2, 4, 0), none, some (.iinc 5 1, 3, 5, 1), none, none, some (.goto (-23), 3, 16, 0), none, none, some (.iload 4, 2, 4, 0), none, some (.ireturn, 1, 0, 0)]]
def hm_m201 : hc_M := (⟨"HeardNextModel", "comesAt", "(III)I"⟩, prog_12_method_71_code, 6, (some (.int)), 10, 3, hm_t201)
def hm_t202 : hc_K := [[some (.aload_n 0, 1, 0, 0), some (.iload_n 1, 1, 1, 0), some (.iload_n 2, 1, 2, 0), some (.aload_n 0, 1, 0, 0), some (.getfield 104, 3, 10, 46), none, none, some (.bipush 70, 2, 70, 0), none, some (.iaload, 1, 0, 0), some (.invokevirtual 383, 3, 201, 0), none, none, some (.ireturn, 1, 0, 0)]]
def hm_m202 : hc_M := (⟨"HeardNextModel", "comesNow", "(II)I"⟩, prog_12_method_72_code, 3, (some (.int)), 10, 2, hm_t202)
def hm_t203 : hc_K := [[some (.iconst 0, 1, 0, 0), some (.istore_n 2, 1, 2, 0), some (.iload_n 2, 1, 2, 0), some (.sipush 256, 3, 256, 0), none, none, some (.if_icmp .ge 21, 3, 27, 0), none, none, some (.aload_n 0, 1, 0, 0), some (.getfield 116, 3, 10, 53), none, none, some (.iload_n 2, 1, 2, 0), some (.aload_n 0, 1, 0, 0), some (.iload_n 1, 1, 1, 0), some (.iload_n 2, 1, 2, 0), some (.invokevirtual 386, 3, 202, 0), none, none, some (.iastore, 1, 0, 0), some (.iinc 2 1, 3, 2, 1), none, none, some (.goto (-22), 3, 2, 0), none, none, some (.return_, 1, 0, 0)]]
def hm_m203 : hc_M := (⟨"HeardNextModel", "fillsComes", "(I)V"⟩, prog_12_method_73_code, 3, none, 10, 1, hm_t203)
def hm_t204 : hc_K := [[some (.aload_n 0, 1, 0, 0), some (.iload_n 1, 1, 1, 0), some (.invokevirtual 362, 3, 167, 0), none, none, some (.ifCond .eq 10, 3, 15, 0), none, none, some (.iload_n 2, 1, 2, 0), some (.invokestatic 365, 3, 168, 2), none, none, some (.ifCond .ne 5, 3, 17, 0), none, none, some (.iconst (-1), 1, 4294967295, 0), some (.ireturn, 1, 0, 0), some (.aload_n 0, 1, 0, 0), some (.invokevirtual 307, 3, 171, 0), none, none, some (.aload_n 0, 1, 0, 0), some (.iload_n 1, 1, 1, 0), some (.iload_n 2, 1, 2, 0), some (.invokevirtual 386, 3, 202, 0), none, none, some (.ireturn, 1, 0, 0)]]
def hm_m204 : hc_M := (⟨"HeardNextModel", "comes", "(II)I"⟩, prog_12_method_74_code, 3, (some (.int)), 10, 2, hm_t204)
def hm_t205 : hc_K := [[some (.iload_n 1, 1, 1, 0), some (.invokestatic 365, 3, 168, 2), none, none, some (.ifCond .ne 5, 3, 9, 0), none, none, some (.iconst (-1), 1, 4294967295, 0), some (.ireturn, 1, 0, 0), some (.aload_n 0, 1, 0, 0), some (.invokevirtual 307, 3, 171, 0), none, none, some (.aload_n 0, 1, 0, 0), some (.getfield 43, 3, 10, 22), none, none, some (.aload_n 0, 1, 0, 0), some (.getfield 227, 3, 10, 18), none, none, some (.iaload, 1, 0, 0), some (.iconst 1, 1, 1, 0), some (.isub, 1, 0, 0), some (.istore_n 2, 1, 2, 0), some (.iload_n 2, 1, 2, 0), some (.ifCond .lt 26, 3, 52, 0), none, none, some (.aload_n 0, 1, 0, 0), some (.iload_n 2, 1, 2, 0), some (.iload_n 1, 1, 1, 0)], [some (.invokevirtual 386, 3, 202, 0), none, none, some (.aload_n 0, 1, 0, 0), some (.iload_n 2, 1, 2, 0), some (.iconst 0, 1, 0, 0), some (.invokevirtual 386, 3, 202, 0), none, none, some (.if_icmp .eq 5, 3, 46, 0), none, none, some (.iload_n 2, 1, 2, 0), some (.ireturn, 1, 0, 0), some (.iinc 2 (-1), 3, 2, 4294967295), none, none, some (.goto (-24), 3, 25, 0), none, none, some (.bipush (-2), 2, 4294967294, 0), none, some (.ireturn, 1, 0, 0)]]
def hm_m205 : hc_M := (⟨"HeardNextModel", "last", "(I)I"⟩, prog_12_method_75_code, 3, (some (.int)), 10, 1, hm_t205)
def hm_t206 : hc_K := [[some (.aload_n 0, 1, 0, 0), some (.iload_n 1, 1, 1, 0), some (.invokevirtual 362, 3, 167, 0), none, none, some (.ifCond .ne 5, 3, 10, 0), none, none, some (.iconst (-1), 1, 4294967295, 0), some (.ireturn, 1, 0, 0), some (.aload_n 0, 1, 0, 0), some (.invokevirtual 307, 3, 171, 0), none, none, some (.aload_n 0, 1, 0, 0), some (.iload_n 1, 1, 1, 0), some (.invokevirtual 389, 3, 203, 0), none, none, some (.bipush (-2), 2, 4294967294, 0), none, some (.istore_n 2, 1, 2, 0), some (.iconst 0, 1, 0, 0), some (.istore_n 3, 1, 3, 0), some (.iload_n 3, 1, 3, 0), some (.sipush 256, 3, 256, 0), none, none, some (.if_icmp .ge 44, 3, 72, 0), none, none, some (.aload_n 0, 1, 0, 0)], [some (.getfield 104, 3, 10, 46), none, none, some (.iload_n 1, 1, 1, 0), some (.iaload, 1, 0, 0), some (.aload_n 0, 1, 0, 0), some (.getfield 116, 3, 10, 53), none, none, some (.iload_n 3, 1, 3, 0), some (.iaload, 1, 0, 0), some (.iconst (-1), 1, 4294967295, 0), some (.ixor, 1, 0, 0), some (.iand, 1, 0, 0), some (.ifCond .ne 20, 3, 66, 0), none, none, some (.iload_n 2, 1, 2, 0), some (.ifCond .lt 14, 3, 64, 0), none, none, some (.iload_n 3, 1, 3, 0), some (.invokestatic 314, 3, 166, 2), none, none, some (.iload_n 2, 1, 2, 0), some (.invokestatic 314, 3, 166, 2), none, none, some (.if_icmp .ge 5, 3, 66, 0)], [some (.iload_n 3, 1, 3, 0), some (.istore_n 2, 1, 2, 0), some (.iinc 3 1, 3, 3, 1), none, none, some (.goto (-45), 3, 24, 0), none, none, some (.iload_n 2, 1, 2, 0), some (.ireturn, 1, 0, 0)]]
def hm_m206 : hc_M := (⟨"HeardNextModel", "sendFor", "(I)I"⟩, prog_12_method_76_code, 4, (some (.int)), 10, 1, hm_t206)
def hm_t207 : hc_K := [[some (.aload_n 0, 1, 0, 0), some (.iload_n 1, 1, 1, 0), some (.invokevirtual 362, 3, 167, 0), none, none, some (.ifCond .ne 5, 3, 10, 0), none, none, some (.iconst (-1), 1, 4294967295, 0), some (.ireturn, 1, 0, 0), some (.aload_n 0, 1, 0, 0), some (.invokevirtual 307, 3, 171, 0), none, none, some (.aload_n 0, 1, 0, 0), some (.iload_n 1, 1, 1, 0), some (.invokevirtual 389, 3, 203, 0), none, none, some (.iconst 0, 1, 0, 0), some (.istore_n 2, 1, 2, 0), some (.iload_n 2, 1, 2, 0), some (.sipush 256, 3, 256, 0), none, none, some (.if_icmp .ge 16, 3, 41, 0), none, none, some (.aload_n 0, 1, 0, 0), some (.getfield 119, 3, 10, 54)], [some (.iload_n 2, 1, 2, 0), some (.iconst 0, 1, 0, 0), some (.bastore, 1, 0, 0), some (.iinc 2 1, 3, 2, 1), none, none, some (.goto (-17), 3, 21, 0), none, none, some (.iconst 0, 1, 0, 0), some (.istore_n 2, 1, 2, 0), some (.iconst 0, 1, 0, 0), some (.istore_n 3, 1, 3, 0), some (.iload_n 3, 1, 3, 0), some (.sipush 256, 3, 256, 0), none, none, some (.if_icmp .ge 38, 3, 87, 0), none, none, some (.aload_n 0, 1, 0, 0), some (.getfield 119, 3, 10, 54), none, none, some (.aload_n 0, 1, 0, 0), some (.getfield 116, 3, 10, 53), none, none, some (.iload_n 3, 1, 3, 0), some (.iaload, 1, 0, 0), some (.baload, 1, 0, 0), some (.ifCond .ne 6, 3, 69, 0)], [none, none, some (.iinc 2 1, 3, 2, 1), none, none, some (.aload_n 0, 1, 0, 0), some (.getfield 119, 3, 10, 54), none, none, some (.aload_n 0, 1, 0, 0), some (.getfield 116, 3, 10, 53), none, none, some (.iload_n 3, 1, 3, 0), some (.iaload, 1, 0, 0), some (.iconst 1, 1, 1, 0), some (.bastore, 1, 0, 0), some (.iinc 3 1, 3, 3, 1), none, none, some (.goto (-39), 3, 45, 0), none, none, some (.iload_n 2, 1, 2, 0), some (.ireturn, 1, 0, 0)]]
def hm_m207 : hc_M := (⟨"HeardNextModel", "apart", "(I)I"⟩, prog_12_method_77_code, 4, (some (.int)), 10, 1, hm_t207)
def hm_t208 : hc_K := [[some (.aload_n 0, 1, 0, 0), some (.iload_n 1, 1, 1, 0), some (.invokevirtual 362, 3, 167, 0), none, none, some (.ifCond .eq 18, 3, 23, 0), none, none, some (.iload_n 2, 1, 2, 0), some (.iconst 1, 1, 1, 0), some (.bipush 8, 2, 8, 0), none, some (.invokestatic 297, 3, 164, 2), none, none, some (.ifCond .eq 8, 3, 23, 0), none, none, some (.iload_n 3, 1, 3, 0), some (.iconst (-1), 1, 4294967295, 0), some (.if_icmp .ge 5, 3, 25, 0), none, none, some (.iconst (-1), 1, 4294967295, 0), some (.ireturn, 1, 0, 0), some (.aload_n 0, 1, 0, 0), some (.invokevirtual 307, 3, 171, 0), none, none, some (.aload_n 0, 1, 0, 0), some (.iload_n 1, 1, 1, 0), some (.invokevirtual 389, 3, 203, 0)], [none, none, some (.iconst 0, 1, 0, 0), some (.istore 4, 2, 4, 0), none, some (.iconst 0, 1, 0, 0), some (.istore 5, 2, 5, 0), none, some (.iload 5, 2, 5, 0), none, some (.sipush 256, 3, 256, 0), none, none, some (.if_icmp .ge 83, 3, 128, 0), none, none, some (.iconst 1, 1, 1, 0), some (.istore 6, 2, 6, 0), none, some (.iconst 0, 1, 0, 0), some (.istore 7, 2, 7, 0), none, some (.iload 7, 2, 7, 0), none, some (.iload 4, 2, 4, 0), none, some (.if_icmp .ge 44, 3, 102, 0), none, none, some (.iload 6, 2, 6, 0), none, some (.ifCond .eq 39, 3, 102, 0)], [none, none, some (.aload_n 0, 1, 0, 0), some (.getfield 116, 3, 10, 53), none, none, some (.iload 5, 2, 5, 0), none, some (.iaload, 1, 0, 0), some (.aload_n 0, 1, 0, 0), some (.getfield 116, 3, 10, 53), none, none, some (.aload_n 0, 1, 0, 0), some (.getfield 122, 3, 10, 55), none, none, some (.iload 7, 2, 7, 0), none, some (.iaload, 1, 0, 0), some (.iaload, 1, 0, 0), some (.ixor, 1, 0, 0), some (.invokestatic 314, 3, 166, 2), none, none, some (.iload_n 2, 1, 2, 0), some (.if_icmp .ge 6, 3, 96, 0), none, none, some (.iconst 0, 1, 0, 0), some (.istore 6, 2, 6, 0)], [some (.iinc 7 1, 3, 7, 1), none, none, some (.goto (-45), 3, 54, 0), none, none, some (.iload 6, 2, 6, 0), none, some (.ifCond .ne 6, 3, 110, 0), none, none, some (.goto 15, 3, 122, 0), none, none, some (.aload_n 0, 1, 0, 0), some (.getfield 122, 3, 10, 55), none, none, some (.iload 4, 2, 4, 0), none, some (.iload 5, 2, 5, 0), none, some (.iastore, 1, 0, 0), some (.iinc 4 1, 3, 4, 1), none, none, some (.iinc 5 1, 3, 5, 1), none, none, some (.goto (-85), 3, 40, 0)], [some (.iload_n 3, 1, 3, 0), some (.iconst (-1), 1, 4294967295, 0), some (.if_icmp .ne 6, 3, 136, 0), none, none, some (.iload 4, 2, 4, 0), none, some (.ireturn, 1, 0, 0), some (.iload_n 3, 1, 3, 0), some (.iload 4, 2, 4, 0), none, some (.if_icmp .ge 12, 3, 151, 0), none, none, some (.aload_n 0, 1, 0, 0), some (.getfield 122, 3, 10, 55), none, none, some (.iload_n 3, 1, 3, 0), some (.iaload, 1, 0, 0), some (.goto 4, 3, 152, 0), none, none, some (.iconst (-1), 1, 4294967295, 0), some (.ireturn, 1, 0, 0)]]
def hm_m208 : hc_M := (⟨"HeardNextModel", "code", "(III)I"⟩, prog_12_method_78_code, 8, (some (.int)), 10, 3, hm_t208)
def hm_t209 : hc_K := [[some (.aload_n 0, 1, 0, 0), some (.iload_n 1, 1, 1, 0), some (.invokevirtual 362, 3, 167, 0), none, none, some (.ifCond .ne 5, 3, 10, 0), none, none, some (.iconst (-1), 1, 4294967295, 0), some (.ireturn, 1, 0, 0), some (.aload_n 0, 1, 0, 0), some (.invokevirtual 307, 3, 171, 0), none, none, some (.iconst 0, 1, 0, 0), some (.istore_n 2, 1, 2, 0), some (.iconst 0, 1, 0, 0), some (.istore_n 3, 1, 3, 0), some (.iload_n 3, 1, 3, 0), some (.bipush 8, 2, 8, 0), none, some (.if_icmp .ge 32, 3, 53, 0), none, none, some (.aload_n 0, 1, 0, 0), some (.iload_n 1, 1, 1, 0), some (.iconst 1, 1, 1, 0), some (.iload_n 3, 1, 3, 0), some (.ishl, 1, 0, 0), some (.invokevirtual 386, 3, 202, 0)], [some (.aload_n 0, 1, 0, 0), some (.iload_n 1, 1, 1, 0), some (.iconst 0, 1, 0, 0), some (.invokevirtual 386, 3, 202, 0), none, none, some (.if_icmp .ne 9, 3, 47, 0), none, none, some (.iload_n 2, 1, 2, 0), some (.iconst 1, 1, 1, 0), some (.iload_n 3, 1, 3, 0), some (.ishl, 1, 0, 0), some (.ior, 1, 0, 0), some (.istore_n 2, 1, 2, 0), some (.iinc 3 1, 3, 3, 1), none, none, some (.goto (-32), 3, 18, 0), none, none, some (.iload_n 2, 1, 2, 0), some (.ireturn, 1, 0, 0)]]
def hm_m209 : hc_M := (⟨"HeardNextModel", "lost", "(I)I"⟩, prog_12_method_79_code, 4, (some (.int)), 10, 1, hm_t209)
def hm_t210 : hc_K := [[some (.aload_n 0, 1, 0, 0), some (.iload_n 1, 1, 1, 0), some (.invokevirtual 362, 3, 167, 0), none, none, some (.ifCond .eq 17, 3, 22, 0), none, none, some (.iload_n 2, 1, 2, 0), some (.invokestatic 365, 3, 168, 2), none, none, some (.ifCond .eq 10, 3, 22, 0), none, none, some (.iload_n 3, 1, 3, 0), some (.invokestatic 365, 3, 168, 2), none, none, some (.ifCond .ne 5, 3, 24, 0), none, none, some (.iconst (-1), 1, 4294967295, 0), some (.ireturn, 1, 0, 0), some (.aload_n 0, 1, 0, 0), some (.invokevirtual 307, 3, 171, 0), none, none, some (.aload_n 0, 1, 0, 0), some (.iload_n 1, 1, 1, 0), some (.iload_n 2, 1, 2, 0), some (.invokevirtual 386, 3, 202, 0)], [none, none, some (.aload_n 0, 1, 0, 0), some (.iload_n 1, 1, 1, 0), some (.iload_n 3, 1, 3, 0), some (.invokevirtual 386, 3, 202, 0), none, none, some (.ixor, 1, 0, 0), some (.invokestatic 314, 3, 166, 2), none, none, some (.ireturn, 1, 0, 0)]]
def hm_m210 : hc_M := (⟨"HeardNextModel", "between", "(III)I"⟩, prog_12_method_80_code, 4, (some (.int)), 10, 3, hm_t210)
def hm_t211 : hc_K := [[some (.aload_n 0, 1, 0, 0), some (.iload_n 1, 1, 1, 0), some (.invokevirtual 362, 3, 167, 0), none, none, some (.ifCond .eq 12, 3, 17, 0), none, none, some (.iload_n 2, 1, 2, 0), some (.iconst 0, 1, 0, 0), some (.iconst 2, 1, 2, 0), some (.invokestatic 297, 3, 164, 2), none, none, some (.ifCond .ne 5, 3, 19, 0), none, none, some (.iconst (-1), 1, 4294967295, 0), some (.ireturn, 1, 0, 0), some (.aload_n 0, 1, 0, 0), some (.invokevirtual 307, 3, 171, 0), none, none, some (.aload_n 0, 1, 0, 0), some (.iload_n 1, 1, 1, 0), some (.invokevirtual 389, 3, 203, 0), none, none, some (.iconst 0, 1, 0, 0), some (.istore_n 3, 1, 3, 0), some (.iconst 0, 1, 0, 0), some (.istore 4, 2, 4, 0)], [none, some (.iconst 1, 1, 1, 0), some (.istore 5, 2, 5, 0), none, some (.iconst 0, 1, 0, 0), some (.istore 6, 2, 6, 0), none, some (.iload 6, 2, 6, 0), none, some (.sipush 256, 3, 256, 0), none, none, some (.if_icmp .ge 69, 3, 113, 0), none, none, some (.iload 6, 2, 6, 0), none, some (.iconst 1, 1, 1, 0), some (.iadd, 1, 0, 0), some (.istore 7, 2, 7, 0), none, some (.iload 7, 2, 7, 0), none, some (.sipush 256, 3, 256, 0), none, none, some (.if_icmp .ge 49, 3, 107, 0), none, none, some (.aload_n 0, 1, 0, 0), some (.getfield 116, 3, 10, 53)], [none, some (.iload 6, 2, 6, 0), none, some (.iaload, 1, 0, 0), some (.aload_n 0, 1, 0, 0), some (.getfield 116, 3, 10, 53), none, none, some (.iload 7, 2, 7, 0), none, some (.iaload, 1, 0, 0), some (.ixor, 1, 0, 0), some (.invokestatic 314, 3, 166, 2), none, none, some (.istore 8, 2, 8, 0), none, some (.iload 8, 2, 8, 0), none, some (.iload_n 3, 1, 3, 0), some (.if_icmp .gt 6, 3, 90, 0), none, none, some (.goto 14, 3, 101, 0), none, none, some (.iload 8, 2, 8, 0), none, some (.istore_n 3, 1, 3, 0), some (.iload 6, 2, 6, 0), none, some (.istore 4, 2, 4, 0)], [none, some (.iload 7, 2, 7, 0), none, some (.istore 5, 2, 5, 0), none, some (.iinc 7 1, 3, 7, 1), none, none, some (.goto (-51), 3, 53, 0), none, none, some (.iinc 6 1, 3, 6, 1), none, none, some (.goto (-71), 3, 39, 0), none, none, some (.iload_n 2, 1, 2, 0), some (.ifCond .ne 7, 3, 121, 0), none, none, some (.iload_n 3, 1, 3, 0), some (.goto 15, 3, 133, 0), none, none, some (.iload_n 2, 1, 2, 0), some (.iconst 1, 1, 1, 0), some (.if_icmp .ne 8, 3, 131, 0), none, none, some (.iload 4, 2, 4, 0)], [some (.goto 5, 3, 133, 0), none, none, some (.iload 5, 2, 5, 0), none, some (.ireturn, 1, 0, 0)]]
def hm_m211 : hc_M := (⟨"HeardNextModel", "widest", "(II)I"⟩, prog_12_method_81_code, 9, (some (.int)), 10, 2, hm_t211)
def hm_t212 : hc_K := [[some (.aload_n 0, 1, 0, 0), some (.iload_n 1, 1, 1, 0), some (.invokevirtual 362, 3, 167, 0), none, none, some (.ifCond .eq 16, 3, 21, 0), none, none, some (.aload_n 0, 1, 0, 0), some (.iload_n 2, 1, 2, 0), some (.invokevirtual 362, 3, 167, 0), none, none, some (.ifCond .eq 8, 3, 21, 0), none, none, some (.iload_n 1, 1, 1, 0), some (.iload_n 2, 1, 2, 0), some (.if_icmp .ne 5, 3, 23, 0), none, none, some (.iconst (-1), 1, 4294967295, 0), some (.ireturn, 1, 0, 0), some (.aload_n 0, 1, 0, 0), some (.invokevirtual 307, 3, 171, 0), none, none, some (.aload_n 0, 1, 0, 0), some (.iload_n 1, 1, 1, 0), some (.invokevirtual 389, 3, 203, 0)], [some (.iconst 0, 1, 0, 0), some (.istore_n 3, 1, 3, 0), some (.iconst 0, 1, 0, 0), some (.istore 4, 2, 4, 0), none, some (.iload 4, 2, 4, 0), none, some (.sipush 256, 3, 256, 0), none, none, some (.if_icmp .ge 29, 3, 71, 0), none, none, some (.aload_n 0, 1, 0, 0), some (.iload_n 2, 1, 2, 0), some (.iload 4, 2, 4, 0), none, some (.invokevirtual 386, 3, 202, 0), none, none, some (.aload_n 0, 1, 0, 0), some (.getfield 116, 3, 10, 53), none, none, some (.iload 4, 2, 4, 0), none, some (.iaload, 1, 0, 0), some (.if_icmp .ne 6, 3, 65, 0), none, none, some (.iinc 3 1, 3, 3, 1)], [none, some (.iinc 4 1, 3, 4, 1), none, none, some (.goto (-31), 3, 37, 0), none, none, some (.iload_n 3, 1, 3, 0), some (.ireturn, 1, 0, 0)]]
def hm_m212 : hc_M := (⟨"HeardNextModel", "same", "(II)I"⟩, prog_12_method_82_code, 5, (some (.int)), 10, 2, hm_t212)
def hm_t213 : hc_K := [[some (.aload_n 0, 1, 0, 0), some (.iload_n 1, 1, 1, 0), some (.invokevirtual 362, 3, 167, 0), none, none, some (.ifCond .ne 5, 3, 10, 0), none, none, some (.iconst (-1), 1, 4294967295, 0), some (.ireturn, 1, 0, 0), some (.aload_n 0, 1, 0, 0), some (.invokevirtual 307, 3, 171, 0), none, none, some (.iconst 1, 1, 1, 0), some (.istore_n 2, 1, 2, 0), some (.iload_n 2, 1, 2, 0), some (.sipush 256, 3, 256, 0), none, none, some (.if_icmp .ge 21, 3, 41, 0), none, none, some (.aload_n 0, 1, 0, 0), some (.iload_n 1, 1, 1, 0), some (.iload_n 2, 1, 2, 0), some (.invokevirtual 386, 3, 202, 0), none, none, some (.iload_n 2, 1, 2, 0), some (.if_icmp .ne 5, 3, 35, 0)], [none, some (.iload_n 2, 1, 2, 0), some (.ireturn, 1, 0, 0), some (.iinc 2 1, 3, 2, 1), none, none, some (.goto (-22), 3, 16, 0), none, none, some (.bipush (-2), 2, 4294967294, 0), none, some (.ireturn, 1, 0, 0)]]
def hm_m213 : hc_M := (⟨"HeardNextModel", "itself", "(I)I"⟩, prog_12_method_83_code, 3, (some (.int)), 10, 1, hm_t213)
def hm_t214 : hc_K := [[some (.iconst 0, 1, 0, 0), some (.istore_n 2, 1, 2, 0), some (.iload_n 2, 1, 2, 0), some (.bipush 24, 2, 24, 0), none, some (.if_icmp .ge 32, 3, 37, 0), none, none, some (.aload_n 0, 1, 0, 0), some (.getfield 125, 3, 10, 56), none, none, some (.iload_n 2, 1, 2, 0), some (.aload_n 0, 1, 0, 0), some (.iload_n 1, 1, 1, 0), some (.sipush 255, 3, 255, 0), none, none, some (.aload_n 0, 1, 0, 0), some (.getfield 104, 3, 10, 46), none, none, some (.bipush 70, 2, 70, 0), none, some (.iaload, 1, 0, 0), some (.iload_n 2, 1, 2, 0), some (.iadd, 1, 0, 0), some (.invokevirtual 383, 3, 201, 0), none, none, some (.iastore, 1, 0, 0), some (.iinc 2 1, 3, 2, 1)], [none, none, some (.goto (-32), 3, 2, 0), none, none, some (.return_, 1, 0, 0)]]
def hm_m214 : hc_M := (⟨"HeardNextModel", "fillsAll", "(I)V"⟩, prog_12_method_84_code, 3, none, 10, 1, hm_t214)
def hm_t215 : hc_K := [[some (.iload_n 1, 1, 1, 0), some (.ifCond .ne 5, 3, 6, 0), none, none, some (.iconst 0, 1, 0, 0), some (.ireturn, 1, 0, 0), some (.iconst 0, 1, 0, 0), some (.istore_n 2, 1, 2, 0), some (.iload_n 2, 1, 2, 0), some (.bipush 24, 2, 24, 0), none, some (.if_icmp .ge 31, 3, 42, 0), none, none, some (.aload_n 0, 1, 0, 0), some (.getfield 128, 3, 10, 57), none, none, some (.iconst 0, 1, 0, 0), some (.iload_n 2, 1, 2, 0), some (.iastore, 1, 0, 0), some (.iload_n 1, 1, 1, 0), some (.aload_n 0, 1, 0, 0), some (.getfield 125, 3, 10, 56), none, none, some (.iload_n 2, 1, 2, 0), some (.iaload, 1, 0, 0), some (.iconst (-1), 1, 4294967295, 0), some (.ixor, 1, 0, 0), some (.iand, 1, 0, 0), some (.ifCond .ne 5, 3, 36, 0)], [none, none, some (.iconst 1, 1, 1, 0), some (.ireturn, 1, 0, 0), some (.iinc 2 1, 3, 2, 1), none, none, some (.goto (-31), 3, 8, 0), none, none, some (.iconst 0, 1, 0, 0), some (.istore_n 2, 1, 2, 0), some (.iload_n 2, 1, 2, 0), some (.bipush 24, 2, 24, 0), none, some (.if_icmp .ge 63, 3, 110, 0), none, none, some (.iload_n 2, 1, 2, 0), some (.iconst 1, 1, 1, 0), some (.iadd, 1, 0, 0), some (.istore_n 3, 1, 3, 0), some (.iload_n 3, 1, 3, 0), some (.bipush 24, 2, 24, 0), none, some (.if_icmp .ge 47, 3, 104, 0), none, none, some (.aload_n 0, 1, 0, 0), some (.getfield 128, 3, 10, 57)], [some (.iconst 0, 1, 0, 0), some (.iload_n 2, 1, 2, 0), some (.iastore, 1, 0, 0), some (.aload_n 0, 1, 0, 0), some (.getfield 128, 3, 10, 57), none, none, some (.iconst 1, 1, 1, 0), some (.iload_n 3, 1, 3, 0), some (.iastore, 1, 0, 0), some (.iload_n 1, 1, 1, 0), some (.aload_n 0, 1, 0, 0), some (.getfield 125, 3, 10, 56), none, none, some (.iload_n 2, 1, 2, 0), some (.iaload, 1, 0, 0), some (.iconst (-1), 1, 4294967295, 0), some (.ixor, 1, 0, 0), some (.iand, 1, 0, 0), some (.aload_n 0, 1, 0, 0), some (.getfield 125, 3, 10, 56), none, none, some (.iload_n 3, 1, 3, 0), some (.iaload, 1, 0, 0), some (.iconst (-1), 1, 4294967295, 0), some (.ixor, 1, 0, 0), some (.iand, 1, 0, 0), some (.ifCond .ne 5, 3, 98, 0)], [some (.iconst 2, 1, 2, 0), some (.ireturn, 1, 0, 0), some (.iinc 3 1, 3, 3, 1), none, none, some (.goto (-47), 3, 54, 0), none, none, some (.iinc 2 1, 3, 2, 1), none, none, some (.goto (-63), 3, 44, 0), none, none, some (.iconst 0, 1, 0, 0), some (.istore_n 2, 1, 2, 0), some (.iload_n 2, 1, 2, 0), some (.sipush 13824, 3, 13824, 0), none, none, some (.if_icmp .ge 121, 3, 237, 0), none, none, some (.aload_n 0, 1, 0, 0), some (.getfield 128, 3, 10, 57), none, none, some (.iconst 0, 1, 0, 0), some (.iload_n 2, 1, 2, 0), some (.sipush 576, 3, 576, 0)], [some (.idiv, 1, 0, 0), some (.iastore, 1, 0, 0), some (.aload_n 0, 1, 0, 0), some (.getfield 128, 3, 10, 57), none, none, some (.iconst 1, 1, 1, 0), some (.iload_n 2, 1, 2, 0), some (.bipush 24, 2, 24, 0), none, some (.idiv, 1, 0, 0), some (.bipush 24, 2, 24, 0), none, some (.irem, 1, 0, 0), some (.iastore, 1, 0, 0), some (.aload_n 0, 1, 0, 0), some (.getfield 128, 3, 10, 57), none, none, some (.iconst 2, 1, 2, 0), some (.iload_n 2, 1, 2, 0), some (.bipush 24, 2, 24, 0), none, some (.irem, 1, 0, 0), some (.iastore, 1, 0, 0), some (.aload_n 0, 1, 0, 0), some (.getfield 128, 3, 10, 57), none, none, some (.iconst 0, 1, 0, 0), some (.iaload, 1, 0, 0), some (.aload_n 0, 1, 0, 0)], [some (.getfield 128, 3, 10, 57), none, none, some (.iconst 1, 1, 1, 0), some (.iaload, 1, 0, 0), some (.if_icmp .ge 66, 3, 231, 0), none, none, some (.aload_n 0, 1, 0, 0), some (.getfield 128, 3, 10, 57), none, none, some (.iconst 1, 1, 1, 0), some (.iaload, 1, 0, 0), some (.aload_n 0, 1, 0, 0), some (.getfield 128, 3, 10, 57), none, none, some (.iconst 2, 1, 2, 0), some (.iaload, 1, 0, 0), some (.if_icmp .ge 51, 3, 231, 0), none, none, some (.iload_n 1, 1, 1, 0), some (.aload_n 0, 1, 0, 0), some (.getfield 125, 3, 10, 56), none, none, some (.aload_n 0, 1, 0, 0), some (.getfield 128, 3, 10, 57)], [some (.iconst 0, 1, 0, 0), some (.iaload, 1, 0, 0), some (.iaload, 1, 0, 0), some (.iconst (-1), 1, 4294967295, 0), some (.ixor, 1, 0, 0), some (.iand, 1, 0, 0), some (.aload_n 0, 1, 0, 0), some (.getfield 125, 3, 10, 56), none, none, some (.aload_n 0, 1, 0, 0), some (.getfield 128, 3, 10, 57), none, none, some (.iconst 1, 1, 1, 0), some (.iaload, 1, 0, 0), some (.iaload, 1, 0, 0), some (.iconst (-1), 1, 4294967295, 0), some (.ixor, 1, 0, 0), some (.iand, 1, 0, 0), some (.aload_n 0, 1, 0, 0), some (.getfield 125, 3, 10, 56), none, none, some (.aload_n 0, 1, 0, 0), some (.getfield 128, 3, 10, 57), none, none, some (.iconst 2, 1, 2, 0), some (.iaload, 1, 0, 0), some (.iaload, 1, 0, 0), some (.iconst (-1), 1, 4294967295, 0)], [some (.ixor, 1, 0, 0), some (.iand, 1, 0, 0), some (.ifCond .ne 5, 3, 231, 0), none, none, some (.iconst 3, 1, 3, 0), some (.ireturn, 1, 0, 0), some (.iinc 2 1, 3, 2, 1), none, none, some (.goto (-122), 3, 112, 0), none, none, some (.iconst 4, 1, 4, 0), some (.ireturn, 1, 0, 0)]]
def hm_m215 : hc_M := (⟨"HeardNextModel", "findsTimes", "(I)I"⟩, prog_12_method_85_code, 4, (some (.int)), 10, 1, hm_t215)
def hm_t216 : hc_K := [[some (.aload_n 0, 1, 0, 0), some (.iload_n 1, 1, 1, 0), some (.invokevirtual 362, 3, 167, 0), none, none, some (.ifCond .eq 12, 3, 17, 0), none, none, some (.iload_n 2, 1, 2, 0), some (.iconst (-1), 1, 4294967295, 0), some (.iconst 2, 1, 2, 0), some (.invokestatic 297, 3, 164, 2), none, none, some (.ifCond .ne 5, 3, 19, 0), none, none, some (.iconst (-1), 1, 4294967295, 0), some (.ireturn, 1, 0, 0), some (.aload_n 0, 1, 0, 0), some (.invokevirtual 307, 3, 171, 0), none, none, some (.aload_n 0, 1, 0, 0), some (.iload_n 1, 1, 1, 0), some (.invokevirtual 392, 3, 214, 0), none, none, some (.aload_n 0, 1, 0, 0), some (.aload_n 0, 1, 0, 0), some (.getfield 104, 3, 10, 46)], [none, some (.iload_n 1, 1, 1, 0), some (.iaload, 1, 0, 0), some (.aload_n 0, 1, 0, 0), some (.getfield 104, 3, 10, 46), none, none, some (.bipush 40, 2, 40, 0), none, some (.iload_n 1, 1, 1, 0), some (.iadd, 1, 0, 0), some (.iaload, 1, 0, 0), some (.iconst (-1), 1, 4294967295, 0), some (.ixor, 1, 0, 0), some (.iand, 1, 0, 0), some (.invokevirtual 395, 3, 215, 0), none, none, some (.istore_n 3, 1, 3, 0), some (.iload_n 3, 1, 3, 0), some (.iconst 4, 1, 4, 0), some (.if_icmp .ne 6, 3, 59, 0), none, none, some (.bipush (-2), 2, 4294967294, 0), none, some (.ireturn, 1, 0, 0), some (.iload_n 2, 1, 2, 0), some (.iconst (-1), 1, 4294967295, 0), some (.if_icmp .ne 5, 3, 66, 0)], [some (.iload_n 3, 1, 3, 0), some (.ireturn, 1, 0, 0), some (.iload_n 2, 1, 2, 0), some (.iload_n 3, 1, 3, 0), some (.if_icmp .ge 12, 3, 80, 0), none, none, some (.aload_n 0, 1, 0, 0), some (.getfield 128, 3, 10, 57), none, none, some (.iload_n 2, 1, 2, 0), some (.iaload, 1, 0, 0), some (.goto 4, 3, 81, 0), none, none, some (.iconst (-1), 1, 4294967295, 0), some (.ireturn, 1, 0, 0)]]
def hm_m216 : hc_M := (⟨"HeardNextModel", "times", "(II)I"⟩, prog_12_method_86_code, 4, (some (.int)), 10, 2, hm_t216)
def hm_t217 : hc_K := [[some (.aload_n 0, 1, 0, 0), some (.iload_n 1, 1, 1, 0), some (.invokevirtual 362, 3, 167, 0), none, none, some (.ifCond .eq 12, 3, 17, 0), none, none, some (.iload_n 2, 1, 2, 0), some (.iconst 0, 1, 0, 0), some (.iconst 1, 1, 1, 0), some (.invokestatic 297, 3, 164, 2), none, none, some (.ifCond .ne 5, 3, 19, 0), none, none, some (.iconst (-1), 1, 4294967295, 0), some (.ireturn, 1, 0, 0), some (.aload_n 0, 1, 0, 0), some (.invokevirtual 307, 3, 171, 0), none, none, some (.aload_n 0, 1, 0, 0), some (.iload_n 1, 1, 1, 0), some (.invokevirtual 392, 3, 214, 0), none, none, some (.iconst 0, 1, 0, 0), some (.istore_n 3, 1, 3, 0), some (.iconst 1, 1, 1, 0), some (.istore 4, 2, 4, 0)], [none, some (.iload 4, 2, 4, 0), none, some (.bipush 24, 2, 24, 0), none, some (.if_icmp .ge 48, 3, 85, 0), none, none, some (.aload_n 0, 1, 0, 0), some (.getfield 125, 3, 10, 56), none, none, some (.iload 4, 2, 4, 0), none, some (.iaload, 1, 0, 0), some (.aload_n 0, 1, 0, 0), some (.getfield 104, 3, 10, 46), none, none, some (.iload_n 1, 1, 1, 0), some (.iaload, 1, 0, 0), some (.iand, 1, 0, 0), some (.invokestatic 314, 3, 166, 2), none, none, some (.aload_n 0, 1, 0, 0), some (.getfield 125, 3, 10, 56), none, none, some (.iload_n 3, 1, 3, 0), some (.iaload, 1, 0, 0), some (.aload_n 0, 1, 0, 0)], [some (.getfield 104, 3, 10, 46), none, none, some (.iload_n 1, 1, 1, 0), some (.iaload, 1, 0, 0), some (.iand, 1, 0, 0), some (.invokestatic 314, 3, 166, 2), none, none, some (.if_icmp .le 6, 3, 79, 0), none, none, some (.iload 4, 2, 4, 0), none, some (.istore_n 3, 1, 3, 0), some (.iinc 4 1, 3, 4, 1), none, none, some (.goto (-49), 3, 33, 0), none, none, some (.iload_n 2, 1, 2, 0), some (.ifCond .ne 7, 3, 93, 0), none, none, some (.iload_n 3, 1, 3, 0), some (.goto 19, 3, 109, 0), none, none, some (.aload_n 0, 1, 0, 0), some (.getfield 125, 3, 10, 56)], [none, some (.iload_n 3, 1, 3, 0), some (.iaload, 1, 0, 0), some (.aload_n 0, 1, 0, 0), some (.getfield 104, 3, 10, 46), none, none, some (.iload_n 1, 1, 1, 0), some (.iaload, 1, 0, 0), some (.iand, 1, 0, 0), some (.invokestatic 314, 3, 166, 2), none, none, some (.ireturn, 1, 0, 0)]]
def hm_m217 : hc_M := (⟨"HeardNextModel", "bestHour", "(II)I"⟩, prog_12_method_87_code, 5, (some (.int)), 10, 2, hm_t217)
def hm_t218 : hc_K := [[some (.aload_n 0, 1, 0, 0), some (.iload_n 1, 1, 1, 0), some (.invokevirtual 362, 3, 167, 0), none, none, some (.ifCond .ne 5, 3, 10, 0), none, none, some (.iconst (-1), 1, 4294967295, 0), some (.ireturn, 1, 0, 0), some (.aload_n 0, 1, 0, 0), some (.invokevirtual 307, 3, 171, 0), none, none, some (.aload_n 0, 1, 0, 0), some (.iload_n 1, 1, 1, 0), some (.invokevirtual 380, 3, 200, 0), none, none, some (.ireturn, 1, 0, 0)]]
def hm_m218 : hc_M := (⟨"HeardNextModel", "breakAt", "(I)I"⟩, prog_12_method_88_code, 2, (some (.int)), 10, 1, hm_t218)
def hm_t219 : hc_K := [[some (.iload_n 1, 1, 1, 0), some (.invokestatic 398, 3, 197, 2), none, none, some (.ifCond .eq 12, 3, 16, 0), none, none, some (.iload_n 2, 1, 2, 0), some (.iconst 0, 1, 0, 0), some (.iconst 1, 1, 1, 0), some (.invokestatic 297, 3, 164, 2), none, none, some (.ifCond .ne 5, 3, 18, 0), none, none, some (.iconst (-1), 1, 4294967295, 0), some (.ireturn, 1, 0, 0), some (.aload_n 0, 1, 0, 0), some (.getfield 43, 3, 10, 22), none, none, some (.aload_n 0, 1, 0, 0), some (.getfield 227, 3, 10, 18), none, none, some (.iaload, 1, 0, 0), some (.ifCond .ne 6, 3, 33, 0), none, none, some (.bipush (-2), 2, 4294967294, 0)], [some (.ireturn, 1, 0, 0), some (.aload_n 0, 1, 0, 0), some (.invokevirtual 401, 3, 172, 0), none, none, some (.iconst 0, 1, 0, 0), some (.istore_n 3, 1, 3, 0), some (.iload_n 3, 1, 3, 0), some (.bipush 10, 2, 10, 0), none, some (.if_icmp .ge 16, 3, 58, 0), none, none, some (.aload_n 0, 1, 0, 0), some (.getfield 131, 3, 10, 58), none, none, some (.iload_n 3, 1, 3, 0), some (.iconst 0, 1, 0, 0), some (.iastore, 1, 0, 0), some (.iinc 3 1, 3, 3, 1), none, none, some (.goto (-16), 3, 39, 0), none, none, some (.iconst 0, 1, 0, 0), some (.istore_n 3, 1, 3, 0), some (.iload_n 3, 1, 3, 0), some (.iload_n 1, 1, 1, 0), some (.if_icmp .ge 59, 3, 121, 0)], [none, some (.aload_n 0, 1, 0, 0), some (.invokevirtual 356, 3, 184, 0), none, none, some (.iconst 0, 1, 0, 0), some (.istore 4, 2, 4, 0), none, some (.iload 4, 2, 4, 0), none, some (.aload_n 0, 1, 0, 0), some (.getfield 43, 3, 10, 22), none, none, some (.aload_n 0, 1, 0, 0), some (.getfield 227, 3, 10, 18), none, none, some (.iaload, 1, 0, 0), some (.if_icmp .ge 32, 3, 115, 0), none, none, some (.aload_n 0, 1, 0, 0), some (.getfield 131, 3, 10, 58), none, none, some (.iload 4, 2, 4, 0), none, some (.dup2, 1, 0, 0), some (.iaload, 1, 0, 0), some (.aload_n 0, 1, 0, 0), some (.getfield 104, 3, 10, 46)], [none, none, some (.bipush 30, 2, 30, 0), none, some (.iload 4, 2, 4, 0), none, some (.iadd, 1, 0, 0), some (.iaload, 1, 0, 0), some (.invokestatic 314, 3, 166, 2), none, none, some (.iadd, 1, 0, 0), some (.iastore, 1, 0, 0), some (.iinc 4 1, 3, 4, 1), none, none, some (.goto (-40), 3, 72, 0), none, none, some (.iinc 3 1, 3, 3, 1), none, none, some (.goto (-58), 3, 60, 0), none, none, some (.iconst 0, 1, 0, 0), some (.istore_n 3, 1, 3, 0), some (.iconst 1, 1, 1, 0), some (.istore 4, 2, 4, 0), none, some (.iload 4, 2, 4, 0)], [some (.aload_n 0, 1, 0, 0), some (.getfield 43, 3, 10, 22), none, none, some (.aload_n 0, 1, 0, 0), some (.getfield 227, 3, 10, 18), none, none, some (.iaload, 1, 0, 0), some (.if_icmp .ge 28, 3, 165, 0), none, none, some (.aload_n 0, 1, 0, 0), some (.getfield 131, 3, 10, 58), none, none, some (.iload 4, 2, 4, 0), none, some (.iaload, 1, 0, 0), some (.aload_n 0, 1, 0, 0), some (.getfield 131, 3, 10, 58), none, none, some (.iload_n 3, 1, 3, 0), some (.iaload, 1, 0, 0), some (.if_icmp .le 6, 3, 159, 0), none, none, some (.iload 4, 2, 4, 0), none, some (.istore_n 3, 1, 3, 0), some (.iinc 4 1, 3, 4, 1)], [none, none, some (.goto (-36), 3, 126, 0), none, none, some (.iload_n 2, 1, 2, 0), some (.ifCond .ne 7, 3, 173, 0), none, none, some (.iload_n 3, 1, 3, 0), some (.goto 9, 3, 179, 0), none, none, some (.aload_n 0, 1, 0, 0), some (.getfield 131, 3, 10, 58), none, none, some (.iload_n 3, 1, 3, 0), some (.iaload, 1, 0, 0), some (.ireturn, 1, 0, 0)]]
def hm_m219 : hc_M := (⟨"HeardNextModel", "loudest", "(II)I"⟩, prog_12_method_89_code, 5, (some (.int)), 10, 2, hm_t219)
def hm_t220 : hc_K := [[some (.iload_n 1, 1, 1, 0), some (.invokestatic 374, 3, 196, 2), none, none, some (.ifCond .ne 5, 3, 9, 0), none, none, some (.iconst (-1), 1, 4294967295, 0), some (.ireturn, 1, 0, 0), some (.aload_n 0, 1, 0, 0), some (.invokevirtual 401, 3, 172, 0), none, none, some (.aload_n 0, 1, 0, 0), some (.iload_n 1, 1, 1, 0), some (.invokevirtual 377, 3, 185, 0), none, none, some (.iconst 0, 1, 0, 0), some (.istore_n 2, 1, 2, 0), some (.iconst 0, 1, 0, 0), some (.istore_n 3, 1, 3, 0), some (.iload_n 3, 1, 3, 0), some (.aload_n 0, 1, 0, 0), some (.getfield 43, 3, 10, 22), none, none, some (.aload_n 0, 1, 0, 0), some (.getfield 227, 3, 10, 18), none, none, some (.iaload, 1, 0, 0)], [some (.if_icmp .ge 24, 3, 56, 0), none, none, some (.aload_n 0, 1, 0, 0), some (.getfield 104, 3, 10, 46), none, none, some (.bipush 30, 2, 30, 0), none, some (.iload_n 3, 1, 3, 0), some (.iadd, 1, 0, 0), some (.iaload, 1, 0, 0), some (.ifCond .eq 6, 3, 50, 0), none, none, some (.iinc 2 1, 3, 2, 1), none, none, some (.iinc 3 1, 3, 3, 1), none, none, some (.goto (-31), 3, 22, 0), none, none, some (.iload_n 2, 1, 2, 0), some (.ireturn, 1, 0, 0)]]
def hm_m220 : hc_M := (⟨"HeardNextModel", "warm", "(I)I"⟩, prog_12_method_90_code, 4, (some (.int)), 10, 1, hm_t220)
def hm_t221 : hc_K := [[some (.iconst 0, 1, 0, 0), some (.istore_n 2, 1, 2, 0), some (.iload_n 2, 1, 2, 0), some (.aload_n 0, 1, 0, 0), some (.getfield 43, 3, 10, 22), none, none, some (.aload_n 0, 1, 0, 0), some (.getfield 227, 3, 10, 18), none, none, some (.iaload, 1, 0, 0), some (.if_icmp .ge 24, 3, 36, 0), none, none, some (.aload_n 0, 1, 0, 0), some (.getfield 101, 3, 10, 45), none, none, some (.bipush 20, 2, 20, 0), none, some (.iload_n 2, 1, 2, 0), some (.iadd, 1, 0, 0), some (.iaload, 1, 0, 0), some (.iload_n 1, 1, 1, 0), some (.if_icmp .ne 5, 3, 30, 0), none, none, some (.iload_n 2, 1, 2, 0), some (.ireturn, 1, 0, 0), some (.iinc 2 1, 3, 2, 1)], [none, some (.goto (-31), 3, 2, 0), none, none, some (.iconst (-1), 1, 4294967295, 0), some (.ireturn, 1, 0, 0)]]
def hm_m221 : hc_M := (⟨"HeardNextModel", "lives", "(I)I"⟩, prog_12_method_91_code, 3, (some (.int)), 10, 1, hm_t221)
def hm_t222 : hc_K := [[some (.aload_n 0, 1, 0, 0), some (.iload_n 1, 1, 1, 0), some (.invokevirtual 362, 3, 167, 0), none, none, some (.ifCond .ne 5, 3, 10, 0), none, none, some (.iconst (-1), 1, 4294967295, 0), some (.ireturn, 1, 0, 0), some (.aload_n 0, 1, 0, 0), some (.invokevirtual 401, 3, 172, 0), none, none, some (.iconst 1, 1, 1, 0), some (.istore_n 2, 1, 2, 0), some (.iload_n 2, 1, 2, 0), some (.bipush 72, 2, 72, 0), none, some (.if_icmp .gt 27, 3, 46, 0), none, none, some (.aload_n 0, 1, 0, 0), some (.invokevirtual 356, 3, 184, 0), none, none, some (.aload_n 0, 1, 0, 0), some (.getfield 104, 3, 10, 46), none, none, some (.bipush 30, 2, 30, 0)], [some (.iload_n 1, 1, 1, 0), some (.iadd, 1, 0, 0), some (.iaload, 1, 0, 0), some (.ifCond .eq 5, 3, 40, 0), none, none, some (.iload_n 2, 1, 2, 0), some (.ireturn, 1, 0, 0), some (.iinc 2 1, 3, 2, 1), none, none, some (.goto (-27), 3, 16, 0), none, none, some (.bipush (-2), 2, 4294967294, 0), none, some (.ireturn, 1, 0, 0)]]
def hm_m222 : hc_M := (⟨"HeardNextModel", "warmth", "(I)I"⟩, prog_12_method_92_code, 3, (some (.int)), 10, 1, hm_t222)
def hm_t223 : hc_K := [[some (.iload_n 2, 1, 2, 0), some (.invokestatic 374, 3, 196, 2), none, none, some (.ifCond .eq 25, 3, 29, 0), none, none, some (.iload_n 3, 1, 3, 0), some (.iconst 0, 1, 0, 0), some (.iconst 2, 1, 2, 0), some (.invokestatic 297, 3, 164, 2), none, none, some (.ifCond .eq 16, 3, 29, 0), none, none, some (.iload_n 3, 1, 3, 0), some (.iconst 2, 1, 2, 0), some (.if_icmp .ge 13, 3, 31, 0), none, none, some (.aload_n 0, 1, 0, 0), some (.iload_n 1, 1, 1, 0), some (.invokevirtual 362, 3, 167, 0), none, none, some (.ifCond .ne 5, 3, 31, 0), none, none, some (.iconst (-1), 1, 4294967295, 0), some (.ireturn, 1, 0, 0), some (.aload_n 0, 1, 0, 0)], [some (.invokevirtual 307, 3, 171, 0), none, none, some (.aload_n 0, 1, 0, 0), some (.iload_n 2, 1, 2, 0), some (.invokevirtual 377, 3, 185, 0), none, none, some (.iload_n 3, 1, 3, 0), some (.ifCond .ne 15, 3, 56, 0), none, none, some (.aload_n 0, 1, 0, 0), some (.getfield 104, 3, 10, 46), none, none, some (.bipush 30, 2, 30, 0), none, some (.iload_n 1, 1, 1, 0), some (.iadd, 1, 0, 0), some (.iaload, 1, 0, 0), some (.goto 27, 3, 80, 0), none, none, some (.iload_n 3, 1, 3, 0), some (.iconst 1, 1, 1, 0), some (.if_icmp .ne 18, 3, 76, 0), none, none, some (.aload_n 0, 1, 0, 0), some (.getfield 104, 3, 10, 46)], [none, some (.bipush 40, 2, 40, 0), none, some (.iload_n 1, 1, 1, 0), some (.iadd, 1, 0, 0), some (.iaload, 1, 0, 0), some (.invokestatic 314, 3, 166, 2), none, none, some (.goto 7, 3, 80, 0), none, none, some (.aload_n 0, 1, 0, 0), some (.invokevirtual 404, 3, 187, 0), none, none, some (.ireturn, 1, 0, 0)]]
def hm_m223 : hc_M := (⟨"HeardNextModel", "then", "(III)I"⟩, prog_12_method_93_code, 4, (some (.int)), 10, 3, hm_t223)
def hm_t224 : hc_K := [[some (.aload_n 0, 1, 0, 0), some (.iload_n 1, 1, 1, 0), some (.invokevirtual 362, 3, 167, 0), none, none, some (.ifCond .eq 10, 3, 15, 0), none, none, some (.iload_n 2, 1, 2, 0), some (.invokestatic 398, 3, 197, 2), none, none, some (.ifCond .ne 5, 3, 17, 0), none, none, some (.iconst (-1), 1, 4294967295, 0), some (.ireturn, 1, 0, 0), some (.aload_n 0, 1, 0, 0), some (.invokevirtual 401, 3, 172, 0), none, none, some (.iconst 0, 1, 0, 0), some (.istore_n 3, 1, 3, 0), some (.iconst 0, 1, 0, 0), some (.istore 4, 2, 4, 0), none, some (.iload 4, 2, 4, 0), none, some (.iload_n 2, 1, 2, 0), some (.if_icmp .ge 28, 3, 57, 0)], [some (.aload_n 0, 1, 0, 0), some (.invokevirtual 356, 3, 184, 0), none, none, some (.aload_n 0, 1, 0, 0), some (.getfield 104, 3, 10, 46), none, none, some (.bipush 30, 2, 30, 0), none, some (.iload_n 1, 1, 1, 0), some (.iadd, 1, 0, 0), some (.iaload, 1, 0, 0), some (.ifCond .ne 6, 3, 51, 0), none, none, some (.iinc 3 1, 3, 3, 1), none, none, some (.iinc 4 1, 3, 4, 1), none, none, some (.goto (-28), 3, 26, 0), none, none, some (.iload_n 3, 1, 3, 0), some (.ireturn, 1, 0, 0)]]
def hm_m224 : hc_M := (⟨"HeardNextModel", "quiet", "(II)I"⟩, prog_12_method_94_code, 5, (some (.int)), 10, 2, hm_t224)
def hm_t225 : hc_K := [[some (.iconst 0, 1, 0, 0), some (.istore_n 1, 1, 1, 0), some (.iconst 0, 1, 0, 0), some (.istore_n 2, 1, 2, 0), some (.iload_n 2, 1, 2, 0), some (.aload_n 0, 1, 0, 0), some (.getfield 43, 3, 10, 22), none, none, some (.aload_n 0, 1, 0, 0), some (.getfield 227, 3, 10, 18), none, none, some (.iaload, 1, 0, 0), some (.if_icmp .ge 27, 3, 41, 0), none, none, some (.aload_n 0, 1, 0, 0), some (.getfield 104, 3, 10, 46), none, none, some (.bipush 60, 2, 60, 0), none, some (.iload_n 2, 1, 2, 0), some (.iadd, 1, 0, 0), some (.iaload, 1, 0, 0), some (.ifCond .le 9, 3, 35, 0), none, none, some (.iload_n 1, 1, 1, 0), some (.iconst 1, 1, 1, 0), some (.iload_n 2, 1, 2, 0)], [some (.ishl, 1, 0, 0), some (.ior, 1, 0, 0), some (.istore_n 1, 1, 1, 0), some (.iinc 2 1, 3, 2, 1), none, none, some (.goto (-34), 3, 4, 0), none, none, some (.iload_n 1, 1, 1, 0), some (.ireturn, 1, 0, 0)]]
def hm_m225 : hc_M := (⟨"HeardNextModel", "griefBits", "()I"⟩, prog_12_method_95_code, 3, (some (.int)), 10, 0, hm_t225)
def hm_t226 : hc_K := [[some (.iload_n 1, 1, 1, 0), some (.invokestatic 374, 3, 196, 2), none, none, some (.ifCond .ne 5, 3, 9, 0), none, none, some (.iconst (-1), 1, 4294967295, 0), some (.ireturn, 1, 0, 0), some (.aload_n 0, 1, 0, 0), some (.invokevirtual 307, 3, 171, 0), none, none, some (.aload_n 0, 1, 0, 0), some (.iload_n 1, 1, 1, 0), some (.invokevirtual 377, 3, 185, 0), none, none, some (.aload_n 0, 1, 0, 0), some (.invokevirtual 407, 3, 225, 0), none, none, some (.invokestatic 314, 3, 166, 2), none, none, some (.ireturn, 1, 0, 0)]]
def hm_m226 : hc_M := (⟨"HeardNextModel", "mourn", "(I)I"⟩, prog_12_method_96_code, 2, (some (.int)), 10, 1, hm_t226)
def hm_t227 : hc_K := [[some (.iload_n 1, 1, 1, 0), some (.iconst 0, 1, 0, 0), some (.iconst 1, 1, 1, 0), some (.invokestatic 297, 3, 164, 2), none, none, some (.ifCond .ne 5, 3, 11, 0), none, none, some (.iconst (-1), 1, 4294967295, 0), some (.ireturn, 1, 0, 0), some (.bipush (-2), 2, 4294967294, 0), none, some (.istore_n 2, 1, 2, 0), some (.iconst 0, 1, 0, 0), some (.istore_n 3, 1, 3, 0), some (.iconst 0, 1, 0, 0), some (.istore 4, 2, 4, 0), none, some (.iload 4, 2, 4, 0), none, some (.aload_n 0, 1, 0, 0), some (.getfield 43, 3, 10, 22), none, none, some (.aload_n 0, 1, 0, 0), some (.getfield 227, 3, 10, 18), none, none, some (.iaload, 1, 0, 0), some (.if_icmp .ge 96, 3, 126, 0)], [none, some (.iconst 0, 1, 0, 0), some (.istore 5, 2, 5, 0), none, some (.iload 5, 2, 5, 0), none, some (.aload_n 0, 1, 0, 0), some (.getfield 43, 3, 10, 22), none, none, some (.aload_n 0, 1, 0, 0), some (.getfield 227, 3, 10, 18), none, none, some (.iaload, 1, 0, 0), some (.if_icmp .ge 73, 3, 120, 0), none, none, some (.aload_n 0, 1, 0, 0), some (.getfield 101, 3, 10, 45), none, none, some (.bipush 30, 2, 30, 0), none, some (.iload 4, 2, 4, 0), none, some (.iadd, 1, 0, 0), some (.iaload, 1, 0, 0), some (.aload_n 0, 1, 0, 0), some (.getfield 101, 3, 10, 45)], [some (.iload 5, 2, 5, 0), none, some (.iaload, 1, 0, 0), some (.iand, 1, 0, 0), some (.aload_n 0, 1, 0, 0), some (.getfield 101, 3, 10, 45), none, none, some (.bipush 40, 2, 40, 0), none, some (.iload 5, 2, 5, 0), none, some (.iadd, 1, 0, 0), some (.iaload, 1, 0, 0), some (.iconst (-1), 1, 4294967295, 0), some (.ixor, 1, 0, 0), some (.iand, 1, 0, 0), some (.invokestatic 314, 3, 166, 2), none, none, some (.istore 6, 2, 6, 0), none, some (.iload 4, 2, 4, 0), none, some (.iload 5, 2, 5, 0), none, some (.if_icmp .eq 24, 3, 114, 0), none, none, some (.iload 6, 2, 6, 0), none, some (.iload_n 3, 1, 3, 0)], [some (.if_icmp .gt 6, 3, 102, 0), none, none, some (.goto 15, 3, 114, 0), none, none, some (.bipush 10, 2, 10, 0), none, some (.iload 4, 2, 4, 0), none, some (.imul, 1, 0, 0), some (.iload 5, 2, 5, 0), none, some (.iadd, 1, 0, 0), some (.istore_n 2, 1, 2, 0), some (.iload 6, 2, 6, 0), none, some (.istore_n 3, 1, 3, 0), some (.iinc 5 1, 3, 5, 1), none, none, some (.goto (-81), 3, 36, 0), none, none, some (.iinc 4 1, 3, 4, 1), none, none, some (.goto (-104), 3, 19, 0), none, none, some (.iload_n 2, 1, 2, 0), some (.ifCond .lt 7, 3, 134, 0)], [none, none, some (.iload_n 1, 1, 1, 0), some (.ifCond .ne 7, 3, 138, 0), none, none, some (.iload_n 2, 1, 2, 0), some (.goto 4, 3, 139, 0), none, none, some (.iload_n 3, 1, 3, 0), some (.ireturn, 1, 0, 0)]]
def hm_m227 : hc_M := (⟨"HeardNextModel", "carryBest", "(I)I"⟩, prog_12_method_97_code, 7, (some (.int)), 10, 1, hm_t227)
def hm_t228 : hc_K := [[some (.aload_n 0, 1, 0, 0), some (.iload_n 1, 1, 1, 0), some (.invokevirtual 362, 3, 167, 0), none, none, some (.ifCond .eq 24, 3, 29, 0), none, none, some (.aload_n 0, 1, 0, 0), some (.getfield 101, 3, 10, 45), none, none, some (.iload_n 1, 1, 1, 0), some (.iaload, 1, 0, 0), some (.aload_n 0, 1, 0, 0), some (.getfield 101, 3, 10, 45), none, none, some (.bipush 40, 2, 40, 0), none, some (.iload_n 1, 1, 1, 0), some (.iadd, 1, 0, 0), some (.iaload, 1, 0, 0), some (.iconst (-1), 1, 4294967295, 0), some (.ixor, 1, 0, 0), some (.iand, 1, 0, 0), some (.goto 4, 3, 30, 0), none, none, some (.iconst (-1), 1, 4294967295, 0), some (.ireturn, 1, 0, 0)]]
def hm_m228 : hc_M := (⟨"HeardNextModel", "needs", "(I)I"⟩, prog_12_method_98_code, 2, (some (.int)), 10, 1, hm_t228)
def hm_t229 : hc_K := [[some (.iload_n 1, 1, 1, 0), some (.iconst 0, 1, 0, 0), some (.iconst 1, 1, 1, 0), some (.invokestatic 297, 3, 164, 2), none, none, some (.ifCond .ne 5, 3, 11, 0), none, none, some (.iconst (-1), 1, 4294967295, 0), some (.ireturn, 1, 0, 0), some (.aload_n 0, 1, 0, 0), some (.invokevirtual 401, 3, 172, 0), none, none, some (.aload_n 0, 1, 0, 0), some (.bipush 48, 2, 48, 0), none, some (.invokevirtual 377, 3, 185, 0), none, none, some (.aload_n 0, 1, 0, 0), some (.invokevirtual 404, 3, 187, 0), none, none, some (.istore_n 2, 1, 2, 0), some (.bipush (-2), 2, 4294967294, 0), none, some (.istore_n 3, 1, 3, 0), some (.iconst 0, 1, 0, 0), some (.istore 4, 2, 4, 0)], [some (.iload 4, 2, 4, 0), none, some (.aload_n 0, 1, 0, 0), some (.getfield 43, 3, 10, 22), none, none, some (.aload_n 0, 1, 0, 0), some (.getfield 227, 3, 10, 18), none, none, some (.iaload, 1, 0, 0), some (.if_icmp .ge 78, 3, 121, 0), none, none, some (.iload 4, 2, 4, 0), none, some (.iconst 1, 1, 1, 0), some (.iadd, 1, 0, 0), some (.istore 5, 2, 5, 0), none, some (.iload 5, 2, 5, 0), none, some (.aload_n 0, 1, 0, 0), some (.getfield 43, 3, 10, 22), none, none, some (.aload_n 0, 1, 0, 0), some (.getfield 227, 3, 10, 18), none, none, some (.iaload, 1, 0, 0), some (.if_icmp .ge 52, 3, 115, 0)], [none, none, some (.aload_n 0, 1, 0, 0), some (.invokevirtual 401, 3, 172, 0), none, none, some (.aload_n 0, 1, 0, 0), some (.iload 4, 2, 4, 0), none, some (.iload 5, 2, 5, 0), none, some (.invokevirtual 371, 3, 194, 0), none, none, some (.aload_n 0, 1, 0, 0), some (.bipush 48, 2, 48, 0), none, some (.invokevirtual 377, 3, 185, 0), none, none, some (.aload_n 0, 1, 0, 0), some (.invokevirtual 404, 3, 187, 0), none, none, some (.iload_n 2, 1, 2, 0), some (.if_icmp .gt 6, 3, 95, 0), none, none, some (.goto 17, 3, 109, 0), none, none, some (.bipush 10, 2, 10, 0)], [none, some (.iload 4, 2, 4, 0), none, some (.imul, 1, 0, 0), some (.iload 5, 2, 5, 0), none, some (.iadd, 1, 0, 0), some (.istore_n 3, 1, 3, 0), some (.aload_n 0, 1, 0, 0), some (.invokevirtual 404, 3, 187, 0), none, none, some (.istore_n 2, 1, 2, 0), some (.iinc 5 1, 3, 5, 1), none, none, some (.goto (-60), 3, 52, 0), none, none, some (.iinc 4 1, 3, 4, 1), none, none, some (.goto (-86), 3, 32, 0), none, none, some (.iload_n 3, 1, 3, 0), some (.ifCond .lt 7, 3, 129, 0), none, none, some (.iload_n 1, 1, 1, 0), some (.ifCond .ne 7, 3, 133, 0)], [none, some (.iload_n 3, 1, 3, 0), some (.goto 4, 3, 134, 0), none, none, some (.iload_n 2, 1, 2, 0), some (.ireturn, 1, 0, 0)]]
def hm_m229 : hc_M := (⟨"HeardNextModel", "changeBest", "(I)I"⟩, prog_12_method_99_code, 6, (some (.int)), 10, 1, hm_t229)
def hm_t230 : hc_K := [[some (.aload_n 0, 1, 0, 0), some (.iload_n 1, 1, 1, 0), some (.invokevirtual 362, 3, 167, 0), none, none, some (.ifCond .ne 5, 3, 10, 0), none, none, some (.iconst (-1), 1, 4294967295, 0), some (.ireturn, 1, 0, 0), some (.iconst 0, 1, 0, 0), some (.istore_n 2, 1, 2, 0), some (.iconst 0, 1, 0, 0), some (.istore_n 3, 1, 3, 0), some (.iload_n 3, 1, 3, 0), some (.iload_n 1, 1, 1, 0), some (.if_icmp .gt 23, 3, 39, 0), none, none, some (.iload_n 2, 1, 2, 0), some (.iconst 1, 1, 1, 0), some (.aload_n 0, 1, 0, 0), some (.getfield 101, 3, 10, 45), none, none, some (.bipush 50, 2, 50, 0), none, some (.iload_n 3, 1, 3, 0), some (.iadd, 1, 0, 0), some (.iaload, 1, 0, 0), some (.isub, 1, 0, 0), some (.iadd, 1, 0, 0)], [some (.istore_n 2, 1, 2, 0), some (.iinc 3 1, 3, 3, 1), none, none, some (.goto (-22), 3, 14, 0), none, none, some (.iload_n 2, 1, 2, 0), some (.ireturn, 1, 0, 0)]]
def hm_m230 : hc_M := (⟨"HeardNextModel", "off", "(I)I"⟩, prog_12_method_100_code, 4, (some (.int)), 10, 1, hm_t230)
def hm_t231 : hc_K := [[some (.aload_n 0, 1, 0, 0), some (.iload_n 1, 1, 1, 0), some (.invokevirtual 362, 3, 167, 0), none, none, some (.ifCond .eq 20, 3, 25, 0), none, none, some (.iload_n 2, 1, 2, 0), some (.invokestatic 374, 3, 196, 2), none, none, some (.ifCond .eq 13, 3, 25, 0), none, none, some (.iload_n 3, 1, 3, 0), some (.iconst 1, 1, 1, 0), some (.bipush 20, 2, 20, 0), none, some (.invokestatic 297, 3, 164, 2), none, none, some (.ifCond .ne 5, 3, 27, 0), none, none, some (.iconst (-1), 1, 4294967295, 0), some (.ireturn, 1, 0, 0), some (.iconst 0, 1, 0, 0), some (.istore 4, 2, 4, 0), none, some (.iconst 0, 1, 0, 0), some (.istore 5, 2, 5, 0)], [none, some (.iload 5, 2, 5, 0), none, some (.iload_n 3, 1, 3, 0), some (.if_icmp .ge 40, 3, 76, 0), none, none, some (.aload_n 0, 1, 0, 0), some (.invokevirtual 307, 3, 171, 0), none, none, some (.aload_n 0, 1, 0, 0), some (.dup, 1, 0, 0), some (.getfield 301, 3, 10, 47), none, none, some (.iload 5, 2, 5, 0), none, some (.iadd, 1, 0, 0), some (.putfield 301, 3, 10, 47), none, none, some (.aload_n 0, 1, 0, 0), some (.iload_n 2, 1, 2, 0), some (.invokevirtual 377, 3, 185, 0), none, none, some (.aload_n 0, 1, 0, 0), some (.iload_n 1, 1, 1, 0), some (.invokevirtual 359, 3, 186, 0)], [some (.ifCond .eq 6, 3, 70, 0), none, none, some (.iinc 4 1, 3, 4, 1), none, none, some (.iinc 5 1, 3, 5, 1), none, none, some (.goto (-40), 3, 33, 0), none, none, some (.iload 4, 2, 4, 0), none, some (.ireturn, 1, 0, 0)]]
def hm_m231 : hc_M := (⟨"HeardNextModel", "year", "(III)I"⟩, prog_12_method_101_code, 6, (some (.int)), 10, 3, hm_t231)
def hm_t232 : hc_K := [[some (.aload_n 0, 1, 0, 0), some (.getfield 248, 3, 10, 59), none, none, some (.bipush 20, 2, 20, 0), none, some (.if_icmp .eq 18, 3, 24, 0), none, none, some (.aload_n 0, 1, 0, 0), some (.iload_n 1, 1, 1, 0), some (.invokevirtual 362, 3, 167, 0), none, none, some (.ifCond .eq 10, 3, 24, 0), none, none, some (.iload_n 2, 1, 2, 0), some (.invokestatic 365, 3, 168, 2), none, none, some (.ifCond .ne 5, 3, 26, 0), none, none, some (.iconst (-1), 1, 4294967295, 0), some (.ireturn, 1, 0, 0), some (.aload_n 0, 1, 0, 0), some (.getfield 134, 3, 10, 60), none, none, some (.aload_n 0, 1, 0, 0), some (.getfield 248, 3, 10, 59)], [none, none, some (.iload_n 1, 1, 1, 0), some (.iastore, 1, 0, 0), some (.aload_n 0, 1, 0, 0), some (.getfield 137, 3, 10, 61), none, none, some (.aload_n 0, 1, 0, 0), some (.getfield 248, 3, 10, 59), none, none, some (.iload_n 2, 1, 2, 0), some (.iastore, 1, 0, 0), some (.aload_n 0, 1, 0, 0), some (.dup, 1, 0, 0), some (.getfield 248, 3, 10, 59), none, none, some (.iconst 1, 1, 1, 0), some (.iadd, 1, 0, 0), some (.putfield 248, 3, 10, 59), none, none, some (.aload_n 0, 1, 0, 0), some (.getfield 248, 3, 10, 59), none, none, some (.iconst 1, 1, 1, 0), some (.isub, 1, 0, 0), some (.ireturn, 1, 0, 0)]]
def hm_m232 : hc_M := (⟨"HeardNextModel", "tell", "(II)I"⟩, prog_12_method_102_code, 3, (some (.int)), 10, 2, hm_t232)
def hm_t233 : hc_K := [[some (.aload_n 0, 1, 0, 0), some (.getfield 248, 3, 10, 59), none, none, some (.istore_n 1, 1, 1, 0), some (.aload_n 0, 1, 0, 0), some (.iconst 0, 1, 0, 0), some (.putfield 248, 3, 10, 59), none, none, some (.iload_n 1, 1, 1, 0), some (.ireturn, 1, 0, 0)]]
def hm_m233 : hc_M := (⟨"HeardNextModel", "forget", "()I"⟩, prog_12_method_103_code, 2, (some (.int)), 10, 0, hm_t233)
def hm_t234 : hc_K := [[some (.iconst 0, 1, 0, 0), some (.istore_n 2, 1, 2, 0), some (.iconst 0, 1, 0, 0), some (.istore_n 3, 1, 3, 0), some (.iload_n 3, 1, 3, 0), some (.sipush 256, 3, 256, 0), none, none, some (.if_icmp .ge 85, 3, 93, 0), none, none, some (.aload_n 0, 1, 0, 0), some (.getfield 119, 3, 10, 54), none, none, some (.iload_n 3, 1, 3, 0), some (.iconst 1, 1, 1, 0), some (.bastore, 1, 0, 0), some (.iconst 0, 1, 0, 0), some (.istore 4, 2, 4, 0), none, some (.iload 4, 2, 4, 0), none, some (.iload_n 1, 1, 1, 0), some (.if_icmp .ge 51, 3, 75, 0), none, none, some (.aload_n 0, 1, 0, 0), some (.getfield 119, 3, 10, 54), none, none, some (.iload_n 3, 1, 3, 0)], [some (.baload, 1, 0, 0), some (.ifCond .eq 42, 3, 75, 0), none, none, some (.aload_n 0, 1, 0, 0), some (.getfield 119, 3, 10, 54), none, none, some (.iload_n 3, 1, 3, 0), some (.aload_n 0, 1, 0, 0), some (.aload_n 0, 1, 0, 0), some (.getfield 134, 3, 10, 60), none, none, some (.iload 4, 2, 4, 0), none, some (.iaload, 1, 0, 0), some (.iload_n 3, 1, 3, 0), some (.invokevirtual 386, 3, 202, 0), none, none, some (.aload_n 0, 1, 0, 0), some (.getfield 137, 3, 10, 61), none, none, some (.iload 4, 2, 4, 0), none, some (.iaload, 1, 0, 0), some (.if_icmp .ne 7, 3, 67, 0), none, none, some (.iconst 1, 1, 1, 0)], [some (.goto 4, 3, 68, 0), none, none, some (.iconst 0, 1, 0, 0), some (.bastore, 1, 0, 0), some (.iinc 4 1, 3, 4, 1), none, none, some (.goto (-51), 3, 21, 0), none, none, some (.aload_n 0, 1, 0, 0), some (.getfield 119, 3, 10, 54), none, none, some (.iload_n 3, 1, 3, 0), some (.baload, 1, 0, 0), some (.ifCond .eq 6, 3, 87, 0), none, none, some (.iinc 2 1, 3, 2, 1), none, none, some (.iinc 3 1, 3, 3, 1), none, none, some (.goto (-86), 3, 4, 0), none, none, some (.iload_n 2, 1, 2, 0), some (.ireturn, 1, 0, 0)]]
def hm_m234 : hc_M := (⟨"HeardNextModel", "fillsSent", "(I)I"⟩, prog_12_method_104_code, 5, (some (.int)), 10, 1, hm_t234)
def hm_t235 : hc_K := [[some (.iload_n 1, 1, 1, 0), some (.iconst 0, 1, 0, 0), some (.aload_n 0, 1, 0, 0), some (.getfield 248, 3, 10, 59), none, none, some (.invokestatic 297, 3, 164, 2), none, none, some (.ifCond .eq 12, 3, 21, 0), none, none, some (.iload_n 2, 1, 2, 0), some (.iconst 0, 1, 0, 0), some (.iconst 3, 1, 3, 0), some (.invokestatic 297, 3, 164, 2), none, none, some (.ifCond .ne 5, 3, 23, 0), none, none, some (.iconst (-1), 1, 4294967295, 0), some (.ireturn, 1, 0, 0), some (.aload_n 0, 1, 0, 0), some (.invokevirtual 307, 3, 171, 0), none, none, some (.aload_n 0, 1, 0, 0), some (.iload_n 1, 1, 1, 0), some (.invokevirtual 410, 3, 234, 0)], [some (.istore_n 3, 1, 3, 0), some (.iload_n 2, 1, 2, 0), some (.ifCond .ne 5, 3, 39, 0), none, none, some (.iload_n 3, 1, 3, 0), some (.ireturn, 1, 0, 0), some (.iload_n 3, 1, 3, 0), some (.ifCond .ne 6, 3, 46, 0), none, none, some (.bipush (-2), 2, 4294967294, 0), none, some (.ireturn, 1, 0, 0), some (.iconst (-1), 1, 4294967295, 0), some (.istore 4, 2, 4, 0), none, some (.sipush 255, 3, 255, 0), none, none, some (.istore 5, 2, 5, 0), none, some (.iconst 0, 1, 0, 0), some (.istore 6, 2, 6, 0), none, some (.sipush 255, 3, 255, 0), none, none, some (.istore 7, 2, 7, 0), none, some (.iload 7, 2, 7, 0)], [some (.ifCond .lt 40, 3, 104, 0), none, none, some (.aload_n 0, 1, 0, 0), some (.getfield 119, 3, 10, 54), none, none, some (.iload 7, 2, 7, 0), none, some (.baload, 1, 0, 0), some (.ifCond .ne 6, 3, 80, 0), none, none, some (.goto 21, 3, 98, 0), none, none, some (.iload 7, 2, 7, 0), none, some (.istore 4, 2, 4, 0), none, some (.iload 5, 2, 5, 0), none, some (.iload 7, 2, 7, 0), none, some (.iand, 1, 0, 0), some (.istore 5, 2, 5, 0), none, some (.iload 6, 2, 6, 0), none, some (.iload 7, 2, 7, 0), none, some (.ior, 1, 0, 0)], [some (.istore 6, 2, 6, 0), none, some (.iinc 7 (-1), 3, 7, 4294967295), none, none, some (.goto (-39), 3, 62, 0), none, none, some (.iload_n 2, 1, 2, 0), some (.iconst 1, 1, 1, 0), some (.if_icmp .ne 8, 3, 114, 0), none, none, some (.iload 4, 2, 4, 0), none, some (.goto 21, 3, 132, 0), none, none, some (.iload_n 2, 1, 2, 0), some (.iconst 2, 1, 2, 0), some (.if_icmp .ne 8, 3, 124, 0), none, none, some (.iload 5, 2, 5, 0), none, some (.goto 11, 3, 132, 0), none, none, some (.sipush 255, 3, 255, 0), none, none, some (.iload 6, 2, 6, 0)], [none, some (.iconst (-1), 1, 4294967295, 0), some (.ixor, 1, 0, 0), some (.iand, 1, 0, 0), some (.ireturn, 1, 0, 0)]]
def hm_m235 : hc_M := (⟨"HeardNextModel", "sent", "(II)I"⟩, prog_12_method_105_code, 8, (some (.int)), 10, 2, hm_t235)
def hm_t236 : hc_K := [[some (.iconst 0, 1, 0, 0), some (.istore_n 2, 1, 2, 0), some (.iload_n 2, 1, 2, 0), some (.sipush 256, 3, 256, 0), none, none, some (.if_icmp .ge 16, 3, 22, 0), none, none, some (.aload_n 0, 1, 0, 0), some (.getfield 122, 3, 10, 55), none, none, some (.iload_n 2, 1, 2, 0), some (.iconst 0, 1, 0, 0), some (.iastore, 1, 0, 0), some (.iinc 2 1, 3, 2, 1), none, none, some (.goto (-17), 3, 2, 0), none, none, some (.iconst 0, 1, 0, 0), some (.istore_n 2, 1, 2, 0), some (.iconst 0, 1, 0, 0), some (.istore_n 3, 1, 3, 0), some (.iload_n 3, 1, 3, 0), some (.sipush 256, 3, 256, 0), none, none, some (.if_icmp .ge 59, 3, 89, 0)], [none, some (.aload_n 0, 1, 0, 0), some (.getfield 119, 3, 10, 54), none, none, some (.iload_n 3, 1, 3, 0), some (.baload, 1, 0, 0), some (.ifCond .ne 6, 3, 45, 0), none, none, some (.goto 41, 3, 83, 0), none, none, some (.aload_n 0, 1, 0, 0), some (.iload_n 1, 1, 1, 0), some (.iload_n 3, 1, 3, 0), some (.invokevirtual 386, 3, 202, 0), none, none, some (.istore 4, 2, 4, 0), none, some (.aload_n 0, 1, 0, 0), some (.getfield 122, 3, 10, 55), none, none, some (.iload 4, 2, 4, 0), none, some (.dup2, 1, 0, 0), some (.iaload, 1, 0, 0), some (.iconst 1, 1, 1, 0), some (.iadd, 1, 0, 0), some (.iastore, 1, 0, 0)], [some (.aload_n 0, 1, 0, 0), some (.getfield 122, 3, 10, 55), none, none, some (.iload 4, 2, 4, 0), none, some (.iaload, 1, 0, 0), some (.iload_n 2, 1, 2, 0), some (.if_icmp .le 11, 3, 83, 0), none, none, some (.aload_n 0, 1, 0, 0), some (.getfield 122, 3, 10, 55), none, none, some (.iload 4, 2, 4, 0), none, some (.iaload, 1, 0, 0), some (.istore_n 2, 1, 2, 0), some (.iinc 3 1, 3, 3, 1), none, none, some (.goto (-60), 3, 26, 0), none, none, some (.iload_n 2, 1, 2, 0), some (.ireturn, 1, 0, 0)]]
def hm_m236 : hc_M := (⟨"HeardNextModel", "worstAt", "(I)I"⟩, prog_12_method_106_code, 5, (some (.int)), 10, 1, hm_t236)
def hm_t237 : hc_K := [[some (.iload_n 1, 1, 1, 0), some (.iconst 0, 1, 0, 0), some (.aload_n 0, 1, 0, 0), some (.getfield 248, 3, 10, 59), none, none, some (.invokestatic 297, 3, 164, 2), none, none, some (.ifCond .ne 5, 3, 14, 0), none, none, some (.iconst (-1), 1, 4294967295, 0), some (.ireturn, 1, 0, 0), some (.aload_n 0, 1, 0, 0), some (.invokevirtual 307, 3, 171, 0), none, none, some (.aload_n 0, 1, 0, 0), some (.iload_n 1, 1, 1, 0), some (.invokevirtual 410, 3, 234, 0), none, none, some (.ifCond .ne 6, 3, 29, 0), none, none, some (.bipush (-2), 2, 4294967294, 0), none, some (.ireturn, 1, 0, 0), some (.bipush (-2), 2, 4294967294, 0), none, some (.istore_n 2, 1, 2, 0)], [some (.iconst 0, 1, 0, 0), some (.istore_n 3, 1, 3, 0), some (.iconst 0, 1, 0, 0), some (.istore 4, 2, 4, 0), none, some (.iload 4, 2, 4, 0), none, some (.aload_n 0, 1, 0, 0), some (.getfield 43, 3, 10, 22), none, none, some (.aload_n 0, 1, 0, 0), some (.getfield 227, 3, 10, 18), none, none, some (.iaload, 1, 0, 0), some (.if_icmp .ge 36, 3, 84, 0), none, none, some (.aload_n 0, 1, 0, 0), some (.iload 4, 2, 4, 0), none, some (.invokevirtual 413, 3, 236, 0), none, none, some (.istore 5, 2, 5, 0), none, some (.iload_n 2, 1, 2, 0), some (.ifCond .lt 12, 3, 72, 0), none, none, some (.iload 5, 2, 5, 0)], [none, some (.iload_n 3, 1, 3, 0), some (.if_icmp .lt 6, 3, 72, 0), none, none, some (.goto 9, 3, 78, 0), none, none, some (.iload 4, 2, 4, 0), none, some (.istore_n 2, 1, 2, 0), some (.iload 5, 2, 5, 0), none, some (.istore_n 3, 1, 3, 0), some (.iinc 4 1, 3, 4, 1), none, none, some (.goto (-44), 3, 37, 0), none, none, some (.iload_n 2, 1, 2, 0), some (.ireturn, 1, 0, 0)]]
def hm_m237 : hc_M := (⟨"HeardNextModel", "listen", "(I)I"⟩, prog_12_method_107_code, 6, (some (.int)), 10, 1, hm_t237)
def hm_t238 : hc_K := [[some (.iload_n 1, 1, 1, 0), some (.iconst 0, 1, 0, 0), some (.iconst 2, 1, 2, 0), some (.invokestatic 297, 3, 164, 2), none, none, some (.ifCond .ne 5, 3, 11, 0), none, none, some (.iconst 0, 1, 0, 0), some (.ireturn, 1, 0, 0), some (.aload_n 0, 1, 0, 0), some (.getfield 140, 3, 10, 62), none, none, some (.iload_n 1, 1, 1, 0), some (.iconst 1, 1, 1, 0), some (.bastore, 1, 0, 0), some (.iconst 0, 1, 0, 0), some (.istore_n 2, 1, 2, 0), some (.iload_n 2, 1, 2, 0), some (.bipush 73, 2, 73, 0), none, some (.if_icmp .ge 26, 3, 49, 0), none, none, some (.aload_n 0, 1, 0, 0), some (.getfield 143, 3, 10, 63), none, none, some (.bipush 73, 2, 73, 0)], [some (.iload_n 1, 1, 1, 0), some (.imul, 1, 0, 0), some (.iload_n 2, 1, 2, 0), some (.iadd, 1, 0, 0), some (.aload_n 0, 1, 0, 0), some (.getfield 101, 3, 10, 45), none, none, some (.iload_n 2, 1, 2, 0), some (.iaload, 1, 0, 0), some (.iastore, 1, 0, 0), some (.iinc 2 1, 3, 2, 1), none, none, some (.goto (-26), 3, 20, 0), none, none, some (.iconst 1, 1, 1, 0), some (.ireturn, 1, 0, 0)]]
def hm_m238 : hc_M := (⟨"HeardNextModel", "hold", "(I)Z"⟩, prog_12_method_108_code, 3, (some (.boolean)), 10, 1, hm_t238)
def hm_t239 : hc_K := [[some (.iload_n 1, 1, 1, 0), some (.iconst 0, 1, 0, 0), some (.iconst 2, 1, 2, 0), some (.invokestatic 297, 3, 164, 2), none, none, some (.ifCond .eq 12, 3, 18, 0), none, none, some (.aload_n 0, 1, 0, 0), some (.getfield 140, 3, 10, 62), none, none, some (.iload_n 1, 1, 1, 0), some (.baload, 1, 0, 0), some (.ifCond .ne 5, 3, 20, 0), none, none, some (.iconst 0, 1, 0, 0), some (.ireturn, 1, 0, 0), some (.iconst 0, 1, 0, 0), some (.istore_n 2, 1, 2, 0), some (.iload_n 2, 1, 2, 0), some (.bipush 73, 2, 73, 0), none, some (.if_icmp .ge 26, 3, 51, 0), none, none, some (.aload_n 0, 1, 0, 0), some (.getfield 101, 3, 10, 45)], [some (.iload_n 2, 1, 2, 0), some (.aload_n 0, 1, 0, 0), some (.getfield 143, 3, 10, 63), none, none, some (.bipush 73, 2, 73, 0), none, some (.iload_n 1, 1, 1, 0), some (.imul, 1, 0, 0), some (.iload_n 2, 1, 2, 0), some (.iadd, 1, 0, 0), some (.iaload, 1, 0, 0), some (.iastore, 1, 0, 0), some (.iinc 2 1, 3, 2, 1), none, none, some (.goto (-26), 3, 22, 0), none, none, some (.aload_n 0, 1, 0, 0), some (.iconst 0, 1, 0, 0), some (.putfield 245, 3, 10, 51), none, none, some (.iconst 1, 1, 1, 0), some (.ireturn, 1, 0, 0)]]
def hm_m239 : hc_M := (⟨"HeardNextModel", "restore", "(I)Z"⟩, prog_12_method_109_code, 3, (some (.boolean)), 10, 1, hm_t239)
def hm_t240 : hc_K := [[some (.iconst 0, 1, 0, 0), some (.istore_n 3, 1, 3, 0), some (.iconst 0, 1, 0, 0), some (.istore 4, 2, 4, 0), none, some (.iload 4, 2, 4, 0), none, some (.aload_n 0, 1, 0, 0), some (.getfield 43, 3, 10, 22), none, none, some (.aload_n 0, 1, 0, 0), some (.getfield 227, 3, 10, 18), none, none, some (.iaload, 1, 0, 0), some (.if_icmp .ge 71, 3, 87, 0), none, none, some (.iload_n 3, 1, 3, 0), some (.iload_n 2, 1, 2, 0), some (.ifCond .ne 18, 3, 39, 0), none, none, some (.aload_n 0, 1, 0, 0), some (.getfield 104, 3, 10, 46), none, none, some (.iload_n 1, 1, 1, 0), some (.iload 4, 2, 4, 0), none, some (.iadd, 1, 0, 0)], [some (.iaload, 1, 0, 0), some (.iload 4, 2, 4, 0), none, some (.ishl, 1, 0, 0), some (.goto 43, 3, 79, 0), none, none, some (.iload_n 2, 1, 2, 0), some (.iconst 1, 1, 1, 0), some (.if_icmp .ne 26, 3, 67, 0), none, none, some (.aload_n 0, 1, 0, 0), some (.getfield 104, 3, 10, 46), none, none, some (.iload_n 1, 1, 1, 0), some (.iload 4, 2, 4, 0), none, some (.iadd, 1, 0, 0), some (.iaload, 1, 0, 0), some (.ifCond .eq 10, 3, 63, 0), none, none, some (.iconst 1, 1, 1, 0), some (.iload 4, 2, 4, 0), none, some (.ishl, 1, 0, 0), some (.goto 19, 3, 79, 0), none, none, some (.iconst 0, 1, 0, 0)], [some (.goto 15, 3, 79, 0), none, none, some (.aload_n 0, 1, 0, 0), some (.getfield 104, 3, 10, 46), none, none, some (.iload_n 1, 1, 1, 0), some (.iload 4, 2, 4, 0), none, some (.iadd, 1, 0, 0), some (.iaload, 1, 0, 0), some (.invokestatic 314, 3, 166, 2), none, none, some (.iadd, 1, 0, 0), some (.istore_n 3, 1, 3, 0), some (.iinc 4 1, 3, 4, 1), none, none, some (.goto (-79), 3, 5, 0), none, none, some (.iload_n 3, 1, 3, 0), some (.ireturn, 1, 0, 0)]]
def hm_m240 : hc_M := (⟨"HeardNextModel", "bitsOf", "(II)I"⟩, prog_12_method_110_code, 5, (some (.int)), 10, 2, hm_t240)
def hm_t241 : hc_K := [[some (.aload_n 0, 1, 0, 0), some (.invokevirtual 307, 3, 171, 0), none, none, some (.iconst 0, 1, 0, 0), some (.istore_n 2, 1, 2, 0), some (.iload_n 1, 1, 1, 0), some (.tableswitch 350 0 17 #[85, 95, 105, 113, 124, 129, 137, 142, 179, 187, 192, 197, 202, 247, 255, 263, 300, 308], 85, 0, 0)], [], [none, none, none, none, none, none, none, none, none, none, none, none, none, none, none, none, none, none, none, none, none, none, none, none, none, none, none, none, some (.aload_n 0, 1, 0, 0), some (.getfield 43, 3, 10, 22)], [some (.aload_n 0, 1, 0, 0), some (.getfield 227, 3, 10, 18), none, none, some (.iaload, 1, 0, 0), some (.ireturn, 1, 0, 0), some (.aload_n 0, 1, 0, 0), some (.getfield 52, 3, 10, 25), none, none, some (.aload_n 0, 1, 0, 0), some (.getfield 227, 3, 10, 18), none, none, some (.iaload, 1, 0, 0), some (.ireturn, 1, 0, 0), some (.aload_n 0, 1, 0, 0), some (.getfield 104, 3, 10, 46), none, none, some (.bipush 70, 2, 70, 0), none, some (.iaload, 1, 0, 0), some (.ireturn, 1, 0, 0), some (.aload_n 0, 1, 0, 0), some (.getfield 104, 3, 10, 46), none, none, some (.bipush 70, 2, 70, 0), none, some (.iaload, 1, 0, 0), some (.bipush 24, 2, 24, 0)], [none, some (.irem, 1, 0, 0), some (.ireturn, 1, 0, 0), some (.aload_n 0, 1, 0, 0), some (.invokevirtual 343, 3, 183, 0), none, none, some (.ireturn, 1, 0, 0), some (.aload_n 0, 1, 0, 0), some (.bipush 50, 2, 50, 0), none, some (.iconst 0, 1, 0, 0), some (.invokevirtual 416, 3, 240, 0), none, none, some (.ireturn, 1, 0, 0), some (.aload_n 0, 1, 0, 0), some (.invokevirtual 407, 3, 225, 0), none, none, some (.ireturn, 1, 0, 0), some (.iconst 0, 1, 0, 0), some (.istore_n 3, 1, 3, 0), some (.iload_n 3, 1, 3, 0), some (.aload_n 0, 1, 0, 0), some (.getfield 43, 3, 10, 22), none, none, some (.aload_n 0, 1, 0, 0), some (.getfield 227, 3, 10, 18)], [some (.iaload, 1, 0, 0), some (.if_icmp .ge 23, 3, 184, 0), none, none, some (.aload_n 0, 1, 0, 0), some (.iload_n 3, 1, 3, 0), some (.invokevirtual 359, 3, 186, 0), none, none, some (.ifCond .eq 9, 3, 178, 0), none, none, some (.iload_n 2, 1, 2, 0), some (.iconst 1, 1, 1, 0), some (.iload_n 3, 1, 3, 0), some (.ishl, 1, 0, 0), some (.ior, 1, 0, 0), some (.istore_n 2, 1, 2, 0), some (.iinc 3 1, 3, 3, 1), none, none, some (.goto (-30), 3, 151, 0), none, none, some (.iload_n 2, 1, 2, 0), some (.ireturn, 1, 0, 0), some (.aload_n 0, 1, 0, 0), some (.bipush 30, 2, 30, 0), none, some (.iconst 1, 1, 1, 0), some (.invokevirtual 416, 3, 240, 0)], [none, some (.ireturn, 1, 0, 0), some (.aload_n 0, 1, 0, 0), some (.getfield 160, 3, 10, 2), none, none, some (.ireturn, 1, 0, 0), some (.aload_n 0, 1, 0, 0), some (.getfield 245, 3, 10, 51), none, none, some (.ireturn, 1, 0, 0), some (.aload_n 0, 1, 0, 0), some (.getfield 248, 3, 10, 59), none, none, some (.ireturn, 1, 0, 0), some (.aload_n 0, 1, 0, 0), some (.getfield 140, 3, 10, 62), none, none, some (.iconst 0, 1, 0, 0), some (.baload, 1, 0, 0), some (.ifCond .eq 7, 3, 222, 0), none, none, some (.iconst 1, 1, 1, 0), some (.goto 4, 3, 223, 0), none, none, some (.iconst 0, 1, 0, 0), some (.aload_n 0, 1, 0, 0)], [some (.getfield 140, 3, 10, 62), none, none, some (.iconst 1, 1, 1, 0), some (.baload, 1, 0, 0), some (.ifCond .eq 7, 3, 236, 0), none, none, some (.iconst 1, 1, 1, 0), some (.goto 4, 3, 237, 0), none, none, some (.iconst 0, 1, 0, 0), some (.iadd, 1, 0, 0), some (.aload_n 0, 1, 0, 0), some (.getfield 140, 3, 10, 62), none, none, some (.iconst 2, 1, 2, 0), some (.baload, 1, 0, 0), some (.ifCond .eq 7, 3, 251, 0), none, none, some (.iconst 1, 1, 1, 0), some (.goto 4, 3, 252, 0), none, none, some (.iconst 0, 1, 0, 0), some (.iadd, 1, 0, 0), some (.ireturn, 1, 0, 0), some (.aload_n 0, 1, 0, 0), some (.getfield 104, 3, 10, 46)], [none, none, some (.bipush 72, 2, 72, 0), none, some (.iaload, 1, 0, 0), some (.ireturn, 1, 0, 0), some (.aload_n 0, 1, 0, 0), some (.bipush 40, 2, 40, 0), none, some (.iconst 2, 1, 2, 0), some (.invokevirtual 416, 3, 240, 0), none, none, some (.ireturn, 1, 0, 0), some (.iconst 0, 1, 0, 0), some (.istore_n 3, 1, 3, 0), some (.iload_n 3, 1, 3, 0), some (.aload_n 0, 1, 0, 0), some (.getfield 43, 3, 10, 22), none, none, some (.aload_n 0, 1, 0, 0), some (.getfield 227, 3, 10, 18), none, none, some (.iaload, 1, 0, 0), some (.if_icmp .ge 23, 3, 305, 0), none, none, some (.aload_n 0, 1, 0, 0), some (.iload_n 3, 1, 3, 0), some (.invokevirtual 340, 3, 182, 0)], [none, none, some (.ifCond .eq 9, 3, 299, 0), none, none, some (.iload_n 2, 1, 2, 0), some (.iconst 1, 1, 1, 0), some (.iload_n 3, 1, 3, 0), some (.ishl, 1, 0, 0), some (.ior, 1, 0, 0), some (.istore_n 2, 1, 2, 0), some (.iinc 3 1, 3, 3, 1), none, none, some (.goto (-30), 3, 272, 0), none, none, some (.iload_n 2, 1, 2, 0), some (.ireturn, 1, 0, 0), some (.aload_n 0, 1, 0, 0), some (.bipush 30, 2, 30, 0), none, some (.iconst 2, 1, 2, 0), some (.invokevirtual 416, 3, 240, 0), none, none, some (.ireturn, 1, 0, 0), some (.iconst 0, 1, 0, 0), some (.istore_n 3, 1, 3, 0), some (.iload_n 3, 1, 3, 0), some (.aload_n 0, 1, 0, 0), some (.getfield 43, 3, 10, 22)], [none, none, some (.aload_n 0, 1, 0, 0), some (.getfield 227, 3, 10, 18), none, none, some (.iaload, 1, 0, 0), some (.if_icmp .ge 28, 3, 355, 0), none, none, some (.aload_n 0, 1, 0, 0), some (.getfield 104, 3, 10, 46), none, none, some (.bipush 20, 2, 20, 0), none, some (.iload_n 3, 1, 3, 0), some (.iadd, 1, 0, 0), some (.iaload, 1, 0, 0), some (.iload_n 3, 1, 3, 0), some (.if_icmp .eq 9, 3, 349, 0), none, none, some (.iload_n 2, 1, 2, 0), some (.iconst 1, 1, 1, 0), some (.iload_n 3, 1, 3, 0), some (.ishl, 1, 0, 0), some (.ior, 1, 0, 0), some (.istore_n 2, 1, 2, 0), some (.iinc 3 1, 3, 3, 1)], [some (.goto (-35), 3, 317, 0), none, none, some (.iload_n 2, 1, 2, 0), some (.ireturn, 1, 0, 0), some (.iconst (-1), 1, 4294967295, 0), some (.ireturn, 1, 0, 0)]]
def hm_m241 : hc_M := (⟨"HeardNextModel", "count", "(I)I"⟩, prog_12_method_111_code, 4, (some (.int)), 10, 1, hm_t241)
def hm_t242 : hc_K := [[some (.iload_n 0, 1, 0, 0), some (.iload_n 0, 1, 0, 0), some (.iconst 1, 1, 1, 0), some (.iushr, 1, 0, 0), some (.ldc_w 265, 3, 1431655765, 0), none, none, some (.iand, 1, 0, 0), some (.isub, 1, 0, 0), some (.istore_n 0, 1, 0, 0), some (.iload_n 0, 1, 0, 0), some (.ldc_w 266, 3, 858993459, 0), none, none, some (.iand, 1, 0, 0), some (.iload_n 0, 1, 0, 0), some (.iconst 2, 1, 2, 0), some (.iushr, 1, 0, 0), some (.ldc_w 266, 3, 858993459, 0), none, none, some (.iand, 1, 0, 0), some (.iadd, 1, 0, 0), some (.istore_n 0, 1, 0, 0), some (.iload_n 0, 1, 0, 0), some (.iload_n 0, 1, 0, 0), some (.iconst 4, 1, 4, 0), some (.iushr, 1, 0, 0), some (.iadd, 1, 0, 0), some (.ldc_w 267, 3, 252645135, 0)], [some (.iand, 1, 0, 0), some (.istore_n 0, 1, 0, 0), some (.iload_n 0, 1, 0, 0), some (.iload_n 0, 1, 0, 0), some (.bipush 8, 2, 8, 0), none, some (.iushr, 1, 0, 0), some (.iadd, 1, 0, 0), some (.istore_n 0, 1, 0, 0), some (.iload_n 0, 1, 0, 0), some (.iload_n 0, 1, 0, 0), some (.bipush 16, 2, 16, 0), none, some (.iushr, 1, 0, 0), some (.iadd, 1, 0, 0), some (.istore_n 0, 1, 0, 0), some (.iload_n 0, 1, 0, 0), some (.bipush 63, 2, 63, 0), none, some (.iand, 1, 0, 0), some (.ireturn, 1, 0, 0)]]
def hm_m242 : hc_M := (⟨"java/lang/Integer", "bitCount", "(I)I"⟩, prog_14_method_49_code, 1, (some (.int)), 12, 1, hm_t242)
def hm_t243 : hc_K := [[some (.iload_n 0, 1, 0, 0), some (.iload_n 1, 1, 1, 0), some (.irem, 1, 0, 0), some (.istore_n 2, 1, 2, 0), some (.iload_n 0, 1, 0, 0), some (.iload_n 1, 1, 1, 0), some (.ixor, 1, 0, 0), some (.ifCond .ge 11, 3, 18, 0), none, none, some (.iload_n 2, 1, 2, 0), some (.ifCond .eq 7, 3, 18, 0), none, none, some (.iload_n 2, 1, 2, 0), some (.iload_n 1, 1, 1, 0), some (.iadd, 1, 0, 0), some (.ireturn, 1, 0, 0), some (.iload_n 2, 1, 2, 0), some (.ireturn, 1, 0, 0)]]
def hm_m243 : hc_M := (⟨"java/lang/Math", "floorMod", "(II)I"⟩, prog_15_method_50_code, 3, (some (.int)), 14, 2, hm_t243)
def hm_t244 : hc_K := [[some (.iload_n 0, 1, 0, 0), some (.iload_n 1, 1, 1, 0), some (.if_icmp .lt 7, 3, 9, 0), none, none, some (.iload_n 0, 1, 0, 0), some (.goto 4, 3, 10, 0), none, none, some (.iload_n 1, 1, 1, 0), some (.ireturn, 1, 0, 0)]]
def hm_m244 : hc_M := (⟨"java/lang/Math", "max", "(II)I"⟩, prog_15_method_65_code, 2, (some (.int)), 14, 2, hm_t244)
def hm_t245 : hc_K := [[some (.iload_n 0, 1, 0, 0), some (.iload_n 1, 1, 1, 0), some (.if_icmp .gt 7, 3, 9, 0), none, none, some (.iload_n 0, 1, 0, 0), some (.goto 4, 3, 10, 0), none, none, some (.iload_n 1, 1, 1, 0), some (.ireturn, 1, 0, 0)]]
def hm_m245 : hc_M := (⟨"java/lang/Math", "min", "(II)I"⟩, prog_15_method_69_code, 2, (some (.int)), 14, 2, hm_t245)
def hm_t246 : hc_K := [[some (.iconst 0, 1, 0, 0), some (.istore_n 2, 1, 2, 0), some (.aload_n 0, 1, 0, 0), some (.arraylength, 1, 0, 0), some (.istore_n 3, 1, 3, 0), some (.iload_n 2, 1, 2, 0), some (.iload_n 3, 1, 3, 0), some (.if_icmp .ge 13, 3, 20, 0), none, none, some (.aload_n 0, 1, 0, 0), some (.iload_n 2, 1, 2, 0), some (.iload_n 1, 1, 1, 0), some (.iastore, 1, 0, 0), some (.iinc 2 1, 3, 2, 1), none, none, some (.goto (-12), 3, 5, 0), none, none, some (.return_, 1, 0, 0)]]
def hm_m246 : hc_M := (⟨"java/util/Arrays", "fill", "([II)V"⟩, prog_20_method_103_code, 4, none, 13, 2, hm_t246)
def hm_c0 : List (Option hc_M) := [some hm_m0, some hm_m1, some hm_m2, some hm_m3, some hm_m4, some hm_m5, some hm_m6, some hm_m7, some hm_m8, some hm_m9, some hm_m10, some hm_m11, some hm_m12, some hm_m13, some hm_m14, some hm_m15, some hm_m16, some hm_m17, some hm_m18, some hm_m19, some hm_m20, some hm_m21, some hm_m22, some hm_m23, some hm_m24, some hm_m25, some hm_m26, some hm_m27, some hm_m28, some hm_m29, some hm_m30, some hm_m31]
def hm_c1 : List (Option hc_M) := [some hm_m32, some hm_m33, some hm_m34, some hm_m35, some hm_m36, some hm_m37, some hm_m38, some hm_m39, some hm_m40, some hm_m41, some hm_m42, some hm_m43, some hm_m44, some hm_m45, some hm_m46, some hm_m47, some hm_m48, some hm_m49, some hm_m50, some hm_m51, some hm_m52, some hm_m53, some hm_m54, some hm_m55, some hm_m56, some hm_m57, some hm_m58, some hm_m59, some hm_m60, some hm_m61, some hm_m62, some hm_m63]
def hm_c2 : List (Option hc_M) := [some hm_m64, some hm_m65, some hm_m66, some hm_m67, some hm_m68, some hm_m69, some hm_m70, some hm_m71, some hm_m72, some hm_m73, some hm_m74, some hm_m75, some hm_m76, some hm_m77, some hm_m78, some hm_m79, some hm_m80, some hm_m81, some hm_m82, some hm_m83, some hm_m84, some hm_m85, some hm_m86, some hm_m87, some hm_m88, some hm_m89, some hm_m90, some hm_m91, some hm_m92, some hm_m93, some hm_m94, some hm_m95]
def hm_c3 : List (Option hc_M) := [some hm_m96, some hm_m97, some hm_m98, some hm_m99, some hm_m100, some hm_m101, some hm_m102, some hm_m103, some hm_m104, some hm_m105, some hm_m106, some hm_m107, some hm_m108, some hm_m109, some hm_m110, some hm_m111, some hm_m112, some hm_m113, some hm_m114, some hm_m115, some hm_m116, some hm_m117, some hm_m118, some hm_m119, some hm_m120, some hm_m121, some hm_m122, some hm_m123, some hm_m124, some hm_m125, some hm_m126, some hm_m127]
def hm_c4 : List (Option hc_M) := [some hm_m128, some hm_m129, some hm_m130, some hm_m131, some hm_m132, some hm_m133, some hm_m134, some hm_m135, some hm_m136, some hm_m137, some hm_m138, some hm_m139, some hm_m140, some hm_m141, some hm_m142, some hm_m143, some hm_m144, some hm_m145, some hm_m146, some hm_m147, some hm_m148, some hm_m149, some hm_m150, some hm_m151, some hm_m152, some hm_m153, some hm_m154, some hm_m155, some hm_m156, some hm_m157, some hm_m158, some hm_m159]
def hm_c5 : List (Option hc_M) := [some hm_m160, some hm_m161, some hm_m162, some hm_m163, some hm_m164, some hm_m165, some hm_m166, some hm_m167, some hm_m168, some hm_m169, some hm_m170, some hm_m171, some hm_m172, some hm_m173, some hm_m174, some hm_m175, some hm_m176, some hm_m177, some hm_m178, some hm_m179, some hm_m180, some hm_m181, some hm_m182, some hm_m183, some hm_m184, some hm_m185, some hm_m186, some hm_m187, some hm_m188, some hm_m189, some hm_m190, some hm_m191]
def hm_c6 : List (Option hc_M) := [some hm_m192, some hm_m193, some hm_m194, some hm_m195, some hm_m196, some hm_m197, some hm_m198, some hm_m199, some hm_m200, some hm_m201, some hm_m202, some hm_m203, some hm_m204, some hm_m205, some hm_m206, some hm_m207, some hm_m208, some hm_m209, some hm_m210, some hm_m211, some hm_m212, some hm_m213, some hm_m214, some hm_m215, some hm_m216, some hm_m217, some hm_m218, some hm_m219, some hm_m220, some hm_m221, some hm_m222, some hm_m223]
def hm_c7 : List (Option hc_M) := [some hm_m224, some hm_m225, some hm_m226, some hm_m227, some hm_m228, some hm_m229, some hm_m230, some hm_m231, some hm_m232, some hm_m233, some hm_m234, some hm_m235, some hm_m236, some hm_m237, some hm_m238, some hm_m239, some hm_m240, some hm_m241, some hm_m242, some hm_m243, some hm_m244, some hm_m245, some hm_m246]
def hm_pg : List (List (Option hc_M)) := [hm_c0, hm_c1, hm_c2, hm_c3, hm_c4, hm_c5, hm_c6, hm_c7]
def hm_w0 : List (Option hc_I) := [some (.new 7, 3, 9, 0), none, none, some (.dup, 1, 0, 0), some (.invokespecial 9, 3, 69, 0), none, none, some (.astore_n 1, 1, 1, 0), some (.new 10, 3, 10, 0), none, none, some (.dup, 1, 0, 0), some (.invokespecial 12, 3, 132, 0), none, none, some (.astore_n 2, 1, 2, 0), some (.iconst 0, 1, 0, 0), some (.istore_n 3, 1, 3, 0), some (.iload_n 3, 1, 3, 0), some (.aload_n 0, 1, 0, 0), some (.arraylength, 1, 0, 0), some (.bipush 6, 2, 6, 0), none, some (.isub, 1, 0, 0), some (.if_icmp .gt 1454, 3, 1478, 0), none, none, some (.aload_n 0, 1, 0, 0), some (.iload_n 3, 1, 3, 0), some (.iaload, 1, 0, 0), some (.bipush 63, 2, 63, 0)]
def hm_w1 : List (Option hc_I) := [some (.iand, 1, 0, 0), some (.tableswitch 1439 0 43 #[191, 254, 277, 290, 303, 336, 369, 418, 441, 474, 507, 530, 543, 576, 599, 622, 645, 688, 711, 754, 787, 820, 843, 876, 909, 932, 965, 988, 1011, 1034, 1077, 1110, 1133, 1156, 1179, 1202, 1225, 1268, 1301, 1314, 1347, 1370, 1393, 1416], 191, 0, 0)]
def hm_w2 : List (Option hc_I) := []
def hm_w3 : List (Option hc_I) := []
def hm_w4 : List (Option hc_I) := []
def hm_w5 : List (Option hc_I) := []
def hm_w6 : List (Option hc_I) := []
def hm_w7 : List (Option hc_I) := [some (.aload_n 1, 1, 1, 0), some (.aload_n 0, 1, 0, 0), some (.iload_n 3, 1, 3, 0), some (.iconst 1, 1, 1, 0), some (.iadd, 1, 0, 0), some (.iaload, 1, 0, 0), some (.aload_n 0, 1, 0, 0), some (.iload_n 3, 1, 3, 0), some (.iconst 2, 1, 2, 0), some (.iadd, 1, 0, 0), some (.iaload, 1, 0, 0), some (.aload_n 0, 1, 0, 0), some (.iload_n 3, 1, 3, 0), some (.iconst 3, 1, 3, 0), some (.iadd, 1, 0, 0), some (.iaload, 1, 0, 0), some (.aload_n 0, 1, 0, 0), some (.iload_n 3, 1, 3, 0), some (.iconst 4, 1, 4, 0), some (.iadd, 1, 0, 0), some (.iaload, 1, 0, 0), some (.aload_n 0, 1, 0, 0), some (.iload_n 3, 1, 3, 0), some (.iconst 5, 1, 5, 0), some (.iadd, 1, 0, 0), some (.iaload, 1, 0, 0), some (.invokevirtual 13, 3, 70, 0), none, none, some (.pop, 1, 0, 0), some (.aload_n 2, 1, 2, 0), some (.aload_n 0, 1, 0, 0)]
def hm_w8 : List (Option hc_I) := [some (.iload_n 3, 1, 3, 0), some (.iconst 1, 1, 1, 0), some (.iadd, 1, 0, 0), some (.iaload, 1, 0, 0), some (.aload_n 0, 1, 0, 0), some (.iload_n 3, 1, 3, 0), some (.iconst 2, 1, 2, 0), some (.iadd, 1, 0, 0), some (.iaload, 1, 0, 0), some (.aload_n 0, 1, 0, 0), some (.iload_n 3, 1, 3, 0), some (.iconst 3, 1, 3, 0), some (.iadd, 1, 0, 0), some (.iaload, 1, 0, 0), some (.aload_n 0, 1, 0, 0), some (.iload_n 3, 1, 3, 0), some (.iconst 4, 1, 4, 0), some (.iadd, 1, 0, 0), some (.iaload, 1, 0, 0), some (.aload_n 0, 1, 0, 0), some (.iload_n 3, 1, 3, 0), some (.iconst 5, 1, 5, 0), some (.iadd, 1, 0, 0), some (.iaload, 1, 0, 0), some (.invokevirtual 17, 3, 133, 0), none, none, some (.pop, 1, 0, 0), some (.goto 1188, 3, 1472, 0), none, none, some (.aload_n 1, 1, 1, 0)]
def hm_w9 : List (Option hc_I) := [some (.aload_n 0, 1, 0, 0), some (.iload_n 3, 1, 3, 0), some (.iconst 1, 1, 1, 0), some (.iadd, 1, 0, 0), some (.iaload, 1, 0, 0), some (.invokevirtual 18, 3, 72, 0), none, none, some (.aload_n 2, 1, 2, 0), some (.aload_n 0, 1, 0, 0), some (.iload_n 3, 1, 3, 0), some (.iconst 1, 1, 1, 0), some (.iadd, 1, 0, 0), some (.iaload, 1, 0, 0), some (.invokevirtual 22, 3, 135, 0), none, none, some (.if_icmp .eq 1167, 3, 1472, 0), none, none, some (.iconst 0, 1, 0, 0), some (.ireturn, 1, 0, 0), some (.aload_n 1, 1, 1, 0), some (.invokevirtual 23, 3, 73, 0), none, none, some (.pop, 1, 0, 0), some (.aload_n 2, 1, 2, 0), some (.invokevirtual 27, 3, 150, 0), none, none, some (.pop, 1, 0, 0)]
def hm_w10 : List (Option hc_I) := [some (.goto 1152, 3, 1472, 0), none, none, some (.aload_n 1, 1, 1, 0), some (.invokevirtual 28, 3, 75, 0), none, none, some (.pop, 1, 0, 0), some (.aload_n 2, 1, 2, 0), some (.invokevirtual 31, 3, 151, 0), none, none, some (.pop, 1, 0, 0), some (.goto 1139, 3, 1472, 0), none, none, some (.aload_n 1, 1, 1, 0), some (.aload_n 0, 1, 0, 0), some (.iload_n 3, 1, 3, 0), some (.iconst 1, 1, 1, 0), some (.iadd, 1, 0, 0), some (.iaload, 1, 0, 0), some (.aload_n 0, 1, 0, 0), some (.iload_n 3, 1, 3, 0), some (.iconst 2, 1, 2, 0), some (.iadd, 1, 0, 0), some (.iaload, 1, 0, 0), some (.invokevirtual 32, 3, 79, 0), none, none, some (.pop, 1, 0, 0), some (.aload_n 2, 1, 2, 0)]
def hm_w11 : List (Option hc_I) := [some (.aload_n 0, 1, 0, 0), some (.iload_n 3, 1, 3, 0), some (.iconst 1, 1, 1, 0), some (.iadd, 1, 0, 0), some (.iaload, 1, 0, 0), some (.aload_n 0, 1, 0, 0), some (.iload_n 3, 1, 3, 0), some (.iconst 2, 1, 2, 0), some (.iadd, 1, 0, 0), some (.iaload, 1, 0, 0), some (.invokevirtual 36, 3, 188, 0), none, none, some (.pop, 1, 0, 0), some (.goto 1106, 3, 1472, 0), none, none, some (.aload_n 1, 1, 1, 0), some (.aload_n 0, 1, 0, 0), some (.iload_n 3, 1, 3, 0), some (.iconst 1, 1, 1, 0), some (.iadd, 1, 0, 0), some (.iaload, 1, 0, 0), some (.aload_n 0, 1, 0, 0), some (.iload_n 3, 1, 3, 0), some (.iconst 2, 1, 2, 0), some (.iadd, 1, 0, 0), some (.iaload, 1, 0, 0), some (.invokevirtual 37, 3, 81, 0), none, none, some (.pop, 1, 0, 0)]
def hm_w12 : List (Option hc_I) := [some (.aload_n 2, 1, 2, 0), some (.aload_n 0, 1, 0, 0), some (.iload_n 3, 1, 3, 0), some (.iconst 1, 1, 1, 0), some (.iadd, 1, 0, 0), some (.iaload, 1, 0, 0), some (.aload_n 0, 1, 0, 0), some (.iload_n 3, 1, 3, 0), some (.iconst 2, 1, 2, 0), some (.iadd, 1, 0, 0), some (.iaload, 1, 0, 0), some (.invokevirtual 40, 3, 189, 0), none, none, some (.pop, 1, 0, 0), some (.goto 1073, 3, 1472, 0), none, none, some (.aload_n 1, 1, 1, 0), some (.aload_n 0, 1, 0, 0), some (.iload_n 3, 1, 3, 0), some (.iconst 1, 1, 1, 0), some (.iadd, 1, 0, 0), some (.iaload, 1, 0, 0), some (.aload_n 0, 1, 0, 0), some (.iload_n 3, 1, 3, 0), some (.iconst 2, 1, 2, 0), some (.iadd, 1, 0, 0), some (.iaload, 1, 0, 0), some (.ifCond .eq 7, 3, 420, 0)]
def hm_w13 : List (Option hc_I) := [some (.iconst 1, 1, 1, 0), some (.goto 4, 3, 421, 0), none, none, some (.iconst 0, 1, 0, 0), some (.invokevirtual 41, 3, 83, 0), none, none, some (.pop, 1, 0, 0), some (.aload_n 2, 1, 2, 0), some (.aload_n 0, 1, 0, 0), some (.iload_n 3, 1, 3, 0), some (.iconst 1, 1, 1, 0), some (.iadd, 1, 0, 0), some (.iaload, 1, 0, 0), some (.aload_n 0, 1, 0, 0), some (.iload_n 3, 1, 3, 0), some (.iconst 2, 1, 2, 0), some (.iadd, 1, 0, 0), some (.iaload, 1, 0, 0), some (.ifCond .eq 7, 3, 443, 0), none, none, some (.iconst 1, 1, 1, 0), some (.goto 4, 3, 444, 0), none, none, some (.iconst 0, 1, 0, 0), some (.invokevirtual 45, 3, 191, 0), none, none, some (.pop, 1, 0, 0)]
def hm_w14 : List (Option hc_I) := [some (.goto 1024, 3, 1472, 0), none, none, some (.aload_n 1, 1, 1, 0), some (.aload_n 0, 1, 0, 0), some (.iload_n 3, 1, 3, 0), some (.iconst 1, 1, 1, 0), some (.iadd, 1, 0, 0), some (.iaload, 1, 0, 0), some (.invokevirtual 46, 3, 84, 0), none, none, some (.pop, 1, 0, 0), some (.aload_n 2, 1, 2, 0), some (.aload_n 0, 1, 0, 0), some (.iload_n 3, 1, 3, 0), some (.iconst 1, 1, 1, 0), some (.iadd, 1, 0, 0), some (.iaload, 1, 0, 0), some (.invokevirtual 50, 3, 192, 0), none, none, some (.pop, 1, 0, 0), some (.goto 1001, 3, 1472, 0), none, none, some (.aload_n 1, 1, 1, 0), some (.aload_n 0, 1, 0, 0), some (.iload_n 3, 1, 3, 0), some (.iconst 1, 1, 1, 0), some (.iadd, 1, 0, 0), some (.iaload, 1, 0, 0)]
def hm_w15 : List (Option hc_I) := [some (.aload_n 0, 1, 0, 0), some (.iload_n 3, 1, 3, 0), some (.iconst 2, 1, 2, 0), some (.iadd, 1, 0, 0), some (.iaload, 1, 0, 0), some (.invokevirtual 51, 3, 85, 0), none, none, some (.pop, 1, 0, 0), some (.aload_n 2, 1, 2, 0), some (.aload_n 0, 1, 0, 0), some (.iload_n 3, 1, 3, 0), some (.iconst 1, 1, 1, 0), some (.iadd, 1, 0, 0), some (.iaload, 1, 0, 0), some (.aload_n 0, 1, 0, 0), some (.iload_n 3, 1, 3, 0), some (.iconst 2, 1, 2, 0), some (.iadd, 1, 0, 0), some (.iaload, 1, 0, 0), some (.invokevirtual 54, 3, 193, 0), none, none, some (.pop, 1, 0, 0), some (.goto 968, 3, 1472, 0), none, none, some (.aload_n 1, 1, 1, 0), some (.aload_n 0, 1, 0, 0), some (.iload_n 3, 1, 3, 0), some (.iconst 1, 1, 1, 0), some (.iadd, 1, 0, 0)]
def hm_w16 : List (Option hc_I) := [some (.iaload, 1, 0, 0), some (.aload_n 0, 1, 0, 0), some (.iload_n 3, 1, 3, 0), some (.iconst 2, 1, 2, 0), some (.iadd, 1, 0, 0), some (.iaload, 1, 0, 0), some (.invokevirtual 55, 3, 86, 0), none, none, some (.pop, 1, 0, 0), some (.aload_n 2, 1, 2, 0), some (.aload_n 0, 1, 0, 0), some (.iload_n 3, 1, 3, 0), some (.iconst 1, 1, 1, 0), some (.iadd, 1, 0, 0), some (.iaload, 1, 0, 0), some (.aload_n 0, 1, 0, 0), some (.iload_n 3, 1, 3, 0), some (.iconst 2, 1, 2, 0), some (.iadd, 1, 0, 0), some (.iaload, 1, 0, 0), some (.invokevirtual 59, 3, 195, 0), none, none, some (.pop, 1, 0, 0), some (.goto 935, 3, 1472, 0), none, none, some (.aload_n 1, 1, 1, 0), some (.aload_n 0, 1, 0, 0), some (.iload_n 3, 1, 3, 0), some (.iconst 1, 1, 1, 0)]
def hm_w17 : List (Option hc_I) := [some (.iadd, 1, 0, 0), some (.iaload, 1, 0, 0), some (.invokevirtual 60, 3, 87, 0), none, none, some (.pop, 1, 0, 0), some (.aload_n 2, 1, 2, 0), some (.aload_n 0, 1, 0, 0), some (.iload_n 3, 1, 3, 0), some (.iconst 1, 1, 1, 0), some (.iadd, 1, 0, 0), some (.iaload, 1, 0, 0), some (.invokevirtual 63, 3, 198, 0), none, none, some (.pop, 1, 0, 0), some (.goto 912, 3, 1472, 0), none, none, some (.aload_n 1, 1, 1, 0), some (.invokevirtual 64, 3, 88, 0), none, none, some (.pop, 1, 0, 0), some (.aload_n 2, 1, 2, 0), some (.invokevirtual 68, 3, 199, 0), none, none, some (.pop, 1, 0, 0), some (.goto 899, 3, 1472, 0)]
def hm_w18 : List (Option hc_I) := [some (.aload_n 1, 1, 1, 0), some (.aload_n 0, 1, 0, 0), some (.iload_n 3, 1, 3, 0), some (.iconst 1, 1, 1, 0), some (.iadd, 1, 0, 0), some (.iaload, 1, 0, 0), some (.aload_n 0, 1, 0, 0), some (.iload_n 3, 1, 3, 0), some (.iconst 2, 1, 2, 0), some (.iadd, 1, 0, 0), some (.iaload, 1, 0, 0), some (.invokevirtual 69, 3, 91, 0), none, none, some (.pop, 1, 0, 0), some (.aload_n 2, 1, 2, 0), some (.aload_n 0, 1, 0, 0), some (.iload_n 3, 1, 3, 0), some (.iconst 1, 1, 1, 0), some (.iadd, 1, 0, 0), some (.iaload, 1, 0, 0), some (.aload_n 0, 1, 0, 0), some (.iload_n 3, 1, 3, 0), some (.iconst 2, 1, 2, 0), some (.iadd, 1, 0, 0), some (.iaload, 1, 0, 0), some (.invokevirtual 72, 3, 204, 0), none, none, some (.pop, 1, 0, 0), some (.goto 866, 3, 1472, 0)]
def hm_w19 : List (Option hc_I) := [none, some (.aload_n 1, 1, 1, 0), some (.aload_n 0, 1, 0, 0), some (.iload_n 3, 1, 3, 0), some (.iconst 1, 1, 1, 0), some (.iadd, 1, 0, 0), some (.iaload, 1, 0, 0), some (.invokevirtual 73, 3, 92, 0), none, none, some (.pop, 1, 0, 0), some (.aload_n 2, 1, 2, 0), some (.aload_n 0, 1, 0, 0), some (.iload_n 3, 1, 3, 0), some (.iconst 1, 1, 1, 0), some (.iadd, 1, 0, 0), some (.iaload, 1, 0, 0), some (.invokevirtual 76, 3, 205, 0), none, none, some (.pop, 1, 0, 0), some (.goto 843, 3, 1472, 0), none, none, some (.aload_n 1, 1, 1, 0), some (.aload_n 0, 1, 0, 0), some (.iload_n 3, 1, 3, 0), some (.iconst 1, 1, 1, 0), some (.iadd, 1, 0, 0), some (.iaload, 1, 0, 0), some (.invokevirtual 77, 3, 93, 0)]
def hm_w20 : List (Option hc_I) := [none, some (.pop, 1, 0, 0), some (.aload_n 2, 1, 2, 0), some (.aload_n 0, 1, 0, 0), some (.iload_n 3, 1, 3, 0), some (.iconst 1, 1, 1, 0), some (.iadd, 1, 0, 0), some (.iaload, 1, 0, 0), some (.invokevirtual 80, 3, 206, 0), none, none, some (.pop, 1, 0, 0), some (.goto 820, 3, 1472, 0), none, none, some (.aload_n 1, 1, 1, 0), some (.aload_n 0, 1, 0, 0), some (.iload_n 3, 1, 3, 0), some (.iconst 1, 1, 1, 0), some (.iadd, 1, 0, 0), some (.iaload, 1, 0, 0), some (.invokevirtual 81, 3, 94, 0), none, none, some (.pop, 1, 0, 0), some (.aload_n 2, 1, 2, 0), some (.aload_n 0, 1, 0, 0), some (.iload_n 3, 1, 3, 0), some (.iconst 1, 1, 1, 0), some (.iadd, 1, 0, 0), some (.iaload, 1, 0, 0), some (.invokevirtual 84, 3, 207, 0)]
def hm_w21 : List (Option hc_I) := [none, none, some (.pop, 1, 0, 0), some (.goto 797, 3, 1472, 0), none, none, some (.aload_n 1, 1, 1, 0), some (.aload_n 0, 1, 0, 0), some (.iload_n 3, 1, 3, 0), some (.iconst 1, 1, 1, 0), some (.iadd, 1, 0, 0), some (.iaload, 1, 0, 0), some (.aload_n 0, 1, 0, 0), some (.iload_n 3, 1, 3, 0), some (.iconst 2, 1, 2, 0), some (.iadd, 1, 0, 0), some (.iaload, 1, 0, 0), some (.aload_n 0, 1, 0, 0), some (.iload_n 3, 1, 3, 0), some (.iconst 3, 1, 3, 0), some (.iadd, 1, 0, 0), some (.iaload, 1, 0, 0), some (.invokevirtual 85, 3, 95, 0), none, none, some (.pop, 1, 0, 0), some (.aload_n 2, 1, 2, 0), some (.aload_n 0, 1, 0, 0), some (.iload_n 3, 1, 3, 0), some (.iconst 1, 1, 1, 0), some (.iadd, 1, 0, 0), some (.iaload, 1, 0, 0)]
def hm_w22 : List (Option hc_I) := [some (.aload_n 0, 1, 0, 0), some (.iload_n 3, 1, 3, 0), some (.iconst 2, 1, 2, 0), some (.iadd, 1, 0, 0), some (.iaload, 1, 0, 0), some (.aload_n 0, 1, 0, 0), some (.iload_n 3, 1, 3, 0), some (.iconst 3, 1, 3, 0), some (.iadd, 1, 0, 0), some (.iaload, 1, 0, 0), some (.invokevirtual 89, 3, 208, 0), none, none, some (.pop, 1, 0, 0), some (.goto 754, 3, 1472, 0), none, none, some (.aload_n 1, 1, 1, 0), some (.aload_n 0, 1, 0, 0), some (.iload_n 3, 1, 3, 0), some (.iconst 1, 1, 1, 0), some (.iadd, 1, 0, 0), some (.iaload, 1, 0, 0), some (.invokevirtual 90, 3, 97, 0), none, none, some (.pop, 1, 0, 0), some (.aload_n 2, 1, 2, 0), some (.aload_n 0, 1, 0, 0), some (.iload_n 3, 1, 3, 0), some (.iconst 1, 1, 1, 0), some (.iadd, 1, 0, 0)]
def hm_w23 : List (Option hc_I) := [some (.iaload, 1, 0, 0), some (.invokevirtual 93, 3, 209, 0), none, none, some (.pop, 1, 0, 0), some (.goto 731, 3, 1472, 0), none, none, some (.aload_n 1, 1, 1, 0), some (.aload_n 0, 1, 0, 0), some (.iload_n 3, 1, 3, 0), some (.iconst 1, 1, 1, 0), some (.iadd, 1, 0, 0), some (.iaload, 1, 0, 0), some (.aload_n 0, 1, 0, 0), some (.iload_n 3, 1, 3, 0), some (.iconst 2, 1, 2, 0), some (.iadd, 1, 0, 0), some (.iaload, 1, 0, 0), some (.aload_n 0, 1, 0, 0), some (.iload_n 3, 1, 3, 0), some (.iconst 3, 1, 3, 0), some (.iadd, 1, 0, 0), some (.iaload, 1, 0, 0), some (.invokevirtual 94, 3, 98, 0), none, none, some (.pop, 1, 0, 0), some (.aload_n 2, 1, 2, 0), some (.aload_n 0, 1, 0, 0), some (.iload_n 3, 1, 3, 0), some (.iconst 1, 1, 1, 0)]
def hm_w24 : List (Option hc_I) := [some (.iadd, 1, 0, 0), some (.iaload, 1, 0, 0), some (.aload_n 0, 1, 0, 0), some (.iload_n 3, 1, 3, 0), some (.iconst 2, 1, 2, 0), some (.iadd, 1, 0, 0), some (.iaload, 1, 0, 0), some (.aload_n 0, 1, 0, 0), some (.iload_n 3, 1, 3, 0), some (.iconst 3, 1, 3, 0), some (.iadd, 1, 0, 0), some (.iaload, 1, 0, 0), some (.invokevirtual 97, 3, 210, 0), none, none, some (.pop, 1, 0, 0), some (.goto 688, 3, 1472, 0), none, none, some (.aload_n 1, 1, 1, 0), some (.aload_n 0, 1, 0, 0), some (.iload_n 3, 1, 3, 0), some (.iconst 1, 1, 1, 0), some (.iadd, 1, 0, 0), some (.iaload, 1, 0, 0), some (.aload_n 0, 1, 0, 0), some (.iload_n 3, 1, 3, 0), some (.iconst 2, 1, 2, 0), some (.iadd, 1, 0, 0), some (.iaload, 1, 0, 0), some (.invokevirtual 98, 3, 99, 0)]
def hm_w25 : List (Option hc_I) := [none, some (.pop, 1, 0, 0), some (.aload_n 2, 1, 2, 0), some (.aload_n 0, 1, 0, 0), some (.iload_n 3, 1, 3, 0), some (.iconst 1, 1, 1, 0), some (.iadd, 1, 0, 0), some (.iaload, 1, 0, 0), some (.aload_n 0, 1, 0, 0), some (.iload_n 3, 1, 3, 0), some (.iconst 2, 1, 2, 0), some (.iadd, 1, 0, 0), some (.iaload, 1, 0, 0), some (.invokevirtual 101, 3, 211, 0), none, none, some (.pop, 1, 0, 0), some (.goto 655, 3, 1472, 0), none, none, some (.aload_n 1, 1, 1, 0), some (.aload_n 0, 1, 0, 0), some (.iload_n 3, 1, 3, 0), some (.iconst 1, 1, 1, 0), some (.iadd, 1, 0, 0), some (.iaload, 1, 0, 0), some (.aload_n 0, 1, 0, 0), some (.iload_n 3, 1, 3, 0), some (.iconst 2, 1, 2, 0), some (.iadd, 1, 0, 0), some (.iaload, 1, 0, 0), some (.invokevirtual 102, 3, 100, 0)]
def hm_w26 : List (Option hc_I) := [none, none, some (.pop, 1, 0, 0), some (.aload_n 2, 1, 2, 0), some (.aload_n 0, 1, 0, 0), some (.iload_n 3, 1, 3, 0), some (.iconst 1, 1, 1, 0), some (.iadd, 1, 0, 0), some (.iaload, 1, 0, 0), some (.aload_n 0, 1, 0, 0), some (.iload_n 3, 1, 3, 0), some (.iconst 2, 1, 2, 0), some (.iadd, 1, 0, 0), some (.iaload, 1, 0, 0), some (.invokevirtual 105, 3, 212, 0), none, none, some (.pop, 1, 0, 0), some (.goto 622, 3, 1472, 0), none, none, some (.aload_n 1, 1, 1, 0), some (.aload_n 0, 1, 0, 0), some (.iload_n 3, 1, 3, 0), some (.iconst 1, 1, 1, 0), some (.iadd, 1, 0, 0), some (.iaload, 1, 0, 0), some (.invokevirtual 106, 3, 101, 0), none, none, some (.pop, 1, 0, 0), some (.aload_n 2, 1, 2, 0)]
def hm_w27 : List (Option hc_I) := [some (.aload_n 0, 1, 0, 0), some (.iload_n 3, 1, 3, 0), some (.iconst 1, 1, 1, 0), some (.iadd, 1, 0, 0), some (.iaload, 1, 0, 0), some (.invokevirtual 109, 3, 213, 0), none, none, some (.pop, 1, 0, 0), some (.goto 599, 3, 1472, 0), none, none, some (.aload_n 1, 1, 1, 0), some (.aload_n 0, 1, 0, 0), some (.iload_n 3, 1, 3, 0), some (.iconst 1, 1, 1, 0), some (.iadd, 1, 0, 0), some (.iaload, 1, 0, 0), some (.aload_n 0, 1, 0, 0), some (.iload_n 3, 1, 3, 0), some (.iconst 2, 1, 2, 0), some (.iadd, 1, 0, 0), some (.iaload, 1, 0, 0), some (.invokevirtual 110, 3, 102, 0), none, none, some (.pop, 1, 0, 0), some (.aload_n 2, 1, 2, 0), some (.aload_n 0, 1, 0, 0), some (.iload_n 3, 1, 3, 0), some (.iconst 1, 1, 1, 0), some (.iadd, 1, 0, 0)]
def hm_w28 : List (Option hc_I) := [some (.iaload, 1, 0, 0), some (.aload_n 0, 1, 0, 0), some (.iload_n 3, 1, 3, 0), some (.iconst 2, 1, 2, 0), some (.iadd, 1, 0, 0), some (.iaload, 1, 0, 0), some (.invokevirtual 113, 3, 216, 0), none, none, some (.pop, 1, 0, 0), some (.goto 566, 3, 1472, 0), none, none, some (.aload_n 1, 1, 1, 0), some (.aload_n 0, 1, 0, 0), some (.iload_n 3, 1, 3, 0), some (.iconst 1, 1, 1, 0), some (.iadd, 1, 0, 0), some (.iaload, 1, 0, 0), some (.aload_n 0, 1, 0, 0), some (.iload_n 3, 1, 3, 0), some (.iconst 2, 1, 2, 0), some (.iadd, 1, 0, 0), some (.iaload, 1, 0, 0), some (.invokevirtual 114, 3, 105, 0), none, none, some (.pop, 1, 0, 0), some (.aload_n 2, 1, 2, 0), some (.aload_n 0, 1, 0, 0), some (.iload_n 3, 1, 3, 0), some (.iconst 1, 1, 1, 0)]
def hm_w29 : List (Option hc_I) := [some (.iadd, 1, 0, 0), some (.iaload, 1, 0, 0), some (.aload_n 0, 1, 0, 0), some (.iload_n 3, 1, 3, 0), some (.iconst 2, 1, 2, 0), some (.iadd, 1, 0, 0), some (.iaload, 1, 0, 0), some (.invokevirtual 117, 3, 217, 0), none, none, some (.pop, 1, 0, 0), some (.goto 533, 3, 1472, 0), none, none, some (.aload_n 1, 1, 1, 0), some (.aload_n 0, 1, 0, 0), some (.iload_n 3, 1, 3, 0), some (.iconst 1, 1, 1, 0), some (.iadd, 1, 0, 0), some (.iaload, 1, 0, 0), some (.invokevirtual 118, 3, 106, 0), none, none, some (.pop, 1, 0, 0), some (.aload_n 2, 1, 2, 0), some (.aload_n 0, 1, 0, 0), some (.iload_n 3, 1, 3, 0), some (.iconst 1, 1, 1, 0), some (.iadd, 1, 0, 0), some (.iaload, 1, 0, 0), some (.invokevirtual 121, 3, 218, 0)]
def hm_w30 : List (Option hc_I) := [none, some (.pop, 1, 0, 0), some (.goto 510, 3, 1472, 0), none, none, some (.aload_n 1, 1, 1, 0), some (.aload_n 0, 1, 0, 0), some (.iload_n 3, 1, 3, 0), some (.iconst 1, 1, 1, 0), some (.iadd, 1, 0, 0), some (.iaload, 1, 0, 0), some (.aload_n 0, 1, 0, 0), some (.iload_n 3, 1, 3, 0), some (.iconst 2, 1, 2, 0), some (.iadd, 1, 0, 0), some (.iaload, 1, 0, 0), some (.invokevirtual 122, 3, 108, 0), none, none, some (.pop, 1, 0, 0), some (.aload_n 2, 1, 2, 0), some (.aload_n 0, 1, 0, 0), some (.iload_n 3, 1, 3, 0), some (.iconst 1, 1, 1, 0), some (.iadd, 1, 0, 0), some (.iaload, 1, 0, 0), some (.aload_n 0, 1, 0, 0), some (.iload_n 3, 1, 3, 0), some (.iconst 2, 1, 2, 0), some (.iadd, 1, 0, 0), some (.iaload, 1, 0, 0), some (.invokevirtual 125, 3, 219, 0)]
def hm_w31 : List (Option hc_I) := [none, none, some (.pop, 1, 0, 0), some (.goto 477, 3, 1472, 0), none, none, some (.aload_n 1, 1, 1, 0), some (.aload_n 0, 1, 0, 0), some (.iload_n 3, 1, 3, 0), some (.iconst 1, 1, 1, 0), some (.iadd, 1, 0, 0), some (.iaload, 1, 0, 0), some (.invokevirtual 126, 3, 110, 0), none, none, some (.pop, 1, 0, 0), some (.aload_n 2, 1, 2, 0), some (.aload_n 0, 1, 0, 0), some (.iload_n 3, 1, 3, 0), some (.iconst 1, 1, 1, 0), some (.iadd, 1, 0, 0), some (.iaload, 1, 0, 0), some (.invokevirtual 129, 3, 220, 0), none, none, some (.pop, 1, 0, 0), some (.goto 454, 3, 1472, 0), none, none, some (.aload_n 1, 1, 1, 0), some (.aload_n 0, 1, 0, 0), some (.iload_n 3, 1, 3, 0)]
def hm_w32 : List (Option hc_I) := [some (.iconst 1, 1, 1, 0), some (.iadd, 1, 0, 0), some (.iaload, 1, 0, 0), some (.invokevirtual 130, 3, 111, 0), none, none, some (.pop, 1, 0, 0), some (.aload_n 2, 1, 2, 0), some (.aload_n 0, 1, 0, 0), some (.iload_n 3, 1, 3, 0), some (.iconst 1, 1, 1, 0), some (.iadd, 1, 0, 0), some (.iaload, 1, 0, 0), some (.invokevirtual 133, 3, 221, 0), none, none, some (.pop, 1, 0, 0), some (.goto 431, 3, 1472, 0), none, none, some (.aload_n 1, 1, 1, 0), some (.aload_n 0, 1, 0, 0), some (.iload_n 3, 1, 3, 0), some (.iconst 1, 1, 1, 0), some (.iadd, 1, 0, 0), some (.iaload, 1, 0, 0), some (.invokevirtual 134, 3, 112, 0), none, none, some (.pop, 1, 0, 0), some (.aload_n 2, 1, 2, 0), some (.aload_n 0, 1, 0, 0)]
def hm_w33 : List (Option hc_I) := [some (.iload_n 3, 1, 3, 0), some (.iconst 1, 1, 1, 0), some (.iadd, 1, 0, 0), some (.iaload, 1, 0, 0), some (.invokevirtual 137, 3, 222, 0), none, none, some (.pop, 1, 0, 0), some (.goto 408, 3, 1472, 0), none, none, some (.aload_n 1, 1, 1, 0), some (.aload_n 0, 1, 0, 0), some (.iload_n 3, 1, 3, 0), some (.iconst 1, 1, 1, 0), some (.iadd, 1, 0, 0), some (.iaload, 1, 0, 0), some (.aload_n 0, 1, 0, 0), some (.iload_n 3, 1, 3, 0), some (.iconst 2, 1, 2, 0), some (.iadd, 1, 0, 0), some (.iaload, 1, 0, 0), some (.aload_n 0, 1, 0, 0), some (.iload_n 3, 1, 3, 0), some (.iconst 3, 1, 3, 0), some (.iadd, 1, 0, 0), some (.iaload, 1, 0, 0), some (.invokevirtual 138, 3, 113, 0), none, none, some (.pop, 1, 0, 0), some (.aload_n 2, 1, 2, 0)]
def hm_w34 : List (Option hc_I) := [some (.aload_n 0, 1, 0, 0), some (.iload_n 3, 1, 3, 0), some (.iconst 1, 1, 1, 0), some (.iadd, 1, 0, 0), some (.iaload, 1, 0, 0), some (.aload_n 0, 1, 0, 0), some (.iload_n 3, 1, 3, 0), some (.iconst 2, 1, 2, 0), some (.iadd, 1, 0, 0), some (.iaload, 1, 0, 0), some (.aload_n 0, 1, 0, 0), some (.iload_n 3, 1, 3, 0), some (.iconst 3, 1, 3, 0), some (.iadd, 1, 0, 0), some (.iaload, 1, 0, 0), some (.invokevirtual 141, 3, 223, 0), none, none, some (.pop, 1, 0, 0), some (.goto 365, 3, 1472, 0), none, none, some (.aload_n 1, 1, 1, 0), some (.aload_n 0, 1, 0, 0), some (.iload_n 3, 1, 3, 0), some (.iconst 1, 1, 1, 0), some (.iadd, 1, 0, 0), some (.iaload, 1, 0, 0), some (.aload_n 0, 1, 0, 0), some (.iload_n 3, 1, 3, 0), some (.iconst 2, 1, 2, 0), some (.iadd, 1, 0, 0)]
def hm_w35 : List (Option hc_I) := [some (.iaload, 1, 0, 0), some (.invokevirtual 142, 3, 114, 0), none, none, some (.pop, 1, 0, 0), some (.aload_n 2, 1, 2, 0), some (.aload_n 0, 1, 0, 0), some (.iload_n 3, 1, 3, 0), some (.iconst 1, 1, 1, 0), some (.iadd, 1, 0, 0), some (.iaload, 1, 0, 0), some (.aload_n 0, 1, 0, 0), some (.iload_n 3, 1, 3, 0), some (.iconst 2, 1, 2, 0), some (.iadd, 1, 0, 0), some (.iaload, 1, 0, 0), some (.invokevirtual 145, 3, 224, 0), none, none, some (.pop, 1, 0, 0), some (.goto 332, 3, 1472, 0), none, none, some (.aload_n 1, 1, 1, 0), some (.aload_n 0, 1, 0, 0), some (.iload_n 3, 1, 3, 0), some (.iconst 1, 1, 1, 0), some (.iadd, 1, 0, 0), some (.iaload, 1, 0, 0), some (.invokevirtual 146, 3, 115, 0)]
def hm_w36 : List (Option hc_I) := [some (.pop, 1, 0, 0), some (.aload_n 2, 1, 2, 0), some (.aload_n 0, 1, 0, 0), some (.iload_n 3, 1, 3, 0), some (.iconst 1, 1, 1, 0), some (.iadd, 1, 0, 0), some (.iaload, 1, 0, 0), some (.invokevirtual 149, 3, 226, 0), none, none, some (.pop, 1, 0, 0), some (.goto 309, 3, 1472, 0), none, none, some (.aload_n 1, 1, 1, 0), some (.aload_n 0, 1, 0, 0), some (.iload_n 3, 1, 3, 0), some (.iconst 1, 1, 1, 0), some (.iadd, 1, 0, 0), some (.iaload, 1, 0, 0), some (.invokevirtual 150, 3, 116, 0), none, none, some (.pop, 1, 0, 0), some (.aload_n 2, 1, 2, 0), some (.aload_n 0, 1, 0, 0), some (.iload_n 3, 1, 3, 0), some (.iconst 1, 1, 1, 0), some (.iadd, 1, 0, 0), some (.iaload, 1, 0, 0), some (.invokevirtual 153, 3, 227, 0)]
def hm_w37 : List (Option hc_I) := [none, some (.pop, 1, 0, 0), some (.goto 286, 3, 1472, 0), none, none, some (.aload_n 1, 1, 1, 0), some (.aload_n 0, 1, 0, 0), some (.iload_n 3, 1, 3, 0), some (.iconst 1, 1, 1, 0), some (.iadd, 1, 0, 0), some (.iaload, 1, 0, 0), some (.invokevirtual 154, 3, 117, 0), none, none, some (.pop, 1, 0, 0), some (.aload_n 2, 1, 2, 0), some (.aload_n 0, 1, 0, 0), some (.iload_n 3, 1, 3, 0), some (.iconst 1, 1, 1, 0), some (.iadd, 1, 0, 0), some (.iaload, 1, 0, 0), some (.invokevirtual 157, 3, 228, 0), none, none, some (.pop, 1, 0, 0), some (.goto 263, 3, 1472, 0), none, none, some (.aload_n 1, 1, 1, 0), some (.aload_n 0, 1, 0, 0), some (.iload_n 3, 1, 3, 0), some (.iconst 1, 1, 1, 0)]
def hm_w38 : List (Option hc_I) := [some (.iadd, 1, 0, 0), some (.iaload, 1, 0, 0), some (.invokevirtual 158, 3, 118, 0), none, none, some (.pop, 1, 0, 0), some (.aload_n 2, 1, 2, 0), some (.aload_n 0, 1, 0, 0), some (.iload_n 3, 1, 3, 0), some (.iconst 1, 1, 1, 0), some (.iadd, 1, 0, 0), some (.iaload, 1, 0, 0), some (.invokevirtual 161, 3, 229, 0), none, none, some (.pop, 1, 0, 0), some (.goto 240, 3, 1472, 0), none, none, some (.aload_n 1, 1, 1, 0), some (.aload_n 0, 1, 0, 0), some (.iload_n 3, 1, 3, 0), some (.iconst 1, 1, 1, 0), some (.iadd, 1, 0, 0), some (.iaload, 1, 0, 0), some (.invokevirtual 162, 3, 120, 0), none, none, some (.pop, 1, 0, 0), some (.aload_n 2, 1, 2, 0), some (.aload_n 0, 1, 0, 0), some (.iload_n 3, 1, 3, 0)]
def hm_w39 : List (Option hc_I) := [some (.iconst 1, 1, 1, 0), some (.iadd, 1, 0, 0), some (.iaload, 1, 0, 0), some (.invokevirtual 165, 3, 230, 0), none, none, some (.pop, 1, 0, 0), some (.goto 217, 3, 1472, 0), none, none, some (.aload_n 1, 1, 1, 0), some (.aload_n 0, 1, 0, 0), some (.iload_n 3, 1, 3, 0), some (.iconst 1, 1, 1, 0), some (.iadd, 1, 0, 0), some (.iaload, 1, 0, 0), some (.aload_n 0, 1, 0, 0), some (.iload_n 3, 1, 3, 0), some (.iconst 2, 1, 2, 0), some (.iadd, 1, 0, 0), some (.iaload, 1, 0, 0), some (.aload_n 0, 1, 0, 0), some (.iload_n 3, 1, 3, 0), some (.iconst 3, 1, 3, 0), some (.iadd, 1, 0, 0), some (.iaload, 1, 0, 0), some (.invokevirtual 166, 3, 121, 0), none, none, some (.pop, 1, 0, 0), some (.aload_n 2, 1, 2, 0), some (.aload_n 0, 1, 0, 0)]
def hm_w40 : List (Option hc_I) := [some (.iload_n 3, 1, 3, 0), some (.iconst 1, 1, 1, 0), some (.iadd, 1, 0, 0), some (.iaload, 1, 0, 0), some (.aload_n 0, 1, 0, 0), some (.iload_n 3, 1, 3, 0), some (.iconst 2, 1, 2, 0), some (.iadd, 1, 0, 0), some (.iaload, 1, 0, 0), some (.aload_n 0, 1, 0, 0), some (.iload_n 3, 1, 3, 0), some (.iconst 3, 1, 3, 0), some (.iadd, 1, 0, 0), some (.iaload, 1, 0, 0), some (.invokevirtual 169, 3, 231, 0), none, none, some (.pop, 1, 0, 0), some (.goto 174, 3, 1472, 0), none, none, some (.aload_n 1, 1, 1, 0), some (.aload_n 0, 1, 0, 0), some (.iload_n 3, 1, 3, 0), some (.iconst 1, 1, 1, 0), some (.iadd, 1, 0, 0), some (.iaload, 1, 0, 0), some (.aload_n 0, 1, 0, 0), some (.iload_n 3, 1, 3, 0), some (.iconst 2, 1, 2, 0), some (.iadd, 1, 0, 0), some (.iaload, 1, 0, 0)]
def hm_w41 : List (Option hc_I) := [some (.invokevirtual 170, 3, 122, 0), none, none, some (.pop, 1, 0, 0), some (.aload_n 2, 1, 2, 0), some (.aload_n 0, 1, 0, 0), some (.iload_n 3, 1, 3, 0), some (.iconst 1, 1, 1, 0), some (.iadd, 1, 0, 0), some (.iaload, 1, 0, 0), some (.aload_n 0, 1, 0, 0), some (.iload_n 3, 1, 3, 0), some (.iconst 2, 1, 2, 0), some (.iadd, 1, 0, 0), some (.iaload, 1, 0, 0), some (.invokevirtual 173, 3, 232, 0), none, none, some (.pop, 1, 0, 0), some (.goto 141, 3, 1472, 0), none, none, some (.aload_n 1, 1, 1, 0), some (.invokevirtual 174, 3, 123, 0), none, none, some (.pop, 1, 0, 0), some (.aload_n 2, 1, 2, 0), some (.invokevirtual 177, 3, 233, 0), none, none, some (.pop, 1, 0, 0)]
def hm_w42 : List (Option hc_I) := [some (.goto 128, 3, 1472, 0), none, none, some (.aload_n 1, 1, 1, 0), some (.aload_n 0, 1, 0, 0), some (.iload_n 3, 1, 3, 0), some (.iconst 1, 1, 1, 0), some (.iadd, 1, 0, 0), some (.iaload, 1, 0, 0), some (.aload_n 0, 1, 0, 0), some (.iload_n 3, 1, 3, 0), some (.iconst 2, 1, 2, 0), some (.iadd, 1, 0, 0), some (.iaload, 1, 0, 0), some (.invokevirtual 178, 3, 125, 0), none, none, some (.pop, 1, 0, 0), some (.aload_n 2, 1, 2, 0), some (.aload_n 0, 1, 0, 0), some (.iload_n 3, 1, 3, 0), some (.iconst 1, 1, 1, 0), some (.iadd, 1, 0, 0), some (.iaload, 1, 0, 0), some (.aload_n 0, 1, 0, 0), some (.iload_n 3, 1, 3, 0), some (.iconst 2, 1, 2, 0), some (.iadd, 1, 0, 0), some (.iaload, 1, 0, 0), some (.invokevirtual 181, 3, 235, 0)]
def hm_w43 : List (Option hc_I) := [some (.pop, 1, 0, 0), some (.goto 95, 3, 1472, 0), none, none, some (.aload_n 1, 1, 1, 0), some (.aload_n 0, 1, 0, 0), some (.iload_n 3, 1, 3, 0), some (.iconst 1, 1, 1, 0), some (.iadd, 1, 0, 0), some (.iaload, 1, 0, 0), some (.invokevirtual 182, 3, 126, 0), none, none, some (.pop, 1, 0, 0), some (.aload_n 2, 1, 2, 0), some (.aload_n 0, 1, 0, 0), some (.iload_n 3, 1, 3, 0), some (.iconst 1, 1, 1, 0), some (.iadd, 1, 0, 0), some (.iaload, 1, 0, 0), some (.invokevirtual 185, 3, 237, 0), none, none, some (.pop, 1, 0, 0), some (.goto 72, 3, 1472, 0), none, none, some (.aload_n 1, 1, 1, 0), some (.aload_n 0, 1, 0, 0), some (.iload_n 3, 1, 3, 0), some (.iconst 1, 1, 1, 0), some (.iadd, 1, 0, 0)]
def hm_w44 : List (Option hc_I) := [some (.iaload, 1, 0, 0), some (.invokevirtual 186, 3, 128, 0), none, none, some (.pop, 1, 0, 0), some (.aload_n 2, 1, 2, 0), some (.aload_n 0, 1, 0, 0), some (.iload_n 3, 1, 3, 0), some (.iconst 1, 1, 1, 0), some (.iadd, 1, 0, 0), some (.iaload, 1, 0, 0), some (.invokevirtual 189, 3, 238, 0), none, none, some (.pop, 1, 0, 0), some (.goto 49, 3, 1472, 0), none, none, some (.aload_n 1, 1, 1, 0), some (.aload_n 0, 1, 0, 0), some (.iload_n 3, 1, 3, 0), some (.iconst 1, 1, 1, 0), some (.iadd, 1, 0, 0), some (.iaload, 1, 0, 0), some (.invokevirtual 190, 3, 129, 0), none, none, some (.pop, 1, 0, 0), some (.aload_n 2, 1, 2, 0), some (.aload_n 0, 1, 0, 0), some (.iload_n 3, 1, 3, 0), some (.iconst 1, 1, 1, 0)]
def hm_w45 : List (Option hc_I) := [some (.iadd, 1, 0, 0), some (.iaload, 1, 0, 0), some (.invokevirtual 193, 3, 239, 0), none, none, some (.pop, 1, 0, 0), some (.goto 26, 3, 1472, 0), none, none, some (.aload_n 1, 1, 1, 0), some (.aload_n 0, 1, 0, 0), some (.iload_n 3, 1, 3, 0), some (.iconst 1, 1, 1, 0), some (.iadd, 1, 0, 0), some (.iaload, 1, 0, 0), some (.invokevirtual 194, 3, 130, 0), none, none, some (.pop, 1, 0, 0), some (.aload_n 2, 1, 2, 0), some (.aload_n 0, 1, 0, 0), some (.iload_n 3, 1, 3, 0), some (.iconst 1, 1, 1, 0), some (.iadd, 1, 0, 0), some (.iaload, 1, 0, 0), some (.invokevirtual 197, 3, 241, 0), none, none, some (.pop, 1, 0, 0), some (.goto 3, 3, 1472, 0)]
def hm_w46 : List (Option hc_I) := [some (.iinc 3 6, 3, 3, 6), none, none, some (.goto (-1457), 3, 18, 0), none, none, some (.iconst 1, 1, 1, 0), some (.ireturn, 1, 0, 0)]
def hm_law : hc_K := [hm_w0, hm_w1, hm_w2, hm_w3, hm_w4, hm_w5, hm_w6, hm_w7, hm_w8, hm_w9, hm_w10, hm_w11, hm_w12, hm_w13, hm_w14, hm_w15, hm_w16, hm_w17, hm_w18, hm_w19, hm_w20, hm_w21, hm_w22, hm_w23, hm_w24, hm_w25, hm_w26, hm_w27, hm_w28, hm_w29, hm_w30, hm_w31, hm_w32, hm_w33, hm_w34, hm_w35, hm_w36, hm_w37, hm_w38, hm_w39, hm_w40, hm_w41, hm_w42, hm_w43, hm_w44, hm_w45, hm_w46]
end
section
/-! THE LINKS: what the tables' words say of each operand, by the words' places -/
noncomputable def hc_gw : List Cond := lw_tbl.filter hv_keep
theorem hc_gw_keep : ∀ w ∈ hc_gw, hv_keep w = true := fun w h => (List.mem_filter.mp h).2
theorem hc_gw_tbl : ∀ w ∈ hc_gw, w ∈ lw_tbl := fun w h => (List.mem_filter.mp h).1
theorem hc_in {p : Nat} {w : Cond} (h : hc_nth lw_tbl p = some w) (hk : hv_keep w = true) : w ∈ hc_gw := List.mem_filter.mpr ⟨List.mem_of_getElem? (by rw [← hc_nth_eq]; exact h), hk⟩
def hc_Rn (ci : Nat) : String := match ci with
  | 0 => RX0
  | 1 => RX1
  | 2 => RX2
  | 3 => RX3
  | 4 => RX4
  | 5 => RX5
  | 6 => RX6
  | 7 => RX7
  | 8 => RX8
  | 9 => RX9
  | _ => RX10
def hc_T (ci : Nat) : u_T := match ci with
  | 0 => TX0
  | 1 => TX1
  | 2 => TX2
  | 3 => TX3
  | 4 => TX4
  | 5 => TX5
  | 6 => TX6
  | 7 => TX7
  | 8 => TX8
  | 9 => TX9
  | _ => TX10
theorem hc_cl {ci : Nat} (h : ci < 11) : vwCl[ci]? = some (hc_Rn ci, hc_T ci, hc_nf ci) := by
  match ci, h with
  | 0, _ => rfl
  | 1, _ => rfl
  | 2, _ => rfl
  | 3, _ => rfl
  | 4, _ => rfl
  | 5, _ => rfl
  | 6, _ => rfl
  | 7, _ => rfl
  | 8, _ => rfl
  | 9, _ => rfl
  | 10, _ => rfl
  | n + 11, h => exact absurd h (by omega)
theorem hc_nm {ci : Nat} (h : ci < 11) : ∀ a, a < hc_nf ci → ∀ b, b < hc_nf ci → a ≠ b → (hc_T ci a).2.1 ≠ (hc_T ci b).2.1 := by
  match ci, h with
  | 0, _ => exact nmX0
  | 1, _ => exact nmX1
  | 2, _ => exact nmX2
  | 3, _ => exact nmX3
  | 4, _ => exact nmX4
  | 5, _ => exact nmX5
  | 6, _ => exact nmX6
  | 7, _ => exact nmX7
  | 8, _ => exact nmX8
  | 9, _ => exact nmX9
  | 10, _ => exact nmX10
  | n + 11, h => exact absurd h (by omega)
theorem hc_ty {ci : Nat} (h : ci < 11) : ∀ k, k < hc_nf ci → parseFieldDescriptor (hc_T ci k).2.2.1 = some (hc_tyX ci k) := by
  match ci, h with
  | 0, _ => exact tyX0_ok
  | 1, _ => exact tyX1_ok
  | 2, _ => exact tyX2_ok
  | 3, _ => exact tyX3_ok
  | 4, _ => exact tyX4_ok
  | 5, _ => exact tyX5_ok
  | 6, _ => exact tyX6_ok
  | 7, _ => exact tyX7_ok
  | 8, _ => exact tyX8_ok
  | 9, _ => exact tyX9_ok
  | 10, _ => exact tyX10_ok
  | n + 11, h => exact absurd h (by omega)
def hc_def (ty : FieldType) : Bool := match ty with
  | .int => true
  | .boolean => true
  | .long => true
  | .object _ => true
  | .array _ => true
  | _ => false
theorem hc_dv : ∀ ci, ci < 11 → ∀ k, k < hc_nf ci → hc_def (hc_tyX ci k) = true := by decide +kernel
noncomputable def hc_y (k : Nat) : MethodName := match hc_get hm_pg k with
  | some e => e.1
  | none => ⟨"", "", ""⟩
def hc_m2 (L : List (Nat × Nat)) (a : Nat) : Bool := L.any (fun q => Nat.beq q.2 a)
def hc_m3 (L : List (Nat × Nat × Nat)) (a b : Nat) : Bool := L.any (fun q => Nat.beq q.2.1 a && Nat.beq q.2.2 b)
def hc_m4 (L : List (Nat × Nat × Nat × Nat)) (a b c : Nat) : Bool := L.any (fun q => Nat.beq q.2.1 a && (Nat.beq q.2.2.1 b && Nat.beq q.2.2.2 c))
def hc_m5 (L : List (Nat × Nat × Nat × Nat × Nat)) (a b c d : Nat) : Bool := L.any (fun q => Nat.beq q.2.1 a && (Nat.beq q.2.2.1 b && (Nat.beq q.2.2.2.1 c && Nat.beq q.2.2.2.2 d)))
theorem hc_m2_ok {L : List (Nat × Nat)} {a : Nat} (h : hc_m2 L a = true) : ∃ p, (p, a) ∈ L := by
  obtain ⟨⟨p, x⟩, hq, he⟩ := List.any_eq_true.mp h
  have := Nat.eq_of_beq_eq_true he
  subst this
  exact ⟨p, hq⟩
theorem hc_m3_ok {L : List (Nat × Nat × Nat)} {a b : Nat} (h : hc_m3 L a b = true) : ∃ p, (p, a, b) ∈ L := by
  obtain ⟨⟨p, x, y⟩, hq, he⟩ := List.any_eq_true.mp h
  simp only [Bool.and_eq_true] at he
  have h1 := Nat.eq_of_beq_eq_true he.1
  have h2 := Nat.eq_of_beq_eq_true he.2
  subst h1 h2
  exact ⟨p, hq⟩
theorem hc_m4_ok {L : List (Nat × Nat × Nat × Nat)} {a b c : Nat} (h : hc_m4 L a b c = true) : ∃ p, (p, a, b, c) ∈ L := by
  obtain ⟨⟨p, x, y, z⟩, hq, he⟩ := List.any_eq_true.mp h
  simp only [Bool.and_eq_true] at he
  have h1 := Nat.eq_of_beq_eq_true he.1
  have h2 := Nat.eq_of_beq_eq_true he.2.1
  have h3 := Nat.eq_of_beq_eq_true he.2.2
  subst h1 h2 h3
  exact ⟨p, hq⟩
theorem hc_m5_ok {L : List (Nat × Nat × Nat × Nat × Nat)} {a b c d : Nat} (h : hc_m5 L a b c d = true) : ∃ p, (p, a, b, c, d) ∈ L := by
  obtain ⟨⟨p, x, y, z, w⟩, hq, he⟩ := List.any_eq_true.mp h
  simp only [Bool.and_eq_true] at he
  have h1 := Nat.eq_of_beq_eq_true he.1
  have h2 := Nat.eq_of_beq_eq_true he.2.1
  have h3 := Nat.eq_of_beq_eq_true he.2.2.1
  have h4 := Nat.eq_of_beq_eq_true he.2.2.2
  subst h1 h2 h3 h4
  exact ⟨p, hq⟩
def hc_own (oc : Nat) : String := match oc with
  | 0 => "HeardNext$Air"
  | 1 => "HeardNext$Laws"
  | 2 => "HeardNext$Life"
  | 3 => "HeardNext$Past"
  | 4 => "HeardNext$Reader"
  | 5 => "HeardNext$Terrace"
  | 6 => "HeardNext$Tokens"
  | 7 => "HeardNext$Told"
  | 8 => "HeardNext$Ways"
  | 9 => "HeardNext"
  | 10 => "HeardNextModel"
  | 11 => "HeardNextLaw"
  | 12 => "java/lang/Integer"
  | 13 => "java/util/Arrays"
  | _ => "java/lang/Math"
def hl_FL : List (Nat × Nat × Nat × Nat × Nat) := [(332, 0, 9, 0, 0), (333, 0, 15, 0, 1), (334, 0, 18, 0, 2), (335, 0, 21, 0, 3), (337, 0, 24, 0, 5), (336, 0, 58, 0, 4), (131, 1, 11, 1, 0), (132, 1, 15, 1, 1), (133, 1, 18, 1, 2), (134, 1, 21, 1, 3), (135, 1, 24, 1, 4), (136, 1, 28, 1, 5), (258, 2, 9, 2, 0), (261, 2, 15, 2, 1), (264, 2, 18, 2, 2), (267, 2, 21, 2, 3), (269, 2, 24, 2, 4), (271, 2, 27, 2, 5), (277, 2, 30, 2, 8), (273, 2, 39, 2, 6), (274, 2, 40, 2, 7), (279, 2, 43, 2, 9), (281, 2, 46, 2, 10), (315, 3, 11, 3, 0), (316, 3, 18, 3, 1), (317, 3, 22, 3, 2), (223, 4, 12, 4, 0), (224, 4, 18, 4, 1), (225, 4, 22, 4, 2), (226, 4, 35, 4, 3), (228, 4, 39, 4, 5), (229, 4, 42, 4, 6), (231, 4, 45, 4, 7), (232, 4, 48, 4, 8), (227, 4, 90, 4, 4), (152, 5, 9, 5, 0), (154, 5, 15, 5, 1), (156, 5, 18, 5, 2), (158, 5, 24, 5, 3), (163, 5, 37, 5, 4), (167, 5, 41, 5, 5), (170, 5, 44, 5, 6), (173, 5, 47, 5, 7), (205, 6, 9, 6, 0), (207, 6, 15, 6, 1), (209, 6, 19, 6, 2), (211, 6, 22, 6, 3), (373, 7, 9, 7, 0), (375, 7, 15, 7, 1), (377, 7, 18, 7, 2), (359, 8, 11, 8, 0), (360, 8, 16, 8, 1), (409, 9, 9, 9, 0), (411, 9, 13, 9, 2), (412, 9, 20, 9, 3), (413, 9, 24, 9, 4), (414, 9, 32, 9, 5), (415, 9, 39, 9, 6), (416, 9, 43, 9, 7), (417, 9, 49, 9, 8), (418, 9, 53, 9, 9), (420, 9, 66, 9, 11), (421, 9, 73, 9, 12), (422, 9, 80, 9, 13), (423, 9, 84, 9, 14), (424, 9, 88, 9, 15), (425, 9, 91, 9, 16), (410, 9, 100, 9, 1), (419, 9, 119, 9, 10), (1097, 10, 13, 10, 1), (1099, 10, 17, 10, 3), (1101, 10, 20, 10, 5), (1102, 10, 24, 10, 6), (1103, 10, 27, 10, 7), (1104, 10, 30, 10, 8), (1105, 10, 34, 10, 9), (1113, 10, 37, 10, 17), (1117, 10, 40, 10, 21), (1118, 10, 43, 10, 22), (1119, 10, 46, 10, 23), (1120, 10, 49, 10, 24), (1121, 10, 52, 10, 25), (1122, 10, 55, 10, 26), (1123, 10, 58, 10, 27), (1124, 10, 61, 10, 28), (1125, 10, 64, 10, 29), (1126, 10, 67, 10, 30), (1128, 10, 70, 10, 32), (1129, 10, 74, 10, 33), (1130, 10, 77, 10, 34), (1131, 10, 80, 10, 35), (1132, 10, 83, 10, 36), (1134, 10, 86, 10, 38), (1135, 10, 89, 10, 39), (1136, 10, 92, 10, 40), (1138, 10, 95, 10, 42), (1139, 10, 98, 10, 43), (1141, 10, 101, 10, 45), (1142, 10, 104, 10, 46), (1145, 10, 107, 10, 49), (1146, 10, 110, 10, 50), (1148, 10, 113, 10, 52), (1149, 10, 116, 10, 53), (1150, 10, 119, 10, 54), (1151, 10, 122, 10, 55), (1152, 10, 125, 10, 56), (1153, 10, 128, 10, 57), (1154, 10, 131, 10, 58), (1156, 10, 134, 10, 60), (1157, 10, 137, 10, 61), (1158, 10, 140, 10, 62), (1159, 10, 143, 10, 63), (1098, 10, 160, 10, 2), (1100, 10, 166, 10, 4), (1106, 10, 175, 10, 10), (1109, 10, 197, 10, 13), (1107, 10, 200, 10, 11), (1110, 10, 203, 10, 14), (1111, 10, 206, 10, 15), (1112, 10, 209, 10, 16), (1108, 10, 224, 10, 12), (1114, 10, 227, 10, 18), (1115, 10, 230, 10, 19), (1116, 10, 233, 10, 20), (1127, 10, 236, 10, 31), (1133, 10, 239, 10, 37), (1147, 10, 245, 10, 51), (1155, 10, 248, 10, 59), (1137, 10, 280, 10, 41), (1140, 10, 293, 10, 44), (1143, 10, 301, 10, 47), (1144, 10, 304, 10, 48)]
def hl_FN : List (Nat × Nat × Nat × Nat × Nat) := [(160, 0, 28, 5, 3), (259, 0, 31, 2, 0), (262, 0, 42, 2, 1), (164, 0, 45, 5, 4), (265, 0, 49, 2, 2), (162, 2, 34, 5, 4), (153, 2, 49, 5, 0), (155, 2, 50, 5, 1), (157, 2, 64, 5, 2), (172, 2, 98, 5, 6), (212, 4, 75, 6, 3), (206, 4, 78, 6, 0), (210, 4, 81, 6, 2), (208, 4, 87, 6, 1), (166, 4, 101, 5, 4), (168, 4, 118, 5, 5), (171, 4, 124, 5, 6), (174, 4, 127, 5, 7), (161, 4, 130, 5, 3), (275, 8, 41, 2, 7), (159, 9, 59, 5, 3), (230, 9, 111, 4, 6), (318, 9, 115, 3, 2), (378, 9, 118, 7, 2), (361, 9, 122, 8, 1), (165, 9, 125, 5, 4), (260, 9, 132, 2, 0), (263, 9, 135, 2, 1), (270, 9, 138, 2, 4), (266, 9, 141, 2, 2), (272, 9, 147, 2, 5), (268, 9, 150, 2, 3), (276, 9, 157, 2, 7), (280, 9, 193, 2, 9), (278, 9, 196, 2, 8), (175, 9, 210, 5, 7), (374, 9, 280, 7, 0), (376, 9, 283, 7, 1), (169, 9, 297, 5, 5), (282, 9, 304, 2, 10)]
def hl_ML : List (Nat × Nat × Nat × Nat × Nat) := [(725, 0, 36, 242, 2), (731, 0, 52, 246, 2), (737, 0, 61, 14, 0), (741, 0, 67, 245, 2), (742, 0, 73, 244, 2), (762, 0, 76, 6, 0), (770, 0, 79, 2, 0), (771, 0, 82, 3, 0), (766, 0, 86, 11, 0), (397, 1, 31, 12, 0), (401, 1, 35, 10, 0), (835, 2, 57, 18, 0), (831, 2, 61, 19, 0), (827, 2, 67, 243, 2), (811, 2, 73, 25, 2), (823, 2, 77, 22, 0), (830, 2, 81, 1, 0), (836, 2, 87, 5, 0), (837, 2, 91, 27, 2), (844, 2, 94, 4, 0), (845, 2, 100, 23, 0), (840, 2, 104, 28, 2), (985, 2, 108, 21, 0), (314, 3, 17, 15, 1), (784, 3, 25, 17, 0), (201, 4, 11, 57, 1), (481, 4, 26, 54, 0), (482, 4, 31, 58, 0), (615, 4, 51, 38, 0), (619, 4, 55, 45, 0), (654, 4, 59, 46, 0), (663, 4, 62, 49, 0), (689, 4, 66, 47, 0), (693, 4, 69, 48, 0), (623, 4, 72, 39, 0), (627, 4, 84, 41, 0), (635, 4, 97, 40, 0), (631, 4, 104, 44, 0), (639, 4, 107, 43, 0), (646, 4, 111, 42, 0), (650, 4, 114, 55, 0), (658, 4, 121, 56, 0), (667, 4, 134, 9, 0), (671, 4, 139, 50, 0), (683, 4, 142, 12, 0), (684, 4, 146, 13, 0), (688, 4, 149, 10, 0), (675, 4, 152, 51, 0), (679, 4, 155, 52, 0), (127, 5, 23, 7, 1), (390, 5, 28, 246, 2), (393, 5, 34, 8, 0), (486, 6, 26, 59, 2), (489, 6, 30, 60, 0), (493, 6, 33, 61, 0), (549, 6, 36, 63, 0), (497, 6, 47, 62, 2), (866, 8, 20, 68, 0), (877, 8, 24, 244, 2), (870, 8, 30, 20, 0), (874, 8, 36, 246, 2), (875, 8, 44, 1, 0), (876, 8, 50, 5, 0), (121, 9, 19, 53, 1), (195, 9, 29, 36, 1), (254, 9, 38, 15, 1), (308, 9, 48, 33, 1), (328, 9, 63, 0, 1), (353, 9, 72, 66, 1), (369, 9, 79, 64, 1), (386, 9, 94, 54, 0), (405, 9, 97, 16, 0), (465, 9, 103, 71, 0), (477, 9, 107, 37, 0), (697, 9, 112, 74, 0), (709, 9, 128, 76, 0), (713, 9, 144, 18, 0), (717, 9, 153, 80, 0), (721, 9, 160, 1, 0), (732, 9, 164, 242, 2), (733, 9, 170, 2, 0), (743, 9, 173, 3, 0), (747, 9, 177, 4, 0), (755, 9, 180, 77, 2), (758, 9, 183, 5, 0), (780, 9, 186, 34, 0), (776, 9, 190, 82, 0), (799, 9, 199, 23, 0), (807, 9, 203, 24, 0), (818, 9, 206, 78, 2), (819, 9, 213, 26, 0), (850, 9, 217, 35, 0), (862, 9, 221, 67, 0), (935, 9, 225, 20, 0), (858, 9, 228, 89, 0), (890, 9, 232, 246, 2), (895, 9, 238, 96, 0), (923, 9, 242, 103, 0), (927, 9, 245, 21, 0), (931, 9, 248, 90, 0), (936, 9, 251, 104, 0), (956, 9, 255, 17, 0), (952, 9, 258, 109, 0), (961, 9, 261, 107, 0), (965, 9, 265, 31, 0), (981, 9, 268, 30, 0), (994, 9, 271, 29, 0), (1010, 9, 274, 119, 0), (1026, 9, 277, 65, 0), (1038, 9, 286, 124, 0), (1046, 9, 289, 127, 0), (1050, 9, 292, 244, 2), (1063, 9, 300, 22, 0), (1064, 9, 307, 131, 0), (1068, 9, 311, 32, 0), (1078, 10, 146, 149, 0), (1082, 10, 150, 140, 2), (1089, 10, 154, 169, 0), (1093, 10, 157, 170, 0), (1294, 10, 163, 134, 0), (1085, 10, 171, 139, 2), (1310, 10, 178, 136, 0), (1314, 10, 182, 141, 0), (1318, 10, 186, 138, 2), (1321, 10, 190, 137, 2), (1324, 10, 193, 143, 0), (1340, 10, 212, 145, 0), (1328, 10, 215, 144, 0), (1344, 10, 218, 147, 0), (1306, 10, 221, 142, 0), (1332, 10, 242, 154, 0), (1360, 10, 251, 155, 0), (1352, 10, 255, 148, 0), (1336, 10, 258, 152, 0), (1348, 10, 262, 156, 0), (1364, 10, 265, 153, 0), (1368, 10, 268, 157, 0), (1356, 10, 271, 146, 0), (1372, 10, 274, 161, 0), (1388, 10, 277, 158, 0), (1380, 10, 283, 159, 0), (1376, 10, 286, 162, 0), (1384, 10, 289, 160, 0), (1404, 10, 297, 164, 2), (1407, 10, 307, 171, 0), (1507, 10, 311, 173, 2), (1411, 10, 314, 166, 2), (1426, 10, 317, 163, 0), (1418, 10, 320, 175, 0), (1422, 10, 324, 176, 0), (1430, 10, 327, 165, 2), (1414, 10, 330, 178, 0), (1433, 10, 333, 179, 0), (1452, 10, 336, 177, 0), (1495, 10, 340, 182, 0), (1499, 10, 343, 183, 0), (1448, 10, 347, 181, 0), (1503, 10, 350, 174, 0), (1437, 10, 353, 180, 0), (1491, 10, 356, 184, 0), (1622, 10, 359, 186, 0), (1400, 10, 362, 167, 0), (1445, 10, 365, 168, 2), (1460, 10, 368, 190, 0), (1476, 10, 371, 194, 0), (1484, 10, 374, 196, 2), (1487, 10, 377, 185, 0), (1527, 10, 380, 200, 0), (1523, 10, 383, 201, 0), (1519, 10, 386, 202, 0), (1539, 10, 389, 203, 0), (1575, 10, 392, 214, 0), (1579, 10, 395, 215, 0), (1595, 10, 398, 197, 2), (1598, 10, 401, 172, 0), (1618, 10, 404, 187, 0), (1634, 10, 407, 225, 0), (1670, 10, 410, 234, 0), (1678, 10, 413, 236, 0), (1694, 10, 416, 240, 0), (113, 11, 9, 69, 1), (1074, 11, 12, 132, 1), (461, 11, 13, 70, 0), (1290, 11, 17, 133, 0), (469, 11, 18, 72, 0), (1298, 11, 22, 135, 0), (473, 11, 23, 73, 0), (1302, 11, 27, 150, 0), (701, 11, 28, 75, 0), (1392, 11, 31, 151, 0), (705, 11, 32, 79, 0), (1396, 11, 36, 188, 0), (751, 11, 37, 81, 0), (1441, 11, 40, 189, 0), (772, 11, 41, 83, 0), (1456, 11, 45, 191, 0), (791, 11, 46, 84, 0), (1464, 11, 50, 192, 0), (795, 11, 51, 85, 0), (1468, 11, 54, 193, 0), (803, 11, 55, 86, 0), (1472, 11, 59, 195, 0), (814, 11, 60, 87, 0), (1480, 11, 63, 198, 0), (846, 11, 64, 88, 0), (1511, 11, 68, 199, 0), (854, 11, 69, 91, 0), (1515, 11, 72, 204, 0), (878, 11, 73, 92, 0), (1531, 11, 76, 205, 0), (882, 11, 77, 93, 0), (1535, 11, 80, 206, 0), (886, 11, 81, 94, 0), (1543, 11, 84, 207, 0), (891, 11, 85, 95, 0), (1547, 11, 89, 208, 0), (899, 11, 90, 97, 0), (1551, 11, 93, 209, 0), (903, 11, 94, 98, 0), (1555, 11, 97, 210, 0), (907, 11, 98, 99, 0), (1559, 11, 101, 211, 0), (911, 11, 102, 100, 0), (1563, 11, 105, 212, 0), (915, 11, 106, 101, 0), (1567, 11, 109, 213, 0), (919, 11, 110, 102, 0), (1571, 11, 113, 216, 0), (940, 11, 114, 105, 0), (1583, 11, 117, 217, 0), (944, 11, 118, 106, 0), (1587, 11, 121, 218, 0), (948, 11, 122, 108, 0), (1591, 11, 125, 219, 0), (957, 11, 126, 110, 0), (1602, 11, 129, 220, 0), (969, 11, 130, 111, 0), (1606, 11, 133, 221, 0), (973, 11, 134, 112, 0), (1610, 11, 137, 222, 0), (977, 11, 138, 113, 0), (1614, 11, 141, 223, 0), (986, 11, 142, 114, 0), (1626, 11, 145, 224, 0), (990, 11, 146, 115, 0), (1630, 11, 149, 226, 0), (998, 11, 150, 116, 0), (1638, 11, 153, 227, 0), (1002, 11, 154, 117, 0), (1642, 11, 157, 228, 0), (1006, 11, 158, 118, 0), (1646, 11, 161, 229, 0), (1014, 11, 162, 120, 0), (1650, 11, 165, 230, 0), (1018, 11, 166, 121, 0), (1654, 11, 169, 231, 0), (1022, 11, 170, 122, 0), (1658, 11, 173, 232, 0), (1030, 11, 174, 123, 0), (1662, 11, 177, 233, 0), (1034, 11, 178, 125, 0), (1666, 11, 181, 235, 0), (1042, 11, 182, 126, 0), (1674, 11, 185, 237, 0), (1051, 11, 186, 128, 0), (1682, 11, 189, 238, 0), (1055, 11, 190, 129, 0), (1686, 11, 193, 239, 0), (1059, 11, 194, 130, 0), (1690, 11, 197, 241, 0)]
def hl_MN : List (Nat × Nat × Nat × Nat) := [(643, 4, 93, 78), (662, 5, 50, 78)]
def hl_NW : List (Nat × Nat × Nat × Nat) := [(312, 3, 9, 2), (199, 4, 9, 6), (125, 5, 21, 1), (119, 9, 17, 5), (193, 9, 27, 4), (252, 9, 36, 2), (306, 9, 46, 3), (326, 9, 57, 0), (351, 9, 70, 8), (367, 9, 77, 7), (111, 11, 7, 9), (1072, 11, 10, 10)]
def hl_AN : List (Nat × Nat × Nat) := [(312, 3, 9), (252, 9, 36)]
def hl_MM : List (Nat × Nat × Nat) := [(357, 8, 9)]
def hl_OI : List (Nat × Nat × Nat) := [(331, 0, 3), (130, 1, 3), (257, 2, 3), (311, 3, 3), (198, 4, 3), (124, 5, 3), (204, 6, 3), (372, 7, 3), (356, 8, 3), (116, 9, 3), (1077, 10, 7)]
def hl_AC : List (Nat × Nat × Nat) := [(788, 2, 51)]
def hl_CT : List (Nat × Nat × Nat × Nat) := [(843, 2, 107, 1103515245), (1510, 10, 310, 1103515245), (728, 12, 265, 1431655765), (729, 12, 266, 858993459), (730, 12, 267, 252645135)]
def hl_CL : List (Nat × Nat × Nat × Nat) := [(553, 6, 60, 10), (554, 6, 62, 48), (1088, 10, 169, 27)]
def hl_SE : List (Nat × Nat) := [(0, 71), (1, 60), (2, 61), (3, 63), (4, 38), (5, 45), (6, 39), (7, 41), (8, 44), (9, 40), (10, 43), (11, 42), (12, 46), (13, 49), (14, 50), (15, 51), (16, 52), (17, 47), (18, 48), (19, 74), (20, 76), (21, 80), (22, 6), (23, 82), (24, 89), (25, 68), (26, 96), (27, 103), (28, 90), (29, 104), (30, 109), (31, 107), (32, 119), (33, 124), (34, 127), (35, 131), (36, 149), (37, 169), (38, 170), (39, 134), (40, 142), (41, 136), (42, 141), (43, 143), (44, 144), (45, 154), (46, 152), (47, 145), (48, 147), (49, 156), (50, 148), (51, 146), (52, 155), (53, 153), (54, 157), (55, 161), (56, 162), (57, 159), (58, 160), (59, 158), (60, 167), (61, 171), (62, 178), (63, 175), (64, 176), (65, 163), (66, 179), (67, 180), (68, 181), (69, 177), (70, 190), (71, 194), (72, 185), (73, 184), (74, 182), (75, 183), (76, 174), (77, 202), (78, 201), (79, 200), (80, 203), (81, 214), (82, 215), (83, 172), (84, 187), (85, 186), (86, 225), (87, 234), (88, 236), (89, 240), (388, 54), (395, 8), (399, 12), (403, 10), (407, 16), (463, 70), (471, 72), (475, 73), (479, 37), (484, 58), (652, 55), (660, 56), (669, 9), (686, 13), (703, 75), (707, 79), (715, 18), (723, 1), (735, 2), (739, 14), (745, 3), (749, 4), (753, 81), (760, 5), (768, 11), (774, 83), (782, 34), (786, 17), (793, 84), (797, 85), (801, 23), (805, 86), (809, 24), (816, 87), (821, 26), (825, 22), (833, 19), (848, 88), (852, 35), (856, 91), (864, 67), (872, 20), (880, 92), (884, 93), (888, 94), (893, 95), (901, 97), (905, 98), (909, 99), (913, 100), (917, 101), (921, 102), (929, 21), (942, 105), (946, 106), (950, 108), (959, 110), (967, 31), (971, 111), (975, 112), (979, 113), (983, 30), (988, 114), (992, 115), (996, 29), (1000, 116), (1004, 117), (1008, 118), (1016, 120), (1020, 121), (1024, 122), (1028, 65), (1032, 123), (1036, 125), (1044, 126), (1053, 128), (1057, 129), (1061, 130), (1070, 32), (1292, 133), (1300, 135), (1304, 150), (1394, 151), (1398, 188), (1443, 189), (1458, 191), (1466, 192), (1470, 193), (1474, 195), (1482, 198), (1513, 199), (1517, 204), (1533, 205), (1537, 206), (1545, 207), (1549, 208), (1553, 209), (1557, 210), (1561, 211), (1565, 212), (1569, 213), (1573, 216), (1585, 217), (1589, 218), (1593, 219), (1604, 220), (1608, 221), (1612, 222), (1616, 223), (1628, 224), (1632, 226), (1640, 227), (1644, 228), (1648, 229), (1652, 230), (1656, 231), (1660, 232), (1664, 233), (1668, 235), (1676, 237), (1684, 238), (1688, 239), (1692, 241)]
def hl_IM : List (Nat × Nat) := [(114, 69), (122, 53), (128, 7), (196, 36), (202, 57), (255, 15), (309, 33), (329, 0), (354, 66), (370, 64), (387, 54), (394, 8), (398, 12), (402, 10), (406, 16), (462, 70), (467, 71), (470, 72), (474, 73), (478, 37), (483, 58), (491, 60), (495, 61), (551, 63), (617, 38), (621, 45), (625, 39), (629, 41), (633, 44), (637, 40), (641, 43), (648, 42), (651, 55), (656, 46), (659, 56), (665, 49), (668, 9), (673, 50), (677, 51), (681, 52), (685, 13), (691, 47), (695, 48), (699, 74), (702, 75), (706, 79), (711, 76), (714, 18), (719, 80), (722, 1), (734, 2), (738, 14), (744, 3), (748, 4), (752, 81), (759, 5), (764, 6), (767, 11), (773, 83), (778, 82), (781, 34), (785, 17), (792, 84), (796, 85), (800, 23), (804, 86), (808, 24), (815, 87), (820, 26), (824, 22), (832, 19), (847, 88), (851, 35), (855, 91), (860, 89), (863, 67), (868, 68), (871, 20), (879, 92), (883, 93), (887, 94), (892, 95), (897, 96), (900, 97), (904, 98), (908, 99), (912, 100), (916, 101), (920, 102), (925, 103), (928, 21), (933, 90), (938, 104), (941, 105), (945, 106), (949, 108), (954, 109), (958, 110), (963, 107), (966, 31), (970, 111), (974, 112), (978, 113), (982, 30), (987, 114), (991, 115), (995, 29), (999, 116), (1003, 117), (1007, 118), (1012, 119), (1015, 120), (1019, 121), (1023, 122), (1027, 65), (1031, 123), (1035, 125), (1040, 124), (1043, 126), (1048, 127), (1052, 128), (1056, 129), (1060, 130), (1066, 131), (1069, 32), (1075, 132), (1080, 149), (1091, 169), (1095, 170), (1291, 133), (1296, 134), (1299, 135), (1303, 150), (1308, 142), (1312, 136), (1316, 141), (1326, 143), (1330, 144), (1334, 154), (1338, 152), (1342, 145), (1346, 147), (1350, 156), (1354, 148), (1358, 146), (1362, 155), (1366, 153), (1370, 157), (1374, 161), (1378, 162), (1382, 159), (1386, 160), (1390, 158), (1393, 151), (1397, 188), (1402, 167), (1409, 171), (1416, 178), (1420, 175), (1424, 176), (1428, 163), (1435, 179), (1439, 180), (1442, 189), (1450, 181), (1454, 177), (1457, 191), (1462, 190), (1465, 192), (1469, 193), (1473, 195), (1478, 194), (1481, 198), (1489, 185), (1493, 184), (1497, 182), (1501, 183), (1505, 174), (1512, 199), (1516, 204), (1521, 202), (1525, 201), (1529, 200), (1532, 205), (1536, 206), (1541, 203), (1544, 207), (1548, 208), (1552, 209), (1556, 210), (1560, 211), (1564, 212), (1568, 213), (1572, 216), (1577, 214), (1581, 215), (1584, 217), (1588, 218), (1592, 219), (1600, 172), (1603, 220), (1607, 221), (1611, 222), (1615, 223), (1620, 187), (1624, 186), (1627, 224), (1631, 226), (1636, 225), (1639, 227), (1643, 228), (1647, 229), (1651, 230), (1655, 231), (1659, 232), (1663, 233), (1667, 235), (1672, 234), (1675, 237), (1680, 236), (1683, 238), (1687, 239), (1691, 241), (1696, 240)]
def hl_ST : List (Nat × Nat) := [(391, 246), (487, 59), (498, 62), (572, 244), (575, 245), (644, 78), (726, 242), (756, 77), (812, 25), (828, 243), (838, 27), (841, 28), (1083, 140), (1086, 139), (1319, 138), (1322, 137), (1405, 164), (1412, 166), (1431, 165), (1446, 168), (1485, 196), (1508, 173), (1596, 197)]
def hl_IN : List (Nat × Nat) := [(327, 0), (126, 1), (253, 2), (307, 3), (194, 4), (120, 5), (200, 6), (368, 7), (352, 8), (112, 9), (1073, 10)]
def hl_IC : List (Nat × Nat) := [(98, 0), (93, 1), (96, 2), (97, 3), (94, 4), (92, 5), (95, 6), (100, 7), (99, 8), (91, 9), (102, 10)]
set_option maxRecDepth 1000000 in
theorem hl_FL_ok : ∀ q ∈ hl_FL, hc_nth lw_tbl q.1 = some (Cond.fieldLink (hc_own q.2.1) q.2.2.1 (hc_T q.2.2.2.1 q.2.2.2.2).1 (hc_T q.2.2.2.1 q.2.2.2.2).2.1 (hc_T q.2.2.2.1 q.2.2.2.2).2.2.1) ∧ q.2.2.2.1 < 11 ∧ q.2.2.2.2 < hc_nf q.2.2.2.1 := by decide +kernel
set_option maxRecDepth 1000000 in
theorem hl_FN_ok : ∀ q ∈ hl_FN, hc_nth lw_tbl q.1 = some (Cond.fieldLinkNest (hc_own q.2.1) q.2.2.1 (hc_T q.2.2.2.1 q.2.2.2.2).1 (hc_T q.2.2.2.1 q.2.2.2.2).2.1 (hc_T q.2.2.2.1 q.2.2.2.2).2.2.1 "HeardNext") ∧ q.2.2.2.1 < 11 ∧ q.2.2.2.2 < hc_nf q.2.2.2.1 := by decide +kernel
set_option maxRecDepth 1000000 in
theorem hl_ML_ok : ∀ q ∈ hl_ML, hc_nth lw_tbl q.1 = some (Cond.methodLink (hc_own q.2.1) q.2.2.1 (hc_y q.2.2.2.1)) := by decide +kernel
set_option maxRecDepth 1000000 in
theorem hl_MN_ok : ∀ q ∈ hl_MN, hc_nth lw_tbl q.1 = some (Cond.methodLinkNest (hc_own q.2.1) q.2.2.1 (hc_y q.2.2.2) "HeardNext") := by decide +kernel
set_option maxRecDepth 1000000 in
theorem hl_NW_ok : ∀ q ∈ hl_NW, hc_nth lw_tbl q.1 = some (Cond.classLink (hc_own q.2.1) q.2.2.1 (hc_Rn q.2.2.2)) ∧ q.2.2.2 < 11 := by decide +kernel
set_option maxRecDepth 1000000 in
theorem hl_AN_ok : ∀ q ∈ hl_AN, hc_nth lw_tbl q.1 = some (Cond.classLink (hc_own q.2.1) q.2.2 "HeardNext$Life") := by decide +kernel
set_option maxRecDepth 1000000 in
theorem hl_MM_ok : ∀ q ∈ hl_MM, hc_nth lw_tbl q.1 = some (Cond.classLink (hc_own q.2.1) q.2.2 ("[" ++ (FieldType.array .int).toString)) := by decide +kernel
set_option maxRecDepth 1000000 in
theorem hl_OI_ok : ∀ q ∈ hl_OI, hc_nth lw_tbl q.1 = some (Cond.methodLink (hc_own q.2.1) q.2.2 Lib.objectInit) := by decide +kernel
set_option maxRecDepth 1000000 in
theorem hl_AC_ok : ∀ q ∈ hl_AC, hc_nth lw_tbl q.1 = some (Cond.methodLink (hc_own q.2.1) q.2.2 arraycopyName) := by decide +kernel
set_option maxRecDepth 1000000 in
theorem hl_CT_ok : ∀ q ∈ hl_CT, hc_nth lw_tbl q.1 = some (Cond.constant (hc_own q.2.1) q.2.2.1 (Int32.ofNat q.2.2.2)) := by decide +kernel
set_option maxRecDepth 1000000 in
theorem hl_CL_ok : ∀ q ∈ hl_CL, hc_nth lw_tbl q.1 = some (Cond.constantLong (hc_own q.2.1) q.2.2.1 (Int64.ofNat q.2.2.2)) := by decide +kernel
set_option maxRecDepth 1000000 in
theorem hl_SE_ok : ∀ q ∈ hl_SE, hc_nth lw_tbl q.1 = some (Cond.selects (hc_y q.2).cls (hc_y q.2) (hc_y q.2)) := by decide +kernel
set_option maxRecDepth 1000000 in
theorem hl_IM_ok : ∀ q ∈ hl_IM, hc_nth lw_tbl q.1 = some (Cond.instanceMethod (hc_y q.2)) := by decide +kernel
set_option maxRecDepth 1000000 in
theorem hl_ST_ok : ∀ q ∈ hl_ST, hc_nth lw_tbl q.1 = some (Cond.static (hc_y q.2)) := by decide +kernel
set_option maxRecDepth 1000000 in
theorem hl_IN_ok : ∀ q ∈ hl_IN, hc_nth lw_tbl q.1 = some (Cond.instantiable (hc_Rn q.2) (hc_nf q.2)) := by decide +kernel
set_option maxRecDepth 1000000 in
theorem hl_IC_ok : ∀ q ∈ hl_IC, hc_nth lw_tbl q.1 = some (Cond.initialized (hc_Rn q.2)) := by decide +kernel
set_option maxRecDepth 1000000 in
theorem hl_IN_all : ∀ q ∈ List.range 11, hc_m2 hl_IN q = true ∧ hc_m2 hl_IC q = true := by decide +kernel
set_option maxRecDepth 1000000 in
theorem hl_oi1 : Cond.instanceMethod Lib.objectInit ∈ hc_gw := hc_in (p := 117) (by decide +kernel) (by decide +kernel)
set_option maxRecDepth 1000000 in
theorem hl_oi2 : Cond.code Lib.objectInit ⟨#[0xb1]⟩ 1 none ∈ hc_gw := hc_in (p := 118) (by decide +kernel) (by decide +kernel)
set_option maxRecDepth 1000000 in
theorem hl_ac1 : Cond.native arraycopyName ∈ hc_gw := hc_in (p := 790) (by decide +kernel) (by decide +kernel)
set_option maxRecDepth 1000000 in
theorem hl_ac2 : Cond.static arraycopyName ∈ hc_gw := hc_in (p := 789) (by decide +kernel) (by decide +kernel)
set_option maxRecDepth 1000000 in
theorem hl_ac3 : Cond.initialized "java/lang/System" ∈ hc_gw := hc_in (p := 110) (by decide +kernel) (by decide +kernel)
set_option maxRecDepth 1000000 in
theorem hl_arr_byte : Cond.arrayClass .byte ∈ hc_gw := hc_in (p := 150) (by decide +kernel) (by decide +kernel)
set_option maxRecDepth 1000000 in
theorem hl_arr_int : Cond.arrayClass .int ∈ hc_gw := hc_in (p := 151) (by decide +kernel) (by decide +kernel)
set_option maxRecDepth 1000000 in
theorem hl_arr_long : Cond.arrayClass .long ∈ hc_gw := hc_in (p := 222) (by decide +kernel) (by decide +kernel)
set_option maxRecDepth 1000000 in
theorem hl_arr_boolean : Cond.arrayClass .boolean ∈ hc_gw := hc_in (p := 1289) (by decide +kernel) (by decide +kernel)
set_option maxRecDepth 1000000 in
theorem hl_aoL : Cond.arrayOver (.object "HeardNext$Life") ∈ hc_gw := hc_in (p := 313) (by decide +kernel) (by decide +kernel)
set_option maxRecDepth 1000000 in
theorem hl_aoI : Cond.arrayOver (.array .int) ∈ hc_gw := hc_in (p := 358) (by decide +kernel) (by decide +kernel)
theorem hc_gwAll {ps : List Nat} {ws : List Cond} (h : ps.map (fun p => hc_nth lw_tbl p) = ws.map some) (hk : ws.all hv_keep = true) : ∀ w ∈ ws, w ∈ hc_gw := by
  intro w hw
  have h1 : some w ∈ ws.map some := List.mem_map.mpr ⟨w, hw, rfl⟩
  rw [← h] at h1
  obtain ⟨p, -, hp⟩ := List.mem_map.mp h1
  exact hc_in hp (List.all_eq_true.mp hk w hw)
def hl_wp0 : List Nat := [338, 340, 342, 344, 346, 348]
theorem hl_w0 : ∀ w ∈ u_ws RX0 TX0 6, w ∈ hc_gw := by
  have h : (hl_wp0.map (fun p => hc_nth lw_tbl p)) = (u_ws RX0 TX0 6).map some ∧ (u_ws RX0 TX0 6).all hv_keep = true := by decide +kernel
  exact hc_gwAll h.1 h.2
def hl_wp1 : List Nat := [137, 139, 141, 143, 145, 147]
theorem hl_w1 : ∀ w ∈ u_ws RX1 TX1 6, w ∈ hc_gw := by
  have h : (hl_wp1.map (fun p => hc_nth lw_tbl p)) = (u_ws RX1 TX1 6).map some ∧ (u_ws RX1 TX1 6).all hv_keep = true := by decide +kernel
  exact hc_gwAll h.1 h.2
def hl_wp2 : List Nat := [283, 285, 287, 289, 291, 293, 295, 297, 299, 301, 303]
theorem hl_w2 : ∀ w ∈ u_ws RX2 TX2 11, w ∈ hc_gw := by
  have h : (hl_wp2.map (fun p => hc_nth lw_tbl p)) = (u_ws RX2 TX2 11).map some ∧ (u_ws RX2 TX2 11).all hv_keep = true := by decide +kernel
  exact hc_gwAll h.1 h.2
def hl_wp3 : List Nat := [319, 321, 323]
theorem hl_w3 : ∀ w ∈ u_ws RX3 TX3 3, w ∈ hc_gw := by
  have h : (hl_wp3.map (fun p => hc_nth lw_tbl p)) = (u_ws RX3 TX3 3).map some ∧ (u_ws RX3 TX3 3).all hv_keep = true := by decide +kernel
  exact hc_gwAll h.1 h.2
def hl_wp4 : List Nat := [233, 235, 237, 239, 241, 243, 245, 247, 249]
theorem hl_w4 : ∀ w ∈ u_ws RX4 TX4 9, w ∈ hc_gw := by
  have h : (hl_wp4.map (fun p => hc_nth lw_tbl p)) = (u_ws RX4 TX4 9).map some ∧ (u_ws RX4 TX4 9).all hv_keep = true := by decide +kernel
  exact hc_gwAll h.1 h.2
def hl_wp5 : List Nat := [176, 178, 180, 182, 184, 186, 188, 190]
theorem hl_w5 : ∀ w ∈ u_ws RX5 TX5 8, w ∈ hc_gw := by
  have h : (hl_wp5.map (fun p => hc_nth lw_tbl p)) = (u_ws RX5 TX5 8).map some ∧ (u_ws RX5 TX5 8).all hv_keep = true := by decide +kernel
  exact hc_gwAll h.1 h.2
def hl_wp6 : List Nat := [213, 215, 217, 219]
theorem hl_w6 : ∀ w ∈ u_ws RX6 TX6 4, w ∈ hc_gw := by
  have h : (hl_wp6.map (fun p => hc_nth lw_tbl p)) = (u_ws RX6 TX6 4).map some ∧ (u_ws RX6 TX6 4).all hv_keep = true := by decide +kernel
  exact hc_gwAll h.1 h.2
def hl_wp7 : List Nat := [379, 381, 383]
theorem hl_w7 : ∀ w ∈ u_ws RX7 TX7 3, w ∈ hc_gw := by
  have h : (hl_wp7.map (fun p => hc_nth lw_tbl p)) = (u_ws RX7 TX7 3).map some ∧ (u_ws RX7 TX7 3).all hv_keep = true := by decide +kernel
  exact hc_gwAll h.1 h.2
def hl_wp8 : List Nat := [362, 364]
theorem hl_w8 : ∀ w ∈ u_ws RX8 TX8 2, w ∈ hc_gw := by
  have h : (hl_wp8.map (fun p => hc_nth lw_tbl p)) = (u_ws RX8 TX8 2).map some ∧ (u_ws RX8 TX8 2).all hv_keep = true := by decide +kernel
  exact hc_gwAll h.1 h.2
def hl_wp9 : List Nat := [426, 428, 430, 432, 434, 436, 438, 440, 442, 444, 446, 448, 450, 452, 454, 456, 458]
theorem hl_w9 : ∀ w ∈ u_ws RX9 TX9 17, w ∈ hc_gw := by
  have h : (hl_wp9.map (fun p => hc_nth lw_tbl p)) = (u_ws RX9 TX9 17).map some ∧ (u_ws RX9 TX9 17).all hv_keep = true := by decide +kernel
  exact hc_gwAll h.1 h.2
def hl_wp10 : List Nat := [1160, 1162, 1164, 1166, 1168, 1170, 1172, 1174, 1176, 1178, 1180, 1182, 1184, 1186, 1188, 1190, 1192, 1194, 1196, 1198, 1200, 1202, 1204, 1206, 1208, 1210, 1212, 1214, 1216, 1218, 1220, 1222, 1224, 1226, 1228, 1230, 1232, 1234, 1236, 1238, 1240, 1242, 1244, 1246, 1248, 1250, 1252, 1254, 1256, 1258, 1260, 1262, 1264, 1266, 1268, 1270, 1272, 1274, 1276, 1278, 1280, 1282, 1284, 1286]
theorem hl_w10 : ∀ w ∈ u_ws RX10 TX10 64, w ∈ hc_gw := by
  have h : (hl_wp10.map (fun p => hc_nth lw_tbl p)) = (u_ws RX10 TX10 64).map some ∧ (u_ws RX10 TX10 64).all hv_keep = true := by decide +kernel
  exact hc_gwAll h.1 h.2
theorem hc_u {ci : Nat} (h : ci < 11) : ∀ w ∈ u_ws (hc_Rn ci) (hc_T ci) (hc_nf ci), w ∈ hc_gw := by
  match ci, h with
  | 0, _ => exact hl_w0
  | 1, _ => exact hl_w1
  | 2, _ => exact hl_w2
  | 3, _ => exact hl_w3
  | 4, _ => exact hl_w4
  | 5, _ => exact hl_w5
  | 6, _ => exact hl_w6
  | 7, _ => exact hl_w7
  | 8, _ => exact hl_w8
  | 9, _ => exact hl_w9
  | 10, _ => exact hl_w10
  | n + 11, h => exact absurd h (by omega)
end
section
set_option maxRecDepth 1000000 in
theorem hl_t_cln : Cond.code ⟨"java/lang/String", "length", "()I"⟩ Jvm.Lib.String.length.code 1 (some .int) ∈ hc_gw := hc_in (p := 504) (by decide +kernel) (by decide +kernel)
set_option maxRecDepth 1000000 in
theorem hl_t_cco : Cond.code ⟨"java/lang/String", "coder", "()B"⟩ Jvm.Lib.String.coder.code 1 (some .byte) ∈ hc_gw := hc_in (p := 508) (by decide +kernel) (by decide +kernel)
set_option maxRecDepth 1000000 in
theorem hl_t_cil : Cond.code ⟨"java/lang/String", "isLatin1", "()Z"⟩ Jvm.Lib.String.isLatin1.code 1 (some .boolean) ∈ hc_gw := hc_in (p := 518) (by decide +kernel) (by decide +kernel)
set_option maxRecDepth 1000000 in
theorem hl_t_cch : Cond.code ⟨"java/lang/String", "charAt", "(I)C"⟩ Jvm.Lib.Str.charAt.code 2 (some .char) ∈ hc_gw := hc_in (p := 514) (by decide +kernel) (by decide +kernel)
set_option maxRecDepth 1000000 in
theorem hl_t_csl : Cond.code ⟨"java/lang/StringLatin1", "charAt", "([BI)C"⟩ Jvm.Lib.SL1.charAt.code 2 (some .char) ∈ hc_gw := hc_in (p := 521) (by decide +kernel) (by decide +kernel)
set_option maxRecDepth 1000000 in
theorem hl_t_csc : Cond.code ⟨"java/lang/String", "checkIndex", "(II)V"⟩ Jvm.Lib.Str.checkIndex.code 2 none ∈ hc_gw := hc_in (p := 524) (by decide +kernel) (by decide +kernel)
set_option maxRecDepth 1000000 in
theorem hl_t_cpc : Cond.code ⟨"jdk/internal/util/Preconditions", "checkIndex", "(IILjava/util/function/BiFunction;)I"⟩ Jvm.Lib.Preconditions.checkIndex.code 3 (some .int) ∈ hc_gw := hc_in (p := 529) (by decide +kernel) (by decide +kernel)
set_option maxRecDepth 1000000 in
theorem hl_t_ci1 : Cond.code ⟨"java/lang/String", "indexOf", "(I)I"⟩ Jvm.Free.StrIndexOf.indexOf1B 2 (some .int) ∈ hc_gw := hc_in (p := 559) (by decide +kernel) (by decide +kernel)
set_option maxRecDepth 1000000 in
theorem hl_t_ci2 : Cond.code ⟨"java/lang/String", "indexOf", "(II)I"⟩ Jvm.Free.StrIndexOf.indexOf2B 3 (some .int) ∈ hc_gw := hc_in (p := 563) (by decide +kernel) (by decide +kernel)
set_option maxRecDepth 1000000 in
theorem hl_t_cix : Cond.code ⟨"java/lang/StringLatin1", "indexOf", "([BIII)I"⟩ Jvm.Free.SL1IndexOf.indexOfB 4 (some .int) ∈ hc_gw := hc_in (p := 567) (by decide +kernel) (by decide +kernel)
set_option maxRecDepth 1000000 in
theorem hl_t_cce : Cond.code ⟨"java/lang/StringLatin1", "canEncode", "(I)Z"⟩ Jvm.Free.SL1IndexOf.canEncodeB 1 (some .boolean) ∈ hc_gw := hc_in (p := 570) (by decide +kernel) (by decide +kernel)
set_option maxRecDepth 1000000 in
theorem hl_t_cmx : Cond.code ⟨"java/lang/Math", "max", "(II)I"⟩ Jvm.Lib.Math.max.code 2 (some .int) ∈ hc_gw := hc_in (p := 573) (by decide +kernel) (by decide +kernel)
set_option maxRecDepth 1000000 in
theorem hl_t_cmn : Cond.code ⟨"java/lang/Math", "min", "(II)I"⟩ Jvm.Lib.Math.min.code 2 (some .int) ∈ hc_gw := hc_in (p := 576) (by decide +kernel) (by decide +kernel)
set_option maxRecDepth 1000000 in
theorem hl_t_cic : Cond.code ⟨"java/lang/StringLatin1", "indexOfChar", "([BIII)I"⟩ Jvm.Free.SL1IndexOf.indexOfCharB 6 (some .int) ∈ hc_gw := hc_in (p := 579) (by decide +kernel) (by decide +kernel)
set_option maxRecDepth 1000000 in
theorem hl_t_iln : Cond.instanceMethod ⟨"java/lang/String", "length", "()I"⟩ ∈ hc_gw := hc_in (p := 502) (by decide +kernel) (by decide +kernel)
set_option maxRecDepth 1000000 in
theorem hl_t_sln : Cond.selects "java/lang/String" ⟨"java/lang/String", "length", "()I"⟩ ⟨"java/lang/String", "length", "()I"⟩ ∈ hc_gw := hc_in (p := 503) (by decide +kernel) (by decide +kernel)
set_option maxRecDepth 1000000 in
theorem hl_t_ico : Cond.instanceMethod ⟨"java/lang/String", "coder", "()B"⟩ ∈ hc_gw := hc_in (p := 506) (by decide +kernel) (by decide +kernel)
set_option maxRecDepth 1000000 in
theorem hl_t_sco : Cond.selects "java/lang/String" ⟨"java/lang/String", "coder", "()B"⟩ ⟨"java/lang/String", "coder", "()B"⟩ ∈ hc_gw := hc_in (p := 507) (by decide +kernel) (by decide +kernel)
set_option maxRecDepth 1000000 in
theorem hl_t_iil : Cond.instanceMethod ⟨"java/lang/String", "isLatin1", "()Z"⟩ ∈ hc_gw := hc_in (p := 516) (by decide +kernel) (by decide +kernel)
set_option maxRecDepth 1000000 in
theorem hl_t_sil : Cond.selects "java/lang/String" ⟨"java/lang/String", "isLatin1", "()Z"⟩ ⟨"java/lang/String", "isLatin1", "()Z"⟩ ∈ hc_gw := hc_in (p := 517) (by decide +kernel) (by decide +kernel)
set_option maxRecDepth 1000000 in
theorem hl_t_ich : Cond.instanceMethod ⟨"java/lang/String", "charAt", "(I)C"⟩ ∈ hc_gw := hc_in (p := 512) (by decide +kernel) (by decide +kernel)
set_option maxRecDepth 1000000 in
theorem hl_t_sch : Cond.selects "java/lang/String" ⟨"java/lang/String", "charAt", "(I)C"⟩ ⟨"java/lang/String", "charAt", "(I)C"⟩ ∈ hc_gw := hc_in (p := 513) (by decide +kernel) (by decide +kernel)
set_option maxRecDepth 1000000 in
theorem hl_t_ii1 : Cond.instanceMethod ⟨"java/lang/String", "indexOf", "(I)I"⟩ ∈ hc_gw := hc_in (p := 557) (by decide +kernel) (by decide +kernel)
set_option maxRecDepth 1000000 in
theorem hl_t_si1 : Cond.selects "java/lang/String" ⟨"java/lang/String", "indexOf", "(I)I"⟩ ⟨"java/lang/String", "indexOf", "(I)I"⟩ ∈ hc_gw := hc_in (p := 558) (by decide +kernel) (by decide +kernel)
set_option maxRecDepth 1000000 in
theorem hl_t_ii2 : Cond.instanceMethod ⟨"java/lang/String", "indexOf", "(II)I"⟩ ∈ hc_gw := hc_in (p := 561) (by decide +kernel) (by decide +kernel)
set_option maxRecDepth 1000000 in
theorem hl_t_si2 : Cond.selects "java/lang/String" ⟨"java/lang/String", "indexOf", "(II)I"⟩ ⟨"java/lang/String", "indexOf", "(II)I"⟩ ∈ hc_gw := hc_in (p := 562) (by decide +kernel) (by decide +kernel)
set_option maxRecDepth 1000000 in
theorem hl_t_ssl : Cond.static ⟨"java/lang/StringLatin1", "charAt", "([BI)C"⟩ ∈ hc_gw := hc_in (p := 520) (by decide +kernel) (by decide +kernel)
set_option maxRecDepth 1000000 in
theorem hl_t_ssc : Cond.static ⟨"java/lang/String", "checkIndex", "(II)V"⟩ ∈ hc_gw := hc_in (p := 523) (by decide +kernel) (by decide +kernel)
set_option maxRecDepth 1000000 in
theorem hl_t_spc : Cond.static ⟨"jdk/internal/util/Preconditions", "checkIndex", "(IILjava/util/function/BiFunction;)I"⟩ ∈ hc_gw := hc_in (p := 528) (by decide +kernel) (by decide +kernel)
set_option maxRecDepth 1000000 in
theorem hl_t_six : Cond.static ⟨"java/lang/StringLatin1", "indexOf", "([BIII)I"⟩ ∈ hc_gw := hc_in (p := 566) (by decide +kernel) (by decide +kernel)
set_option maxRecDepth 1000000 in
theorem hl_t_sce : Cond.static ⟨"java/lang/StringLatin1", "canEncode", "(I)Z"⟩ ∈ hc_gw := hc_in (p := 569) (by decide +kernel) (by decide +kernel)
set_option maxRecDepth 1000000 in
theorem hl_t_smx : Cond.static ⟨"java/lang/Math", "max", "(II)I"⟩ ∈ hc_gw := hc_in (p := 572) (by decide +kernel) (by decide +kernel)
set_option maxRecDepth 1000000 in
theorem hl_t_smn : Cond.static ⟨"java/lang/Math", "min", "(II)I"⟩ ∈ hc_gw := hc_in (p := 575) (by decide +kernel) (by decide +kernel)
set_option maxRecDepth 1000000 in
theorem hl_t_sic : Cond.static ⟨"java/lang/StringLatin1", "indexOfChar", "([BIII)I"⟩ ∈ hc_gw := hc_in (p := 578) (by decide +kernel) (by decide +kernel)
set_option maxRecDepth 1000000 in
theorem hl_t_nstr : Cond.initialized "java/lang/String" ∈ hc_gw := hc_in (p := 103) (by decide +kernel) (by decide +kernel)
set_option maxRecDepth 1000000 in
theorem hl_t_nsl1 : Cond.initialized "java/lang/StringLatin1" ∈ hc_gw := hc_in (p := 104) (by decide +kernel) (by decide +kernel)
set_option maxRecDepth 1000000 in
theorem hl_t_npre : Cond.initialized "jdk/internal/util/Preconditions" ∈ hc_gw := hc_in (p := 105) (by decide +kernel) (by decide +kernel)
set_option maxRecDepth 1000000 in
theorem hl_t_nmt : Cond.initialized "java/lang/Math" ∈ hc_gw := hc_in (p := 107) (by decide +kernel) (by decide +kernel)
set_option maxRecDepth 1000000 in
theorem hl_t_m335 : Cond.methodLink "java/lang/String" 335 ⟨"java/lang/String", "coder", "()B"⟩ ∈ hc_gw := hc_in (p := 505) (by decide +kernel) (by decide +kernel)
set_option maxRecDepth 1000000 in
theorem hl_t_m492 : Cond.methodLink "java/lang/String" 492 ⟨"java/lang/String", "isLatin1", "()Z"⟩ ∈ hc_gw := hc_in (p := 515) (by decide +kernel) (by decide +kernel)
set_option maxRecDepth 1000000 in
theorem hl_t_m495 : Cond.methodLink "java/lang/String" 495 ⟨"java/lang/StringLatin1", "charAt", "([BI)C"⟩ ∈ hc_gw := hc_in (p := 519) (by decide +kernel) (by decide +kernel)
set_option maxRecDepth 1000000 in
theorem hl_t_m9 : Cond.methodLink "java/lang/StringLatin1" 9 ⟨"java/lang/String", "checkIndex", "(II)V"⟩ ∈ hc_gw := hc_in (p := 522) (by decide +kernel) (by decide +kernel)
set_option maxRecDepth 1000000 in
theorem hl_t_m1059 : Cond.methodLink "java/lang/String" 1059 ⟨"jdk/internal/util/Preconditions", "checkIndex", "(IILjava/util/function/BiFunction;)I"⟩ ∈ hc_gw := hc_in (p := 527) (by decide +kernel) (by decide +kernel)
set_option maxRecDepth 1000000 in
theorem hl_t_m633 : Cond.methodLink "java/lang/String" 633 ⟨"java/lang/String", "indexOf", "(II)I"⟩ ∈ hc_gw := hc_in (p := 560) (by decide +kernel) (by decide +kernel)
set_option maxRecDepth 1000000 in
theorem hl_t_m505 : Cond.methodLink "java/lang/String" 505 ⟨"java/lang/String", "length", "()I"⟩ ∈ hc_gw := hc_in (p := 564) (by decide +kernel) (by decide +kernel)
set_option maxRecDepth 1000000 in
theorem hl_t_m637 : Cond.methodLink "java/lang/String" 637 ⟨"java/lang/StringLatin1", "indexOf", "([BIII)I"⟩ ∈ hc_gw := hc_in (p := 565) (by decide +kernel) (by decide +kernel)
set_option maxRecDepth 1000000 in
theorem hl_t_m88 : Cond.methodLink "java/lang/StringLatin1" 88 ⟨"java/lang/StringLatin1", "canEncode", "(I)Z"⟩ ∈ hc_gw := hc_in (p := 568) (by decide +kernel) (by decide +kernel)
set_option maxRecDepth 1000000 in
theorem hl_t_m92 : Cond.methodLink "java/lang/StringLatin1" 92 ⟨"java/lang/Math", "max", "(II)I"⟩ ∈ hc_gw := hc_in (p := 571) (by decide +kernel) (by decide +kernel)
set_option maxRecDepth 1000000 in
theorem hl_t_m38 : Cond.methodLink "java/lang/StringLatin1" 38 ⟨"java/lang/Math", "min", "(II)I"⟩ ∈ hc_gw := hc_in (p := 574) (by decide +kernel) (by decide +kernel)
set_option maxRecDepth 1000000 in
theorem hl_t_m95 : Cond.methodLink "java/lang/StringLatin1" 95 ⟨"java/lang/StringLatin1", "indexOfChar", "([BIII)I"⟩ ∈ hc_gw := hc_in (p := 577) (by decide +kernel) (by decide +kernel)
set_option maxRecDepth 1000000 in
theorem hl_t_m52 : Cond.methodLink "HeardNext$Tokens" 52 ⟨"java/lang/String", "length", "()I"⟩ ∈ hc_gw := hc_in (p := 501) (by decide +kernel) (by decide +kernel)
set_option maxRecDepth 1000000 in
theorem hl_t_m56 : Cond.methodLink "HeardNext$Tokens" 56 ⟨"java/lang/String", "charAt", "(I)C"⟩ ∈ hc_gw := hc_in (p := 511) (by decide +kernel) (by decide +kernel)
set_option maxRecDepth 1000000 in
theorem hl_t_m41 : Cond.methodLink "HeardNext$Tokens" 41 ⟨"java/lang/String", "indexOf", "(I)I"⟩ ∈ hc_gw := hc_in (p := 556) (by decide +kernel) (by decide +kernel)
set_option maxRecDepth 1000000 in
theorem hl_t_f9 : Cond.fieldLink "java/lang/String" 9 "java/lang/String" "value" "[B" ∈ hc_gw := hc_in (p := 1698) (by decide +kernel) (by decide +kernel)
set_option maxRecDepth 1000000 in
theorem hl_t_f15 : Cond.fieldLink "java/lang/String" 15 "java/lang/String" "coder" "B" ∈ hc_gw := hc_in (p := 1699) (by decide +kernel) (by decide +kernel)
set_option maxRecDepth 1000000 in
theorem hl_t_f38 : Cond.fieldLink "java/lang/String" 38 "java/lang/String" "COMPACT_STRINGS" "Z" ∈ hc_gw := hc_in (p := 509) (by decide +kernel) (by decide +kernel)
set_option maxRecDepth 1000000 in
theorem hl_t_f1053 : Cond.fieldLink "java/lang/String" 1053 "jdk/internal/util/Preconditions" "SIOOBE_FORMATTER" "Ljava/util/function/BiFunction;" ∈ hc_gw := hc_in (p := 525) (by decide +kernel) (by decide +kernel)
/-! THE TEXTS' METHODS: contracts out of the library's, at any world -/
theorem hx_decl {args : Array Value} {s : State} {y : MethodName} {bytes : ByteArray} {maxL : Nat} {ret : Option FieldType} (h1 : (Cond.code y bytes maxL ret).before args s = true) (h2 : (Cond.instanceMethod y).before args s = true) : (Cond.declares y).before args s = true := by
  obtain ⟨m, meth, a1, a2, a3, -⟩ := Cond.instanceMethod_spec h2
  obtain ⟨meth', c, b1, -, -, -, -, -, -, b2⟩ := Cond.code_spec a1 h1
  have e : meth' = meth := Option.some.inj (b1.symm.trans a2)
  subst e
  simp only [Cond.before, Cond.holds, Cond.value, a1, a2, a3, b2, Option.bind_some, Option.map_some]
  simp
theorem hx_sig {args : Array Value} {s : State} {y : MethodName} {bytes : ByteArray} {maxL : Nat} {ret : Option FieldType} (h1 : (Cond.code y bytes maxL ret).before args s = true) : Jvm.Lib.Cold.Sig s y := by
  obtain ⟨m, hn⟩ := Cond.named_of_code h1
  obtain ⟨meth, c, b1, -, -, -, -, -, -, b2⟩ := Cond.code_spec hn h1
  exact ⟨m, meth, hn, b1, b2⟩
section HXT
variable {G : hv_G} {l : Launch}
theorem hx_C {x : MethodName} {S : Spec} {bytes : ByteArray} {maxL : Nat} {ret : Option FieldType} {fr lo n : Nat} {hp : hv_H} {as : List Value} {r : Int32} {A : Type} {Pg : A → Array Value → State → Prop}
    (hm : ∀ g : A, MetFree l x S (Pg g) (fun _ _ _ _ _ => True) (fun _ s o s' => PureEnd s o s' ∧ o = .returned (some (.int r))))
    (hf : S.room.frames ≤ fr) (hl : S.room.locals ≤ lo) (hc : S.room.cells ≤ 0) (hs : S.room.slots ≤ 0)
    (hq : ∀ s : State, (∀ w ∈ hc_gw, ∀ a : Array Value, w.before a s = true) → hx_K G s → ∃ g : A, Pg g (as.map (hv_v G)).toArray s ∧ S.pre.before (as.map (hv_v G)).toArray s = true) :
    hv_C G hc_gw l x bytes maxL ret fr lo n hp as (some (.int r)) n hp 0 0 := by
  intro p e ha hcs hk s m args below hfr happ hP hK
  obtain ⟨a1, a2, a3, a4, a5, a6, a7, a8⟩ := (Spec.appliesLoose_iff hfr).mp happ
  obtain ⟨rfl, h1, h2, h3, hxk, h4⟩ := hP
  have hts := atoms_spec (ws := .code x bytes maxL ret :: hc_gw) a8
  obtain ⟨g, hg, hpre⟩ := hq s (fun w hw a => hv_keeps (hc_gw_keep w hw) (State.WarmedH.refl s) (hts w (List.mem_cons_of_mem _ hw))) hxk
  obtain ⟨k, o, q1, q2, q3, o1, o2, o3⟩ := (Jvm.Free.MetFree.toPureRet (hm g)) p e ha hcs hk s m _ below hfr ((Spec.appliesLoose_iff hfr).mpr ⟨a1, a2, a3, a4, a5, a6, Jvm.Free.hasRoom_mono hf hl hc hs a7, hpre⟩) hg trivial
  exact ⟨k, o, q1, q2, q3, ⟨o1, by rw [o2]; exact h1, fun q hq => by rw [o2]⟩, [], o3, fun q hq => absurd hq List.not_mem_nil⟩
theorem hx_val {U : State} {a : Nat} {rest : List Value} {name desc : String} {v : Value} (h : U.fieldOf? a "java/lang/String" name desc = some v) : (Term.field (.arg 0) "java/lang/String" name desc).eval (Value.ref a :: rest).toArray U none [] U = some v := by
  have e : ((Value.ref a :: rest).toArray)[0]? = some (.ref a) := by simp
  simp only [Term.eval, e, Option.bind_eq_bind, Option.bind_some]
  exact h
theorem hx_ex {U : State} {a : Nat} {rest : List Value} {cls : String} (h : (Cond.exactly (.arg 0) cls).before #[.ref a] U = true) : (Cond.exactly (.arg 0) cls).before (Value.ref a :: rest).toArray U = true := by
  have e : ((Value.ref a :: rest).toArray)[0]? = some (.ref a) := by simp
  have e' : (#[Value.ref a] : Array Value)[0]? = some (.ref a) := rfl
  simp only [Cond.before, Cond.holds, Cond.value, Term.eval, e, e'] at h ⊢
  exact h
theorem hx_lo : ∀ k, ∀ c ∈ hc_txt k, c < 128
  | 0 => by decide +kernel
  | k + 1 => by
    show ∀ c ∈ hc_txt 1, c < 128
    decide +kernel
theorem hx_len31 : ∀ k, 0 < (hc_txt k).length ∧ (hc_txt k).length < 200
  | 0 => by decide +kernel
  | k + 1 => by
    show 0 < (hc_txt 1).length ∧ (hc_txt 1).length < 200
    decide +kernel
theorem hx_len {k fr lo n : Nat} {hp : hv_H} (hfr : 4 ≤ fr) (hlo : 200 ≤ lo) : hv_C G hc_gw l ⟨"java/lang/String", "length", "()I"⟩ Jvm.Lib.String.length.code 1 (some .int) fr lo n hp [.retAddr k] (some (.int (Int32.ofNat (hc_txt k).length))) n hp 0 0 := by
  refine hx_C (A := { g : Nat × Cell // g.2.slots.size = (hc_txt k).length }) (S := Jvm.Lib.Cold.length.spec) (Pg := fun g => Jvm.Lib.Cold.length.P (G.2.2.2 (1000 + hx_k k)) g.1.1 1 g.1.2) (fun g => ?_) (by show 1 ≤ fr; omega) (by show 24 ≤ lo; omega) (Nat.le_refl 0) (Nat.le_refl 0) ?_
  · have hm := Jvm.Lib.Cold.length.met l (G.2.2.2 (1000 + hx_k k)) g.1.1 1 g.1.2
    unfold Jvm.Lib.Cold.length.Q at hm
    rw [g.2] at hm
    exact hm
  · intro s hw hx
    obtain ⟨⟨z1, fmt, z2, z3⟩, ht⟩ := hx.at
    obtain ⟨d, C, arr, t1, t2, t3, t4, t5, t6, t7, t8, t9, t10, t11⟩ := ht k
    refine ⟨⟨(d, arr), t10⟩, ⟨rfl, hx_val (rest := []) t5, t7, t8, ?_, rfl, z1, by decide, hx_val (rest := []) t6⟩, ?_⟩
    · simp only [Jvm.Lib.Cold.coder.spec, Cond.before_and, Bool.and_eq_true]
      exact ⟨hw _ hl_t_cco _, rfl, hw _ hl_t_f38 _, hw _ hl_t_f15 _⟩
    · simp only [Jvm.Lib.Cold.length.spec, Cond.before_and, Bool.and_eq_true]
      exact ⟨hw _ hl_t_cln _, rfl, hx_ex (rest := []) t4, hw _ hl_t_f9 _, hw _ hl_t_m335 _, hx_decl (hw _ hl_t_cco _) (hw _ hl_t_ico _), hw _ hl_t_sco _, hw _ hl_t_ico _, hw _ hl_t_nstr _⟩
theorem hx_ch : ∀ c, c < 128 → ((Int32.ofNat c &&& 255).toUInt32.toUInt16.toUInt32.toInt32) = Int32.ofNat c := by decide +kernel
theorem hx_isRef {fmt : Value} {i n : Int32} {U : State} (h : fmt.isRef = true) : (Cond.isRef (.arg 2)).before #[.int i, .int n, fmt] U = true := by
  cases fmt <;> first | rfl | (cases h; done)
theorem hx_chr {k fr lo n c : Nat} {i : Int32} {hp : hv_H} (hi : ¬ i < 0) (hc : (hc_txt k)[i.toNatClampNeg]? = some c) (hfr : 4 ≤ fr) (hlo : 200 ≤ lo) : hv_C G hc_gw l ⟨"java/lang/String", "charAt", "(I)C"⟩ Jvm.Lib.Str.charAt.code 2 (some .char) fr lo n hp [.retAddr k, .int i] (some (.int (Int32.ofNat c))) n hp 0 0 := by
  have hc128 := hx_lo k c (List.mem_of_getElem? hc)
  refine hx_C (A := Nat × Value × Cell) (S := Jvm.Lib.Cold.charAt.spec) (Pg := fun g => Jvm.Lib.Cold.charAt.P (G.2.2.2 (1000 + hx_k k)) g.1 i (Int32.ofNat c) 1 g.2.1 g.2.2) (fun g => ?_) (by show 3 ≤ fr; omega) (by show 72 ≤ lo; omega) (Nat.le_refl 0) (Nat.le_refl 0) ?_
  · have hm := Jvm.Lib.Cold.charAt.met l (G.2.2.2 (1000 + hx_k k)) g.1 i (Int32.ofNat c) 1 g.2.1 g.2.2
    unfold Jvm.Lib.Cold.charAt.Q at hm
    rw [hx_ch c hc128] at hm
    exact hm
  · intro s hw hx
    obtain ⟨⟨z1, fmt, z2, z3⟩, ht⟩ := hx.at
    obtain ⟨d, C, arr, t1, t2, t3, t4, t5, t6, t7, t8, t9, t10, t11⟩ := ht k
    have hlt : i.toNatClampNeg < (hc_txt k).length := (List.getElem?_eq_some_iff.mp hc).1
    have hl2 := (hx_len31 k).2
    have hin : i < arr.slots.size.toInt32 := by
      rw [t10]
      obtain ⟨j, h1, h2⟩ := nI_of hi
      rw [h2, nI_clamp h1] at hlt
      rw [h2]
      apply Int32.lt_iff_toInt_lt.mpr
      rw [nI_toInt h1]
      show (j : Int) < (nI (hc_txt k).length).toInt
      rw [nI_toInt (by omega)]
      omega
    have h0 : (0 : Int32) ≤ i := Int32.not_lt.mp hi
    refine ⟨(d, fmt, arr), ⟨rfl, hx_val (rest := [.int i]) t5, hx_sig (hw _ hl_t_csl #[]), ?_, ⟨rfl, z1, by decide, hx_val (rest := []) t6⟩, ?_, rfl, t7, t8, t9, ?_, t11 _ _ hc, hx_sig (hw _ hl_t_csc #[]), ?_, rfl, z2, hx_sig (hw _ hl_t_cpc #[]), ?_⟩, ?_⟩
    · simp only [Jvm.Lib.Cold.isLatin1.spec, Cond.before_and, Bool.and_eq_true]
      exact ⟨hw _ hl_t_cil _, rfl, hw _ hl_t_f38 _, hw _ hl_t_f15 _⟩
    · simp only [Jvm.Lib.Cold.latin1.spec, Cond.before_and, Bool.and_eq_true]
      exact ⟨hw _ hl_t_csl _, rfl, hw _ hl_t_m9 _, hw _ hl_t_ssc _, hw _ hl_t_nstr _⟩
    · rintro (q | q)
      · exact hi q
      · rw [t10] at q
        omega
    · simp only [Jvm.Lib.Cold.checkIndex.spec, Cond.before_and, Bool.and_eq_true]
      exact ⟨hw _ hl_t_csc _, rfl, hw _ hl_t_f1053 _, hw _ hl_t_m1059 _, hw _ hl_t_spc _, hw _ hl_t_npre _⟩
    · simp only [Jvm.Lib.Preconditions.checkIndex.spec, Cond.before_and, Bool.and_eq_true]
      refine ⟨hw _ hl_t_cpc _, rfl, rfl, rfl, hx_isRef z3, ?_, ?_⟩
      · simp [Cond.before, Cond.holds, Cond.value, Term.eval, h0]
      · simp only [Cond.before, Cond.holds, Cond.value, Term.eval]
        simp [hin]
    · simp only [Jvm.Lib.Cold.charAt.spec, Cond.before_and, Bool.and_eq_true]
      exact ⟨hw _ hl_t_cch _, rfl, hx_ex (rest := [.int i]) t4, hw _ hl_t_m492 _, hx_decl (hw _ hl_t_cil _) (hw _ hl_t_iil _), hw _ hl_t_sil _, hw _ hl_t_iil _, hw _ hl_t_f9 _, hw _ hl_t_m495 _, hw _ hl_t_ssl _, hw _ hl_t_nsl1 _, hw _ hl_t_nstr _⟩
theorem hx_ixf_none {x : Int32} : ∀ (bs : List Nat) (k : Nat), (∀ b ∈ bs, ¬ Int32.ofNat b = x) → hc_ixf x bs k = -1
  | [], k, h => rfl
  | b :: bs, k, h => by
    show (match decide (Int32.ofNat b = x) with
      | true => Int32.ofNat k
      | false => hc_ixf x bs (k + 1)) = -1
    rw [decide_eq_false (h b List.mem_cons_self)]
    exact hx_ixf_none bs (k + 1) (fun c hc => h c (List.mem_cons_of_mem _ hc))
theorem hx_ixf_first {f : Nat → Int32} {t x : Int32} : ∀ (bs : List Nat) (k : Nat), (∀ (i b : Nat), bs[i]? = some b → f (k + i) = Int32.ofNat b) → (∀ b ∈ bs, (Int32.ofNat b = t ↔ Int32.ofNat b = x)) → Jvm.Free.SL1IndexOf.Chr.firstIdx f t k bs.length = hc_ixf x bs k
  | [], k, h1, h2 => rfl
  | b :: bs, k, h1, h2 => by
    show (if f k = t then Int32.ofNat k else Jvm.Free.SL1IndexOf.Chr.firstIdx f t (k + 1) bs.length) = (match decide (Int32.ofNat b = x) with
      | true => Int32.ofNat k
      | false => hc_ixf x bs (k + 1))
    have e : f k = Int32.ofNat b := h1 0 b rfl
    rw [e]
    by_cases hb : Int32.ofNat b = t
    · rw [if_pos hb, decide_eq_true ((h2 b List.mem_cons_self).mp hb)]
    · rw [if_neg hb, decide_eq_false (fun q => hb ((h2 b List.mem_cons_self).mpr q))]
      exact hx_ixf_first bs (k + 1) (fun i c hc => by
        have := h1 (i + 1) c (by simpa using hc)
        rwa [show k + (i + 1) = k + 1 + i by omega] at this) (fun c hc => h2 c (List.mem_cons_of_mem _ hc))
theorem hx_byte : ∀ j, j < 256 → (j < 128 ∧ (nI j).toInt8.toInt32 = nI j) ∨ (128 ≤ j ∧ (nI j).toInt8.toInt32 < 0) := by decide +kernel
theorem hx_ans {arr : Cell} {x : Int32} {k : Nat} (h10 : arr.slots.size = (hc_txt k).length) (h11 : ∀ (i b : Nat), (hc_txt k)[i]? = some b → arr.slots[i]? = some (.int (Int32.ofNat b))) : Jvm.Free.SL1IndexOf.Idx.answer arr x 0 arr.slots.size.toInt32 = hc_ixf x (hc_txt k) 0 := by
  have hlo := hx_lo k
  have hl2 := (hx_len31 k).2
  have hpos := (hx_len31 k).1
  unfold Jvm.Free.SL1IndexOf.Idx.answer Jvm.Free.SL1IndexOf.Can.can
  by_cases hx : 0 ≤ x ∧ x ≤ 255
  · rw [if_pos hx, if_neg (by decide)]
    have e1 : Jvm.Free.SL1IndexOf.Idx.lo 0 = 0 := by simp [Jvm.Free.SL1IndexOf.Idx.lo]
    have e2 : Jvm.Free.SL1IndexOf.Idx.hi arr arr.slots.size.toInt32 = arr.slots.size.toInt32 := by simp [Jvm.Free.SL1IndexOf.Idx.hi]
    have e3 : arr.slots.size.toInt32.toNatClampNeg = (hc_txt k).length := by
      rw [h10]
      exact nI_clamp (by omega)
    have e4 : (0 : Int32) < arr.slots.size.toInt32 := by
      apply Int32.lt_iff_toInt_lt.mpr
      rw [h10]
      show (0 : Int) < (nI (hc_txt k).length).toInt
      rw [nI_toInt (by omega)]
      omega
    rw [e1, e2, if_pos e4, e3]
    obtain ⟨j, hj, hxj⟩ := nI_of2 (n := 255) (by decide) (Int32.not_lt.mpr hx.1) hx.2
    have e5 : (0 : Int32).toNatClampNeg = 0 := by decide
    rw [e5, Nat.sub_zero]
    refine hx_ixf_first (hc_txt k) 0 (fun i b hb => ?_) (fun b hb => ?_)
    · rw [Nat.zero_add]
      unfold Jvm.Lib.StringLatin1.equals.intAt
      rw [h11 i b hb]
    · have hb128 := hlo b hb
      rcases hx_byte j (by omega) with ⟨g1, g2⟩ | ⟨g1, g2⟩
      · rw [hxj, g2]
      · have hbi : (Int32.ofNat b).toInt = b := nI_toInt (by omega)
        constructor
        · intro q
          rw [hxj, ← Int32.toInt_inj, hbi] at q
          have := Int32.lt_iff_toInt_lt.mp g2
          have z : (0 : Int32).toInt = 0 := by decide
          omega
        · intro q
          rw [hxj, ← Int32.toInt_inj, hbi, nI_toInt (by omega)] at q
          omega
  · rw [if_neg hx, if_pos rfl]
    refine (hx_ixf_none _ _ (fun b hb q => hx ?_)).symm
    have hb128 := hlo b hb
    have hbi : (Int32.ofNat b).toInt = b := nI_toInt (by omega)
    subst q
    constructor
    · apply Int32.le_iff_toInt_le.mpr
      rw [hbi]
      show (0 : Int) ≤ b
      omega
    · apply Int32.le_iff_toInt_le.mpr
      rw [hbi]
      show (b : Int) ≤ 255
      omega
theorem hx_idx {k fr lo n : Nat} {x : Int32} {hp : hv_H} (hfr : 4 ≤ fr) (hlo : 200 ≤ lo) : hv_C G hc_gw l ⟨"java/lang/String", "indexOf", "(I)I"⟩ Jvm.Free.StrIndexOf.indexOf1B 2 (some .int) fr lo n hp [.retAddr k, .int x] (some (.int (hc_ixf x (hc_txt k) 0))) n hp 0 0 := by
  refine hx_C (A := { g : Nat × Cell // Jvm.Free.SL1IndexOf.Idx.answer g.2 x 0 g.2.slots.size.toInt32 = hc_ixf x (hc_txt k) 0 }) (S := Jvm.Free.StrIndexOf.S1.spec) (Pg := fun g => Jvm.Free.StrIndexOf.S1.P (G.2.2.2 (1000 + hx_k k)) g.1.1 x 1 g.1.2) (fun g => ?_) (by show 4 ≤ fr; omega) (by show 160 ≤ lo; omega) (Nat.le_refl 0) (Nat.le_refl 0) ?_
  · have hm := Jvm.Free.StrIndexOf.S1.met l (G.2.2.2 (1000 + hx_k k)) g.1.1 x 1 g.1.2
    unfold Jvm.Free.StrIndexOf.S1.Q at hm
    rw [g.2] at hm
    exact hm
  · intro s hw hx
    obtain ⟨⟨z1, fmt, z2, z3⟩, ht⟩ := hx.at
    obtain ⟨d, C, arr, t1, t2, t3, t4, t5, t6, t7, t8, t9, t10, t11⟩ := ht k
    have hl2 := (hx_len31 k).2
    refine ⟨⟨(d, arr), hx_ans t10 t11⟩, ⟨rfl, ?_, rfl, hx_val (rest := [.int x, .int 0]) t5, ?_, ⟨rfl, z1, by decide, hx_val (rest := []) t6⟩, ?_, ⟨rfl, hx_val (rest := []) t5, t7, t8, ?_, rfl, z1, by decide, hx_val (rest := []) t6⟩, t9, by rw [t10]; omega, ?_⟩, ?_⟩
    · simp only [Jvm.Free.StrIndexOf.S2.spec, Jvm.Free.SL1IndexOf.Idx.tab, Jvm.Free.SL1IndexOf.Can.tab, Jvm.Free.SL1IndexOf.Chr.tab, Cond.before_and, Bool.and_eq_true]
      exact ⟨hw _ hl_t_ci2 _, rfl, hx_ex (rest := [.int x, .int 0]) t4, hw _ hl_t_m492 _, hx_decl (hw _ hl_t_cil _) (hw _ hl_t_iil _), hw _ hl_t_sil _, hw _ hl_t_iil _, hw _ hl_t_f9 _, hw _ hl_t_m505 _, hx_decl (hw _ hl_t_cln _) (hw _ hl_t_iln _), hw _ hl_t_sln _, hw _ hl_t_iln _, hw _ hl_t_m637 _, hw _ hl_t_six _, ⟨hw _ hl_t_cix _, hw _ hl_t_m88 _, hw _ hl_t_sce _, hw _ hl_t_cce _, hw _ hl_t_m92 _, hw _ hl_t_smx _, hw _ hl_t_cmx _, hw _ hl_t_m38 _, hw _ hl_t_smn _, hw _ hl_t_cmn _, hw _ hl_t_nmt _, hw _ hl_t_m95 _, hw _ hl_t_sic _, hw _ hl_t_cic _⟩, hw _ hl_t_nsl1 _, hw _ hl_t_nstr _⟩
    · simp only [Jvm.Lib.Cold.isLatin1.spec, Cond.before_and, Bool.and_eq_true]
      exact ⟨hw _ hl_t_cil _, rfl, hw _ hl_t_f38 _, hw _ hl_t_f15 _⟩
    · simp only [Jvm.Lib.Cold.length.spec, Cond.before_and, Bool.and_eq_true]
      exact ⟨hw _ hl_t_cln _, rfl, hx_ex (rest := []) t4, hw _ hl_t_f9 _, hw _ hl_t_m335 _, hx_decl (hw _ hl_t_cco _) (hw _ hl_t_ico _), hw _ hl_t_sco _, hw _ hl_t_ico _, hw _ hl_t_nstr _⟩
    · simp only [Jvm.Lib.Cold.coder.spec, Cond.before_and, Bool.and_eq_true]
      exact ⟨hw _ hl_t_cco _, rfl, hw _ hl_t_f38 _, hw _ hl_t_f15 _⟩
    · intro i hi
      have hi' : i < (hc_txt k).length := by rw [← t10]; exact hi
      have := t11 i _ (List.getElem?_eq_getElem hi')
      exact Jvm.Lib.StringLatin1.equals.intAt_spec ⟨_, this⟩
    · simp only [Jvm.Free.StrIndexOf.S1.spec, Cond.before_and, Bool.and_eq_true]
      exact ⟨hw _ hl_t_ci1 _, rfl, hx_ex (rest := [.int x]) t4, hw _ hl_t_m633 _, hx_decl (hw _ hl_t_ci2 _) (hw _ hl_t_ii2 _), hw _ hl_t_si2 _, hw _ hl_t_ii2 _, hw _ hl_t_nstr _⟩
end HXT
section HXW
variable {G : hv_G} {p : Program} {l : Launch} {e : Env} {R : Room} {s : State} {m : MethodId} {args : Array Value} {below : List Frame} {meth : Method} {c : Code} {nL : Nat} {Q : State → Prop} {n : Nat} {hp : hv_H} {cells slots pc : Nat} {lv : List (Nat × Value)} {st : List Value} {Ts : List Cond} {own : String} {cc : ByteArray}
theorem hx_K.lt {G : hv_G} {U : State} (h : hx_K G U) (k : Nat) : G.2.2.2 (1000 + hx_k k) < G.1.1 := by
  obtain ⟨-, z, hz, -, -, -, ht⟩ := h
  obtain ⟨d, C, arr, t1, -⟩ := ht k
  exact Nat.lt_of_lt_of_le (Array.getElem?_eq_some_iff.mp t1).1 hz
theorem hw_ldcT (X : hv_X G p s m args c Ts "HeardNext$Tokens" cc nL) {k : Nat} (hd : decode cc pc = .ok (.ldc (hx_ix k), 2)) (kk : hv_W G p l e R s m args below meth c nL Q n hp cells slots (pc + 2) lv (.retAddr k :: st)) : hv_W G p l e R s m args below meth c nL Q n hp cells slots pc lv st := by
  intro H locs ls h1 h2 h3 h4
  obtain ⟨hx, hb, hml, hown, hts, hK, hB, hbB, hxK, hX⟩ := X
  obtain ⟨r1, r2⟩ := hxK.1 k
  have r2' : (Term.string "HeardNext$Tokens" (hx_ix k)).eval args s none [] s = some (.ref (G.2.2.2 (1000 + hx_k k))) := (Term.string_eval_of_vm rfl).trans r2
  have k1 := kk H locs ls h1 h2 h3 h4
  intro T hT XX
  obtain ⟨t, a1, b1⟩ := k1 T hT XX
  exact ⟨t, XX.ldcString hx (own := "HeardNext$Tokens") (text := hx_tt k) (index := hx_ix k) (a := G.2.2.2 (1000 + hx_k k)) hown r1 r2' rfl (by rw [hb]; exact hd) t a1, b1⟩
theorem hw_callT (X : hv_X G p s m args c Ts own cc nL) {gw : List Cond} {y : MethodName} {bytes : ByteArray} {maxL : Nat} {ret : Option FieldType} {fr lo mc ms ix na n' k : Nat} {hp' : hv_H} {r : Option Value} {as : List Value} (hM : hv_C G gw l y bytes maxL ret fr lo n hp (.retAddr k :: as) r n' hp' mc ms)
    (hd : decode cc pc = .ok (.invokevirtual ix, 3)) (hgw : ∀ w ∈ gw, w ∈ Ts) (hkp : ∀ w ∈ gw, hv_keep w = true) (hcode : Cond.code y bytes maxL ret ∈ gw) (hini : Cond.initialized y.cls ∈ Ts) (hlink : Cond.methodLink own ix y ∈ Ts) (hinst : Cond.instanceMethod y ∈ Ts) (hsel : Cond.selects "java/lang/String" y y ∈ Ts)
    (hy : y.cls ≠ "java/lang/invoke/MethodHandle" ∧ y.cls ≠ "java/lang/invoke/VarHandle") (hna : (parseMethodDescriptor y.desc).map (fun d => d.parameters.length) = some na) (hal : as.length = na) (hfr : fr + 1 ≤ R.frames) (hlo : 8 + (maxL + 11) + lo ≤ R.locals) (hst : (st.map fun v => v.category).sum ≤ 8) (hcc : cells + mc ≤ R.cells) (hss : slots + ms ≤ R.slots)
    (kk : hv_W G p l e R s m args below meth c nL Q n' hp' (cells + mc) (slots + ms) (pc + 3) lv (r.toList ++ st)) : hv_W G p l e R s m args below meth c nL Q n hp cells slots pc lv (as.reverse ++ .retAddr k :: st) := by
  intro H locs ls h1 h2 h3 h4
  have hB := hv_callB X (mc := mc) (ms := ms) hgw hkp hcode hini hlink hy hna hfr hlo
  have hxK := X.2.2.2.2.2.2.2.2.1
  obtain ⟨d, C, arr, t1, t2, t3, -⟩ := hxK.at.2 k
  have t1' : H[G.2.2.2 (1000 + hx_k k)]? = some C := by rw [h2 _ (hxK.lt k)]; exact t1
  refine hw_back (va_runV (As := as.map (hv_v G)) (b := G.2.2.2 (1000 + hx_k k)) (rest := st.map (hv_v G)) ⟨X.1, X.2.1, X.2.2.1, X.2.2.2.1, X.2.2.2.2.1⟩ hM ⟨hB, X.2.2.2.2.1 _ hinst, X.2.2.2.2.1 _ hsel⟩ ⟨hv_blind G n hp _, ⟨C, t1', t2, t3⟩, hv_pre X h1 h2 (.retAddr k :: as)⟩ rfl (by rw [List.length_map]; exact hal) h4.1 ?_ (lv_room (by rw [hv_cats]; exact hst)) hd ⟨hcc, hss⟩) h2 h3 h4 kk
  show List.map (hv_v G) (as.reverse ++ .retAddr k :: st) = _
  rw [List.map_append, List.map_reverse]
  rfl
end HXW
end
section
/-! EACH INSTRUCTION of the tables is the code's, and its operands are resolved as the words say -/
def hc_pv (ty : FieldType) : Bool := match ty with
  | .byte => true
  | .int => true
  | .long => true
  | .boolean => true
  | _ => false
noncomputable def hc_mq (k : Nat) (P : hc_M → Bool) : Bool := match hc_get hm_pg k with
  | some e => P e
  | none => false
def hc_tl (r1 ix : Nat) : Bool := match r1 with
  | 0 => Nat.beq ix 52
  | 1 => Nat.beq ix 56
  | _ => Nat.beq ix 41
noncomputable def hc_ok (oc : Nat) (ini : Bool) (pc : Nat) (ii : Instr) (len r1 r2 : Nat) : Bool := match ii with
  | .iconst z => Nat.beq len 1 && decide (Int32.ofInt z = Int32.ofNat r1)
  | .bipush z => Nat.beq len 2 && decide ((Int8.ofInt z).toInt32 = Int32.ofNat r1)
  | .sipush z => Nat.beq len 3 && decide ((Int16.ofInt z).toInt32 = Int32.ofNat r1)
  | .lconst z => Nat.beq len 1 && decide (Int64.ofNat (z : Nat) = Int64.ofNat r1)
  | .ldc ix => Nat.beq len 2 && match r2 with
    | 0 => hc_m4 hl_CT oc ix r1
    | _ => Nat.beq oc 6 && Nat.beq ix (hx_ix r1)
  | .ldc_w ix => hc_m4 hl_CT oc ix r1 && Nat.beq len 3
  | .ldc2_w ix => hc_m4 hl_CL oc ix r1 && Nat.beq len 3
  | .iload_n k => Nat.beq len 1 && Nat.beq k r1
  | .lload_n k => Nat.beq len 1 && Nat.beq k r1
  | .aload_n k => Nat.beq len 1 && Nat.beq k r1
  | .istore_n k => Nat.beq len 1 && Nat.beq k r1
  | .lstore_n k => Nat.beq len 1 && Nat.beq k r1
  | .astore_n k => Nat.beq len 1 && Nat.beq k r1
  | .iload k => Nat.beq len 2 && Nat.beq k r1
  | .lload k => Nat.beq len 2 && Nat.beq k r1
  | .aload k => Nat.beq len 2 && Nat.beq k r1
  | .istore k => Nat.beq len 2 && Nat.beq k r1
  | .lstore k => Nat.beq len 2 && Nat.beq k r1
  | .astore k => Nat.beq len 2 && Nat.beq k r1
  | .iinc k z => Nat.beq len 3 && (Nat.beq k r1 && decide (Int32.ofInt z = Int32.ofNat r2))
  | .ifCond _ off => Nat.beq len 3 && decide ((pc : Int) + off = (r1 : Int))
  | .if_icmp _ off => Nat.beq len 3 && decide ((pc : Int) + off = (r1 : Int))
  | .goto off => Nat.beq len 3 && decide ((pc : Int) + off = (r1 : Int))
  | .tableswitch _ _ _ _ => true
  | .getfield ix => Nat.beq len 3 && (hc_m5 hl_FL oc ix r1 r2 || hc_m5 hl_FN oc ix r1 r2)
  | .putfield ix => Nat.beq len 3 && ((hc_m5 hl_FL oc ix r1 r2 && !(hc_T r1 r2).2.2.2) || ((hc_m5 hl_FN oc ix r1 r2 && !(hc_T r1 r2).2.2.2) || (hc_m5 hl_FL oc ix r1 r2 && ((hc_T r1 r2).2.2.2 && (ini && decide ((hc_T r1 r2).1 = hc_own oc))))))
  | .new ix => Nat.beq len 3 && hc_m4 hl_NW oc ix r1
  | .newarray ty => Nat.beq len 2 && (decide (hv_tyl[r1]? = some (newarray.typeOf ty)) && hc_pv (newarray.typeOf ty))
  | .anewarray ix => Nat.beq len 3 && hc_m3 hl_AN oc ix
  | .multianewarray ix d => Nat.beq len 4 && (Nat.beq d 2 && hc_m3 hl_MM oc ix)
  | .invokevirtual ix => Nat.beq len 3 && match r2 with
    | 7 => Nat.beq oc 6 && hc_tl r1 ix
    | _ => hc_m5 hl_ML oc ix r1 0 && (hc_m2 hl_SE r1 && (hc_m2 hl_IM r1 && hc_mq r1 (fun e => Nat.ble (e.2.2.2.2.1 + 1) 11)))
  | .invokespecial ix => Nat.beq len 3 && match r2 with
    | 9 => hc_m3 hl_OI oc ix
    | _ => hc_m5 hl_ML oc ix r1 1 && (hc_m2 hl_IM r1 && (decide ((hc_y r1).name = "<init>") && hc_mq r1 (fun e => e.2.2.2.1.isNone)))
  | .invokestatic ix => Nat.beq len 3 && match r2 with
    | 8 => hc_m3 hl_AC oc ix
    | 3 => hc_m4 hl_MN oc ix r1 && hc_m2 hl_ST r1
    | _ => hc_m5 hl_ML oc ix r1 2 && hc_m2 hl_ST r1
  | _ => Nat.beq len 1
def hc_row (P : Nat → hc_I → Bool) : Nat → List (Option hc_I) → Bool
  | _, [] => true
  | b, none :: ch => hc_row P (b + 1) ch
  | b, some I :: ch => P b I && hc_row P (b + 1) ch
def hc_rws (P : Nat → hc_I → Bool) : Nat → hc_K → Bool
  | _, [] => true
  | b, ch :: tb => Nat.ble ch.length 32 && (hc_row P b ch && hc_rws P (b + 32) tb)
theorem hc_row_ok {P : Nat → hc_I → Bool} : ∀ (ch : List (Option hc_I)) (b i : Nat) (I : hc_I), hc_row P b ch = true → ch[i]? = some (some I) → P (b + i) I = true
  | [], b, i, I, _, h => by simp at h
  | none :: ch, b, 0, I, h, hi => by simp at hi
  | none :: ch, b, i + 1, I, h, hi => by
    have := hc_row_ok ch (b + 1) i I h (by simpa using hi)
    rwa [show b + 1 + i = b + (i + 1) by omega] at this
  | some J :: ch, b, 0, I, h, hi => by
    have e : J = I := by simpa using hi
    subst e
    exact (Bool.and_eq_true _ _ ▸ h : _ ∧ _).1
  | some J :: ch, b, i + 1, I, h, hi => by
    have h2 : hc_row P (b + 1) ch = true := (Bool.and_eq_true _ _ ▸ h : _ ∧ _).2
    have := hc_row_ok ch (b + 1) i I h2 (by simpa using hi)
    rwa [show b + 1 + i = b + (i + 1) by omega] at this
theorem hc_rws_ok {P : Nat → hc_I → Bool} : ∀ (tb : hc_K) (b i j : Nat) (ch : List (Option hc_I)) (I : hc_I), hc_rws P b tb = true → tb[i]? = some ch → ch[j]? = some (some I) → P (b + 32 * i + j) I = true
  | [], b, i, j, ch, I, _, h, _ => by simp at h
  | c0 :: tb, b, 0, j, ch, I, h, hi, hj => by
    have e : c0 = ch := by simpa using hi
    subst e
    have h1 : Nat.ble c0.length 32 = true ∧ (hc_row P b c0 && hc_rws P (b + 32) tb) = true := Bool.and_eq_true _ _ ▸ h
    have h2 : hc_row P b c0 = true ∧ hc_rws P (b + 32) tb = true := Bool.and_eq_true _ _ ▸ h1.2
    exact hc_row_ok c0 b j I h2.1 hj
  | c0 :: tb, b, i + 1, j, ch, I, h, hi, hj => by
    have h1 : Nat.ble c0.length 32 = true ∧ (hc_row P b c0 && hc_rws P (b + 32) tb) = true := Bool.and_eq_true _ _ ▸ h
    have h2 : hc_row P b c0 = true ∧ hc_rws P (b + 32) tb = true := Bool.and_eq_true _ _ ▸ h1.2
    have := hc_rws_ok tb (b + 32) i j ch I h2.2 (by simpa using hi) hj
    rwa [show b + 32 + 32 * i + j = b + 32 * (i + 1) + j by omega] at this
theorem hc_tab {P : Nat → hc_I → Bool} {tb : hc_K} (h : hc_rws P 0 tb = true) {pc : Nat} {I : hc_I} (hg : hc_get tb pc = some I) : P pc I = true := by
  unfold hc_get at hg
  split at hg
  · cases hg
  next ch h1 =>
    split at hg
    · cases hg
    next x h2 =>
      subst hg
      rw [hc_nth_eq] at h1 h2
      have := hc_rws_ok tb 0 (pc / 32) (pc % 32) ch I h h1 h2
      rwa [show 0 + 32 * (pc / 32) + pc % 32 = pc by omega] at this
noncomputable def hc_isI0 (y : MethodName) : Bool := decide (y.name = "<init>")
noncomputable def hc_D (bytes : ByteArray) : Nat → hc_I → Bool := fun pc I => decide (decode bytes pc = .ok (I.1, I.2.1))
noncomputable def hc_O (oc : Nat) (ini : Bool) : Nat → hc_I → Bool := fun pc I => hc_ok oc ini pc I.1 I.2.1 I.2.2.1 I.2.2.2
/-- what is known of a method of the tables -/
def hc_MOK (e : hc_M) : Prop := Cond.code e.1 e.2.1 e.2.2.1 e.2.2.2.1 ∈ hc_gw ∧ plainFor e.1 = true ∧ (e.1.cls ≠ "java/lang/invoke/MethodHandle" ∧ e.1.cls ≠ "java/lang/invoke/VarHandle") ∧ Cond.initialized e.1.cls ∈ hc_gw ∧ (parseMethodDescriptor e.1.desc).map (fun d => d.parameters.length) = some e.2.2.2.2.2.1 ∧ hc_own e.2.2.2.2.1 = e.1.cls ∧ hc_rws (hc_D e.2.1) 0 e.2.2.2.2.2.2 = true ∧ hc_rws (hc_O e.2.2.2.2.1 (hc_isI0 e.1)) 0 e.2.2.2.2.2.2 = true ∧ e.2.2.1 ≤ 21
theorem hc_pgAll {P : hc_M → Prop} {pg : List (List (Option hc_M))} (h : ∀ ch ∈ pg, ∀ x ∈ ch, ∀ e, x = some e → P e) {k : Nat} {e : hc_M} (hg : hc_get pg k = some e) : P e := by
  unfold hc_get at hg
  split at hg
  · cases hg
  next ch h1 =>
    split at hg
    · cases hg
    next x h2 =>
      rw [hc_nth_eq] at h1 h2
      exact h ch (List.mem_of_getElem? h1) x (List.mem_of_getElem? h2) e hg
theorem hc_one {P : hc_M → Prop} {e : hc_M} (h : P e) : ∀ e', some e = some e' → P e' := fun e' q => by cases q; exact h
end
section
set_option maxRecDepth 1000000 in
theorem hm_ok0 : hc_MOK hm_m0 := ⟨hc_in (p := 330) rfl rfl, by decide +kernel, by decide +kernel, hc_in (p := 98) (by decide +kernel) rfl, by decide +kernel, by decide +kernel, by decide +kernel, by decide +kernel, by decide +kernel⟩
set_option maxRecDepth 1000000 in
theorem hm_ok1 : hc_MOK hm_m1 := ⟨hc_in (p := 724) rfl rfl, by decide +kernel, by decide +kernel, hc_in (p := 98) (by decide +kernel) rfl, by decide +kernel, by decide +kernel, by decide +kernel, by decide +kernel, by decide +kernel⟩
set_option maxRecDepth 1000000 in
theorem hm_ok2 : hc_MOK hm_m2 := ⟨hc_in (p := 736) rfl rfl, by decide +kernel, by decide +kernel, hc_in (p := 98) (by decide +kernel) rfl, by decide +kernel, by decide +kernel, by decide +kernel, by decide +kernel, by decide +kernel⟩
set_option maxRecDepth 1000000 in
theorem hm_ok3 : hc_MOK hm_m3 := ⟨hc_in (p := 746) rfl rfl, by decide +kernel, by decide +kernel, hc_in (p := 98) (by decide +kernel) rfl, by decide +kernel, by decide +kernel, by decide +kernel, by decide +kernel, by decide +kernel⟩
set_option maxRecDepth 1000000 in
theorem hm_ok4 : hc_MOK hm_m4 := ⟨hc_in (p := 750) rfl rfl, by decide +kernel, by decide +kernel, hc_in (p := 98) (by decide +kernel) rfl, by decide +kernel, by decide +kernel, by decide +kernel, by decide +kernel, by decide +kernel⟩
set_option maxRecDepth 1000000 in
theorem hm_ok5 : hc_MOK hm_m5 := ⟨hc_in (p := 761) rfl rfl, by decide +kernel, by decide +kernel, hc_in (p := 98) (by decide +kernel) rfl, by decide +kernel, by decide +kernel, by decide +kernel, by decide +kernel, by decide +kernel⟩
set_option maxRecDepth 1000000 in
theorem hm_ok6 : hc_MOK hm_m6 := ⟨hc_in (p := 765) rfl rfl, by decide +kernel, by decide +kernel, hc_in (p := 98) (by decide +kernel) rfl, by decide +kernel, by decide +kernel, by decide +kernel, by decide +kernel, by decide +kernel⟩
set_option maxRecDepth 1000000 in
theorem hm_ok7 : hc_MOK hm_m7 := ⟨hc_in (p := 129) rfl rfl, by decide +kernel, by decide +kernel, hc_in (p := 93) (by decide +kernel) rfl, by decide +kernel, by decide +kernel, by decide +kernel, by decide +kernel, by decide +kernel⟩
set_option maxRecDepth 1000000 in
theorem hm_ok8 : hc_MOK hm_m8 := ⟨hc_in (p := 396) rfl rfl, by decide +kernel, by decide +kernel, hc_in (p := 93) (by decide +kernel) rfl, by decide +kernel, by decide +kernel, by decide +kernel, by decide +kernel, by decide +kernel⟩
set_option maxRecDepth 1000000 in
theorem hm_ok9 : hc_MOK hm_m9 := ⟨hc_in (p := 670) rfl rfl, by decide +kernel, by decide +kernel, hc_in (p := 93) (by decide +kernel) rfl, by decide +kernel, by decide +kernel, by decide +kernel, by decide +kernel, by decide +kernel⟩
set_option maxRecDepth 1000000 in
theorem hm_ok10 : hc_MOK hm_m10 := ⟨hc_in (p := 404) rfl rfl, by decide +kernel, by decide +kernel, hc_in (p := 93) (by decide +kernel) rfl, by decide +kernel, by decide +kernel, by decide +kernel, by decide +kernel, by decide +kernel⟩
set_option maxRecDepth 1000000 in
theorem hm_ok11 : hc_MOK hm_m11 := ⟨hc_in (p := 769) rfl rfl, by decide +kernel, by decide +kernel, hc_in (p := 93) (by decide +kernel) rfl, by decide +kernel, by decide +kernel, by decide +kernel, by decide +kernel, by decide +kernel⟩
set_option maxRecDepth 1000000 in
theorem hm_ok12 : hc_MOK hm_m12 := ⟨hc_in (p := 400) rfl rfl, by decide +kernel, by decide +kernel, hc_in (p := 93) (by decide +kernel) rfl, by decide +kernel, by decide +kernel, by decide +kernel, by decide +kernel, by decide +kernel⟩
set_option maxRecDepth 1000000 in
theorem hm_ok13 : hc_MOK hm_m13 := ⟨hc_in (p := 687) rfl rfl, by decide +kernel, by decide +kernel, hc_in (p := 93) (by decide +kernel) rfl, by decide +kernel, by decide +kernel, by decide +kernel, by decide +kernel, by decide +kernel⟩
set_option maxRecDepth 1000000 in
theorem hm_ok14 : hc_MOK hm_m14 := ⟨hc_in (p := 740) rfl rfl, by decide +kernel, by decide +kernel, hc_in (p := 93) (by decide +kernel) rfl, by decide +kernel, by decide +kernel, by decide +kernel, by decide +kernel, by decide +kernel⟩
set_option maxRecDepth 1000000 in
theorem hm_ok15 : hc_MOK hm_m15 := ⟨hc_in (p := 256) rfl rfl, by decide +kernel, by decide +kernel, hc_in (p := 96) (by decide +kernel) rfl, by decide +kernel, by decide +kernel, by decide +kernel, by decide +kernel, by decide +kernel⟩
set_option maxRecDepth 1000000 in
theorem hm_ok16 : hc_MOK hm_m16 := ⟨hc_in (p := 408) rfl rfl, by decide +kernel, by decide +kernel, hc_in (p := 96) (by decide +kernel) rfl, by decide +kernel, by decide +kernel, by decide +kernel, by decide +kernel, by decide +kernel⟩
set_option maxRecDepth 1000000 in
theorem hm_ok17 : hc_MOK hm_m17 := ⟨hc_in (p := 787) rfl rfl, by decide +kernel, by decide +kernel, hc_in (p := 96) (by decide +kernel) rfl, by decide +kernel, by decide +kernel, by decide +kernel, by decide +kernel, by decide +kernel⟩
set_option maxRecDepth 1000000 in
theorem hm_ok18 : hc_MOK hm_m18 := ⟨hc_in (p := 716) rfl rfl, by decide +kernel, by decide +kernel, hc_in (p := 96) (by decide +kernel) rfl, by decide +kernel, by decide +kernel, by decide +kernel, by decide +kernel, by decide +kernel⟩
set_option maxRecDepth 1000000 in
theorem hm_ok19 : hc_MOK hm_m19 := ⟨hc_in (p := 834) rfl rfl, by decide +kernel, by decide +kernel, hc_in (p := 96) (by decide +kernel) rfl, by decide +kernel, by decide +kernel, by decide +kernel, by decide +kernel, by decide +kernel⟩
set_option maxRecDepth 1000000 in
theorem hm_ok20 : hc_MOK hm_m20 := ⟨hc_in (p := 873) rfl rfl, by decide +kernel, by decide +kernel, hc_in (p := 96) (by decide +kernel) rfl, by decide +kernel, by decide +kernel, by decide +kernel, by decide +kernel, by decide +kernel⟩
set_option maxRecDepth 1000000 in
theorem hm_ok21 : hc_MOK hm_m21 := ⟨hc_in (p := 930) rfl rfl, by decide +kernel, by decide +kernel, hc_in (p := 96) (by decide +kernel) rfl, by decide +kernel, by decide +kernel, by decide +kernel, by decide +kernel, by decide +kernel⟩
set_option maxRecDepth 1000000 in
theorem hm_ok22 : hc_MOK hm_m22 := ⟨hc_in (p := 826) rfl rfl, by decide +kernel, by decide +kernel, hc_in (p := 96) (by decide +kernel) rfl, by decide +kernel, by decide +kernel, by decide +kernel, by decide +kernel, by decide +kernel⟩
set_option maxRecDepth 1000000 in
theorem hm_ok23 : hc_MOK hm_m23 := ⟨hc_in (p := 802) rfl rfl, by decide +kernel, by decide +kernel, hc_in (p := 96) (by decide +kernel) rfl, by decide +kernel, by decide +kernel, by decide +kernel, by decide +kernel, by decide +kernel⟩
set_option maxRecDepth 1000000 in
theorem hm_ok24 : hc_MOK hm_m24 := ⟨hc_in (p := 810) rfl rfl, by decide +kernel, by decide +kernel, hc_in (p := 96) (by decide +kernel) rfl, by decide +kernel, by decide +kernel, by decide +kernel, by decide +kernel, by decide +kernel⟩
set_option maxRecDepth 1000000 in
theorem hm_ok25 : hc_MOK hm_m25 := ⟨hc_in (p := 813) rfl rfl, by decide +kernel, by decide +kernel, hc_in (p := 96) (by decide +kernel) rfl, by decide +kernel, by decide +kernel, by decide +kernel, by decide +kernel, by decide +kernel⟩
set_option maxRecDepth 1000000 in
theorem hm_ok26 : hc_MOK hm_m26 := ⟨hc_in (p := 822) rfl rfl, by decide +kernel, by decide +kernel, hc_in (p := 96) (by decide +kernel) rfl, by decide +kernel, by decide +kernel, by decide +kernel, by decide +kernel, by decide +kernel⟩
set_option maxRecDepth 1000000 in
theorem hm_ok27 : hc_MOK hm_m27 := ⟨hc_in (p := 839) rfl rfl, by decide +kernel, by decide +kernel, hc_in (p := 96) (by decide +kernel) rfl, by decide +kernel, by decide +kernel, by decide +kernel, by decide +kernel, by decide +kernel⟩
set_option maxRecDepth 1000000 in
theorem hm_ok28 : hc_MOK hm_m28 := ⟨hc_in (p := 842) rfl rfl, by decide +kernel, by decide +kernel, hc_in (p := 96) (by decide +kernel) rfl, by decide +kernel, by decide +kernel, by decide +kernel, by decide +kernel, by decide +kernel⟩
set_option maxRecDepth 1000000 in
theorem hm_ok29 : hc_MOK hm_m29 := ⟨hc_in (p := 997) rfl rfl, by decide +kernel, by decide +kernel, hc_in (p := 96) (by decide +kernel) rfl, by decide +kernel, by decide +kernel, by decide +kernel, by decide +kernel, by decide +kernel⟩
set_option maxRecDepth 1000000 in
theorem hm_ok30 : hc_MOK hm_m30 := ⟨hc_in (p := 984) rfl rfl, by decide +kernel, by decide +kernel, hc_in (p := 96) (by decide +kernel) rfl, by decide +kernel, by decide +kernel, by decide +kernel, by decide +kernel, by decide +kernel⟩
set_option maxRecDepth 1000000 in
theorem hm_ok31 : hc_MOK hm_m31 := ⟨hc_in (p := 968) rfl rfl, by decide +kernel, by decide +kernel, hc_in (p := 96) (by decide +kernel) rfl, by decide +kernel, by decide +kernel, by decide +kernel, by decide +kernel, by decide +kernel⟩
set_option maxRecDepth 1000000 in
theorem hm_ok32 : hc_MOK hm_m32 := ⟨hc_in (p := 1071) rfl rfl, by decide +kernel, by decide +kernel, hc_in (p := 96) (by decide +kernel) rfl, by decide +kernel, by decide +kernel, by decide +kernel, by decide +kernel, by decide +kernel⟩
set_option maxRecDepth 1000000 in
theorem hm_ok33 : hc_MOK hm_m33 := ⟨hc_in (p := 310) rfl rfl, by decide +kernel, by decide +kernel, hc_in (p := 97) (by decide +kernel) rfl, by decide +kernel, by decide +kernel, by decide +kernel, by decide +kernel, by decide +kernel⟩
set_option maxRecDepth 1000000 in
theorem hm_ok34 : hc_MOK hm_m34 := ⟨hc_in (p := 783) rfl rfl, by decide +kernel, by decide +kernel, hc_in (p := 97) (by decide +kernel) rfl, by decide +kernel, by decide +kernel, by decide +kernel, by decide +kernel, by decide +kernel⟩
set_option maxRecDepth 1000000 in
theorem hm_ok35 : hc_MOK hm_m35 := ⟨hc_in (p := 853) rfl rfl, by decide +kernel, by decide +kernel, hc_in (p := 97) (by decide +kernel) rfl, by decide +kernel, by decide +kernel, by decide +kernel, by decide +kernel, by decide +kernel⟩
set_option maxRecDepth 1000000 in
theorem hm_ok36 : hc_MOK hm_m36 := ⟨hc_in (p := 197) rfl rfl, by decide +kernel, by decide +kernel, hc_in (p := 94) (by decide +kernel) rfl, by decide +kernel, by decide +kernel, by decide +kernel, by decide +kernel, by decide +kernel⟩
set_option maxRecDepth 1000000 in
theorem hm_ok37 : hc_MOK hm_m37 := ⟨hc_in (p := 480) rfl rfl, by decide +kernel, by decide +kernel, hc_in (p := 94) (by decide +kernel) rfl, by decide +kernel, by decide +kernel, by decide +kernel, by decide +kernel, by decide +kernel⟩
set_option maxRecDepth 1000000 in
theorem hm_ok38 : hc_MOK hm_m38 := ⟨hc_in (p := 618) rfl rfl, by decide +kernel, by decide +kernel, hc_in (p := 94) (by decide +kernel) rfl, by decide +kernel, by decide +kernel, by decide +kernel, by decide +kernel, by decide +kernel⟩
set_option maxRecDepth 1000000 in
theorem hm_ok39 : hc_MOK hm_m39 := ⟨hc_in (p := 626) rfl rfl, by decide +kernel, by decide +kernel, hc_in (p := 94) (by decide +kernel) rfl, by decide +kernel, by decide +kernel, by decide +kernel, by decide +kernel, by decide +kernel⟩
end
section
set_option maxRecDepth 1000000 in
theorem hm_ok40 : hc_MOK hm_m40 := ⟨hc_in (p := 638) rfl rfl, by decide +kernel, by decide +kernel, hc_in (p := 94) (by decide +kernel) rfl, by decide +kernel, by decide +kernel, by decide +kernel, by decide +kernel, by decide +kernel⟩
set_option maxRecDepth 1000000 in
theorem hm_ok41 : hc_MOK hm_m41 := ⟨hc_in (p := 630) rfl rfl, by decide +kernel, by decide +kernel, hc_in (p := 94) (by decide +kernel) rfl, by decide +kernel, by decide +kernel, by decide +kernel, by decide +kernel, by decide +kernel⟩
set_option maxRecDepth 1000000 in
theorem hm_ok42 : hc_MOK hm_m42 := ⟨hc_in (p := 649) rfl rfl, by decide +kernel, by decide +kernel, hc_in (p := 94) (by decide +kernel) rfl, by decide +kernel, by decide +kernel, by decide +kernel, by decide +kernel, by decide +kernel⟩
set_option maxRecDepth 1000000 in
theorem hm_ok43 : hc_MOK hm_m43 := ⟨hc_in (p := 642) rfl rfl, by decide +kernel, by decide +kernel, hc_in (p := 94) (by decide +kernel) rfl, by decide +kernel, by decide +kernel, by decide +kernel, by decide +kernel, by decide +kernel⟩
set_option maxRecDepth 1000000 in
theorem hm_ok44 : hc_MOK hm_m44 := ⟨hc_in (p := 634) rfl rfl, by decide +kernel, by decide +kernel, hc_in (p := 94) (by decide +kernel) rfl, by decide +kernel, by decide +kernel, by decide +kernel, by decide +kernel, by decide +kernel⟩
set_option maxRecDepth 1000000 in
theorem hm_ok45 : hc_MOK hm_m45 := ⟨hc_in (p := 622) rfl rfl, by decide +kernel, by decide +kernel, hc_in (p := 94) (by decide +kernel) rfl, by decide +kernel, by decide +kernel, by decide +kernel, by decide +kernel, by decide +kernel⟩
set_option maxRecDepth 1000000 in
theorem hm_ok46 : hc_MOK hm_m46 := ⟨hc_in (p := 657) rfl rfl, by decide +kernel, by decide +kernel, hc_in (p := 94) (by decide +kernel) rfl, by decide +kernel, by decide +kernel, by decide +kernel, by decide +kernel, by decide +kernel⟩
set_option maxRecDepth 1000000 in
theorem hm_ok47 : hc_MOK hm_m47 := ⟨hc_in (p := 692) rfl rfl, by decide +kernel, by decide +kernel, hc_in (p := 94) (by decide +kernel) rfl, by decide +kernel, by decide +kernel, by decide +kernel, by decide +kernel, by decide +kernel⟩
set_option maxRecDepth 1000000 in
theorem hm_ok48 : hc_MOK hm_m48 := ⟨hc_in (p := 696) rfl rfl, by decide +kernel, by decide +kernel, hc_in (p := 94) (by decide +kernel) rfl, by decide +kernel, by decide +kernel, by decide +kernel, by decide +kernel, by decide +kernel⟩
set_option maxRecDepth 1000000 in
theorem hm_ok49 : hc_MOK hm_m49 := ⟨hc_in (p := 666) rfl rfl, by decide +kernel, by decide +kernel, hc_in (p := 94) (by decide +kernel) rfl, by decide +kernel, by decide +kernel, by decide +kernel, by decide +kernel, by decide +kernel⟩
set_option maxRecDepth 1000000 in
theorem hm_ok50 : hc_MOK hm_m50 := ⟨hc_in (p := 674) rfl rfl, by decide +kernel, by decide +kernel, hc_in (p := 94) (by decide +kernel) rfl, by decide +kernel, by decide +kernel, by decide +kernel, by decide +kernel, by decide +kernel⟩
set_option maxRecDepth 1000000 in
theorem hm_ok51 : hc_MOK hm_m51 := ⟨hc_in (p := 678) rfl rfl, by decide +kernel, by decide +kernel, hc_in (p := 94) (by decide +kernel) rfl, by decide +kernel, by decide +kernel, by decide +kernel, by decide +kernel, by decide +kernel⟩
set_option maxRecDepth 1000000 in
theorem hm_ok52 : hc_MOK hm_m52 := ⟨hc_in (p := 682) rfl rfl, by decide +kernel, by decide +kernel, hc_in (p := 94) (by decide +kernel) rfl, by decide +kernel, by decide +kernel, by decide +kernel, by decide +kernel, by decide +kernel⟩
set_option maxRecDepth 1000000 in
theorem hm_ok53 : hc_MOK hm_m53 := ⟨hc_in (p := 123) rfl rfl, by decide +kernel, by decide +kernel, hc_in (p := 92) (by decide +kernel) rfl, by decide +kernel, by decide +kernel, by decide +kernel, by decide +kernel, by decide +kernel⟩
set_option maxRecDepth 1000000 in
theorem hm_ok54 : hc_MOK hm_m54 := ⟨hc_in (p := 389) rfl rfl, by decide +kernel, by decide +kernel, hc_in (p := 92) (by decide +kernel) rfl, by decide +kernel, by decide +kernel, by decide +kernel, by decide +kernel, by decide +kernel⟩
set_option maxRecDepth 1000000 in
theorem hm_ok55 : hc_MOK hm_m55 := ⟨hc_in (p := 653) rfl rfl, by decide +kernel, by decide +kernel, hc_in (p := 92) (by decide +kernel) rfl, by decide +kernel, by decide +kernel, by decide +kernel, by decide +kernel, by decide +kernel⟩
set_option maxRecDepth 1000000 in
theorem hm_ok56 : hc_MOK hm_m56 := ⟨hc_in (p := 661) rfl rfl, by decide +kernel, by decide +kernel, hc_in (p := 92) (by decide +kernel) rfl, by decide +kernel, by decide +kernel, by decide +kernel, by decide +kernel, by decide +kernel⟩
set_option maxRecDepth 1000000 in
theorem hm_ok57 : hc_MOK hm_m57 := ⟨hc_in (p := 203) rfl rfl, by decide +kernel, by decide +kernel, hc_in (p := 95) (by decide +kernel) rfl, by decide +kernel, by decide +kernel, by decide +kernel, by decide +kernel, by decide +kernel⟩
set_option maxRecDepth 1000000 in
theorem hm_ok58 : hc_MOK hm_m58 := ⟨hc_in (p := 485) rfl rfl, by decide +kernel, by decide +kernel, hc_in (p := 95) (by decide +kernel) rfl, by decide +kernel, by decide +kernel, by decide +kernel, by decide +kernel, by decide +kernel⟩
set_option maxRecDepth 1000000 in
theorem hm_ok59 : hc_MOK hm_m59 := ⟨hc_in (p := 488) rfl rfl, by decide +kernel, by decide +kernel, hc_in (p := 95) (by decide +kernel) rfl, by decide +kernel, by decide +kernel, by decide +kernel, by decide +kernel, by decide +kernel⟩
set_option maxRecDepth 1000000 in
theorem hm_ok60 : hc_MOK hm_m60 := ⟨hc_in (p := 492) rfl rfl, by decide +kernel, by decide +kernel, hc_in (p := 95) (by decide +kernel) rfl, by decide +kernel, by decide +kernel, by decide +kernel, by decide +kernel, by decide +kernel⟩
set_option maxRecDepth 1000000 in
theorem hm_ok61 : hc_MOK hm_m61 := ⟨hc_in (p := 496) rfl rfl, by decide +kernel, by decide +kernel, hc_in (p := 95) (by decide +kernel) rfl, by decide +kernel, by decide +kernel, by decide +kernel, by decide +kernel, by decide +kernel⟩
set_option maxRecDepth 1000000 in
theorem hm_ok62 : hc_MOK hm_m62 := ⟨hc_in (p := 499) rfl rfl, by decide +kernel, by decide +kernel, hc_in (p := 95) (by decide +kernel) rfl, by decide +kernel, by decide +kernel, by decide +kernel, by decide +kernel, by decide +kernel⟩
set_option maxRecDepth 1000000 in
theorem hm_ok63 : hc_MOK hm_m63 := ⟨hc_in (p := 552) rfl rfl, by decide +kernel, by decide +kernel, hc_in (p := 95) (by decide +kernel) rfl, by decide +kernel, by decide +kernel, by decide +kernel, by decide +kernel, by decide +kernel⟩
set_option maxRecDepth 1000000 in
theorem hm_ok64 : hc_MOK hm_m64 := ⟨hc_in (p := 371) rfl rfl, by decide +kernel, by decide +kernel, hc_in (p := 100) (by decide +kernel) rfl, by decide +kernel, by decide +kernel, by decide +kernel, by decide +kernel, by decide +kernel⟩
set_option maxRecDepth 1000000 in
theorem hm_ok65 : hc_MOK hm_m65 := ⟨hc_in (p := 1029) rfl rfl, by decide +kernel, by decide +kernel, hc_in (p := 100) (by decide +kernel) rfl, by decide +kernel, by decide +kernel, by decide +kernel, by decide +kernel, by decide +kernel⟩
set_option maxRecDepth 1000000 in
theorem hm_ok66 : hc_MOK hm_m66 := ⟨hc_in (p := 355) rfl rfl, by decide +kernel, by decide +kernel, hc_in (p := 99) (by decide +kernel) rfl, by decide +kernel, by decide +kernel, by decide +kernel, by decide +kernel, by decide +kernel⟩
set_option maxRecDepth 1000000 in
theorem hm_ok67 : hc_MOK hm_m67 := ⟨hc_in (p := 865) rfl rfl, by decide +kernel, by decide +kernel, hc_in (p := 99) (by decide +kernel) rfl, by decide +kernel, by decide +kernel, by decide +kernel, by decide +kernel, by decide +kernel⟩
set_option maxRecDepth 1000000 in
theorem hm_ok68 : hc_MOK hm_m68 := ⟨hc_in (p := 869) rfl rfl, by decide +kernel, by decide +kernel, hc_in (p := 99) (by decide +kernel) rfl, by decide +kernel, by decide +kernel, by decide +kernel, by decide +kernel, by decide +kernel⟩
set_option maxRecDepth 1000000 in
theorem hm_ok69 : hc_MOK hm_m69 := ⟨hc_in (p := 115) rfl rfl, by decide +kernel, by decide +kernel, hc_in (p := 91) (by decide +kernel) rfl, by decide +kernel, by decide +kernel, by decide +kernel, by decide +kernel, by decide +kernel⟩
set_option maxRecDepth 1000000 in
theorem hm_ok70 : hc_MOK hm_m70 := ⟨hc_in (p := 464) rfl rfl, by decide +kernel, by decide +kernel, hc_in (p := 91) (by decide +kernel) rfl, by decide +kernel, by decide +kernel, by decide +kernel, by decide +kernel, by decide +kernel⟩
set_option maxRecDepth 1000000 in
theorem hm_ok71 : hc_MOK hm_m71 := ⟨hc_in (p := 468) rfl rfl, by decide +kernel, by decide +kernel, hc_in (p := 91) (by decide +kernel) rfl, by decide +kernel, by decide +kernel, by decide +kernel, by decide +kernel, by decide +kernel⟩
set_option maxRecDepth 1000000 in
theorem hm_ok72 : hc_MOK hm_m72 := ⟨hc_in (p := 472) rfl rfl, by decide +kernel, by decide +kernel, hc_in (p := 91) (by decide +kernel) rfl, by decide +kernel, by decide +kernel, by decide +kernel, by decide +kernel, by decide +kernel⟩
set_option maxRecDepth 1000000 in
theorem hm_ok73 : hc_MOK hm_m73 := ⟨hc_in (p := 476) rfl rfl, by decide +kernel, by decide +kernel, hc_in (p := 91) (by decide +kernel) rfl, by decide +kernel, by decide +kernel, by decide +kernel, by decide +kernel, by decide +kernel⟩
set_option maxRecDepth 1000000 in
theorem hm_ok74 : hc_MOK hm_m74 := ⟨hc_in (p := 700) rfl rfl, by decide +kernel, by decide +kernel, hc_in (p := 91) (by decide +kernel) rfl, by decide +kernel, by decide +kernel, by decide +kernel, by decide +kernel, by decide +kernel⟩
set_option maxRecDepth 1000000 in
theorem hm_ok75 : hc_MOK hm_m75 := ⟨hc_in (p := 704) rfl rfl, by decide +kernel, by decide +kernel, hc_in (p := 91) (by decide +kernel) rfl, by decide +kernel, by decide +kernel, by decide +kernel, by decide +kernel, by decide +kernel⟩
set_option maxRecDepth 1000000 in
theorem hm_ok76 : hc_MOK hm_m76 := ⟨hc_in (p := 712) rfl rfl, by decide +kernel, by decide +kernel, hc_in (p := 91) (by decide +kernel) rfl, by decide +kernel, by decide +kernel, by decide +kernel, by decide +kernel, by decide +kernel⟩
end
section
set_option maxRecDepth 1000000 in
theorem hm_ok77 : hc_MOK hm_m77 := ⟨hc_in (p := 757) rfl rfl, by decide +kernel, by decide +kernel, hc_in (p := 91) (by decide +kernel) rfl, by decide +kernel, by decide +kernel, by decide +kernel, by decide +kernel, by decide +kernel⟩
set_option maxRecDepth 1000000 in
theorem hm_ok78 : hc_MOK hm_m78 := ⟨hc_in (p := 645) rfl rfl, by decide +kernel, by decide +kernel, hc_in (p := 91) (by decide +kernel) rfl, by decide +kernel, by decide +kernel, by decide +kernel, by decide +kernel, by decide +kernel⟩
set_option maxRecDepth 1000000 in
theorem hm_ok79 : hc_MOK hm_m79 := ⟨hc_in (p := 708) rfl rfl, by decide +kernel, by decide +kernel, hc_in (p := 91) (by decide +kernel) rfl, by decide +kernel, by decide +kernel, by decide +kernel, by decide +kernel, by decide +kernel⟩
set_option maxRecDepth 1000000 in
theorem hm_ok80 : hc_MOK hm_m80 := ⟨hc_in (p := 720) rfl rfl, by decide +kernel, by decide +kernel, hc_in (p := 91) (by decide +kernel) rfl, by decide +kernel, by decide +kernel, by decide +kernel, by decide +kernel, by decide +kernel⟩
set_option maxRecDepth 1000000 in
theorem hm_ok81 : hc_MOK hm_m81 := ⟨hc_in (p := 754) rfl rfl, by decide +kernel, by decide +kernel, hc_in (p := 91) (by decide +kernel) rfl, by decide +kernel, by decide +kernel, by decide +kernel, by decide +kernel, by decide +kernel⟩
set_option maxRecDepth 1000000 in
theorem hm_ok82 : hc_MOK hm_m82 := ⟨hc_in (p := 779) rfl rfl, by decide +kernel, by decide +kernel, hc_in (p := 91) (by decide +kernel) rfl, by decide +kernel, by decide +kernel, by decide +kernel, by decide +kernel, by decide +kernel⟩
set_option maxRecDepth 1000000 in
theorem hm_ok83 : hc_MOK hm_m83 := ⟨hc_in (p := 775) rfl rfl, by decide +kernel, by decide +kernel, hc_in (p := 91) (by decide +kernel) rfl, by decide +kernel, by decide +kernel, by decide +kernel, by decide +kernel, by decide +kernel⟩
set_option maxRecDepth 1000000 in
theorem hm_ok84 : hc_MOK hm_m84 := ⟨hc_in (p := 794) rfl rfl, by decide +kernel, by decide +kernel, hc_in (p := 91) (by decide +kernel) rfl, by decide +kernel, by decide +kernel, by decide +kernel, by decide +kernel, by decide +kernel⟩
set_option maxRecDepth 1000000 in
theorem hm_ok85 : hc_MOK hm_m85 := ⟨hc_in (p := 798) rfl rfl, by decide +kernel, by decide +kernel, hc_in (p := 91) (by decide +kernel) rfl, by decide +kernel, by decide +kernel, by decide +kernel, by decide +kernel, by decide +kernel⟩
set_option maxRecDepth 1000000 in
theorem hm_ok86 : hc_MOK hm_m86 := ⟨hc_in (p := 806) rfl rfl, by decide +kernel, by decide +kernel, hc_in (p := 91) (by decide +kernel) rfl, by decide +kernel, by decide +kernel, by decide +kernel, by decide +kernel, by decide +kernel⟩
set_option maxRecDepth 1000000 in
theorem hm_ok87 : hc_MOK hm_m87 := ⟨hc_in (p := 817) rfl rfl, by decide +kernel, by decide +kernel, hc_in (p := 91) (by decide +kernel) rfl, by decide +kernel, by decide +kernel, by decide +kernel, by decide +kernel, by decide +kernel⟩
set_option maxRecDepth 1000000 in
theorem hm_ok88 : hc_MOK hm_m88 := ⟨hc_in (p := 849) rfl rfl, by decide +kernel, by decide +kernel, hc_in (p := 91) (by decide +kernel) rfl, by decide +kernel, by decide +kernel, by decide +kernel, by decide +kernel, by decide +kernel⟩
set_option maxRecDepth 1000000 in
theorem hm_ok89 : hc_MOK hm_m89 := ⟨hc_in (p := 861) rfl rfl, by decide +kernel, by decide +kernel, hc_in (p := 91) (by decide +kernel) rfl, by decide +kernel, by decide +kernel, by decide +kernel, by decide +kernel, by decide +kernel⟩
set_option maxRecDepth 1000000 in
theorem hm_ok90 : hc_MOK hm_m90 := ⟨hc_in (p := 934) rfl rfl, by decide +kernel, by decide +kernel, hc_in (p := 91) (by decide +kernel) rfl, by decide +kernel, by decide +kernel, by decide +kernel, by decide +kernel, by decide +kernel⟩
set_option maxRecDepth 1000000 in
theorem hm_ok91 : hc_MOK hm_m91 := ⟨hc_in (p := 857) rfl rfl, by decide +kernel, by decide +kernel, hc_in (p := 91) (by decide +kernel) rfl, by decide +kernel, by decide +kernel, by decide +kernel, by decide +kernel, by decide +kernel⟩
set_option maxRecDepth 1000000 in
theorem hm_ok92 : hc_MOK hm_m92 := ⟨hc_in (p := 881) rfl rfl, by decide +kernel, by decide +kernel, hc_in (p := 91) (by decide +kernel) rfl, by decide +kernel, by decide +kernel, by decide +kernel, by decide +kernel, by decide +kernel⟩
set_option maxRecDepth 1000000 in
theorem hm_ok93 : hc_MOK hm_m93 := ⟨hc_in (p := 885) rfl rfl, by decide +kernel, by decide +kernel, hc_in (p := 91) (by decide +kernel) rfl, by decide +kernel, by decide +kernel, by decide +kernel, by decide +kernel, by decide +kernel⟩
set_option maxRecDepth 1000000 in
theorem hm_ok94 : hc_MOK hm_m94 := ⟨hc_in (p := 889) rfl rfl, by decide +kernel, by decide +kernel, hc_in (p := 91) (by decide +kernel) rfl, by decide +kernel, by decide +kernel, by decide +kernel, by decide +kernel, by decide +kernel⟩
set_option maxRecDepth 1000000 in
theorem hm_ok95 : hc_MOK hm_m95 := ⟨hc_in (p := 894) rfl rfl, by decide +kernel, by decide +kernel, hc_in (p := 91) (by decide +kernel) rfl, by decide +kernel, by decide +kernel, by decide +kernel, by decide +kernel, by decide +kernel⟩
set_option maxRecDepth 1000000 in
theorem hm_ok96 : hc_MOK hm_m96 := ⟨hc_in (p := 898) rfl rfl, by decide +kernel, by decide +kernel, hc_in (p := 91) (by decide +kernel) rfl, by decide +kernel, by decide +kernel, by decide +kernel, by decide +kernel, by decide +kernel⟩
set_option maxRecDepth 1000000 in
theorem hm_ok97 : hc_MOK hm_m97 := ⟨hc_in (p := 902) rfl rfl, by decide +kernel, by decide +kernel, hc_in (p := 91) (by decide +kernel) rfl, by decide +kernel, by decide +kernel, by decide +kernel, by decide +kernel, by decide +kernel⟩
set_option maxRecDepth 1000000 in
theorem hm_ok98 : hc_MOK hm_m98 := ⟨hc_in (p := 906) rfl rfl, by decide +kernel, by decide +kernel, hc_in (p := 91) (by decide +kernel) rfl, by decide +kernel, by decide +kernel, by decide +kernel, by decide +kernel, by decide +kernel⟩
set_option maxRecDepth 1000000 in
theorem hm_ok99 : hc_MOK hm_m99 := ⟨hc_in (p := 910) rfl rfl, by decide +kernel, by decide +kernel, hc_in (p := 91) (by decide +kernel) rfl, by decide +kernel, by decide +kernel, by decide +kernel, by decide +kernel, by decide +kernel⟩
set_option maxRecDepth 1000000 in
theorem hm_ok100 : hc_MOK hm_m100 := ⟨hc_in (p := 914) rfl rfl, by decide +kernel, by decide +kernel, hc_in (p := 91) (by decide +kernel) rfl, by decide +kernel, by decide +kernel, by decide +kernel, by decide +kernel, by decide +kernel⟩
set_option maxRecDepth 1000000 in
theorem hm_ok101 : hc_MOK hm_m101 := ⟨hc_in (p := 918) rfl rfl, by decide +kernel, by decide +kernel, hc_in (p := 91) (by decide +kernel) rfl, by decide +kernel, by decide +kernel, by decide +kernel, by decide +kernel, by decide +kernel⟩
set_option maxRecDepth 1000000 in
theorem hm_ok102 : hc_MOK hm_m102 := ⟨hc_in (p := 922) rfl rfl, by decide +kernel, by decide +kernel, hc_in (p := 91) (by decide +kernel) rfl, by decide +kernel, by decide +kernel, by decide +kernel, by decide +kernel, by decide +kernel⟩
set_option maxRecDepth 1000000 in
theorem hm_ok103 : hc_MOK hm_m103 := ⟨hc_in (p := 926) rfl rfl, by decide +kernel, by decide +kernel, hc_in (p := 91) (by decide +kernel) rfl, by decide +kernel, by decide +kernel, by decide +kernel, by decide +kernel, by decide +kernel⟩
set_option maxRecDepth 1000000 in
theorem hm_ok104 : hc_MOK hm_m104 := ⟨hc_in (p := 939) rfl rfl, by decide +kernel, by decide +kernel, hc_in (p := 91) (by decide +kernel) rfl, by decide +kernel, by decide +kernel, by decide +kernel, by decide +kernel, by decide +kernel⟩
set_option maxRecDepth 1000000 in
theorem hm_ok105 : hc_MOK hm_m105 := ⟨hc_in (p := 943) rfl rfl, by decide +kernel, by decide +kernel, hc_in (p := 91) (by decide +kernel) rfl, by decide +kernel, by decide +kernel, by decide +kernel, by decide +kernel, by decide +kernel⟩
set_option maxRecDepth 1000000 in
theorem hm_ok106 : hc_MOK hm_m106 := ⟨hc_in (p := 947) rfl rfl, by decide +kernel, by decide +kernel, hc_in (p := 91) (by decide +kernel) rfl, by decide +kernel, by decide +kernel, by decide +kernel, by decide +kernel, by decide +kernel⟩
set_option maxRecDepth 1000000 in
theorem hm_ok107 : hc_MOK hm_m107 := ⟨hc_in (p := 964) rfl rfl, by decide +kernel, by decide +kernel, hc_in (p := 91) (by decide +kernel) rfl, by decide +kernel, by decide +kernel, by decide +kernel, by decide +kernel, by decide +kernel⟩
set_option maxRecDepth 1000000 in
theorem hm_ok108 : hc_MOK hm_m108 := ⟨hc_in (p := 951) rfl rfl, by decide +kernel, by decide +kernel, hc_in (p := 91) (by decide +kernel) rfl, by decide +kernel, by decide +kernel, by decide +kernel, by decide +kernel, by decide +kernel⟩
set_option maxRecDepth 1000000 in
theorem hm_ok109 : hc_MOK hm_m109 := ⟨hc_in (p := 955) rfl rfl, by decide +kernel, by decide +kernel, hc_in (p := 91) (by decide +kernel) rfl, by decide +kernel, by decide +kernel, by decide +kernel, by decide +kernel, by decide +kernel⟩
set_option maxRecDepth 1000000 in
theorem hm_ok110 : hc_MOK hm_m110 := ⟨hc_in (p := 960) rfl rfl, by decide +kernel, by decide +kernel, hc_in (p := 91) (by decide +kernel) rfl, by decide +kernel, by decide +kernel, by decide +kernel, by decide +kernel, by decide +kernel⟩
set_option maxRecDepth 1000000 in
theorem hm_ok111 : hc_MOK hm_m111 := ⟨hc_in (p := 972) rfl rfl, by decide +kernel, by decide +kernel, hc_in (p := 91) (by decide +kernel) rfl, by decide +kernel, by decide +kernel, by decide +kernel, by decide +kernel, by decide +kernel⟩
set_option maxRecDepth 1000000 in
theorem hm_ok112 : hc_MOK hm_m112 := ⟨hc_in (p := 976) rfl rfl, by decide +kernel, by decide +kernel, hc_in (p := 91) (by decide +kernel) rfl, by decide +kernel, by decide +kernel, by decide +kernel, by decide +kernel, by decide +kernel⟩
set_option maxRecDepth 1000000 in
theorem hm_ok113 : hc_MOK hm_m113 := ⟨hc_in (p := 980) rfl rfl, by decide +kernel, by decide +kernel, hc_in (p := 91) (by decide +kernel) rfl, by decide +kernel, by decide +kernel, by decide +kernel, by decide +kernel, by decide +kernel⟩
set_option maxRecDepth 1000000 in
theorem hm_ok114 : hc_MOK hm_m114 := ⟨hc_in (p := 989) rfl rfl, by decide +kernel, by decide +kernel, hc_in (p := 91) (by decide +kernel) rfl, by decide +kernel, by decide +kernel, by decide +kernel, by decide +kernel, by decide +kernel⟩
set_option maxRecDepth 1000000 in
theorem hm_ok115 : hc_MOK hm_m115 := ⟨hc_in (p := 993) rfl rfl, by decide +kernel, by decide +kernel, hc_in (p := 91) (by decide +kernel) rfl, by decide +kernel, by decide +kernel, by decide +kernel, by decide +kernel, by decide +kernel⟩
set_option maxRecDepth 1000000 in
theorem hm_ok116 : hc_MOK hm_m116 := ⟨hc_in (p := 1001) rfl rfl, by decide +kernel, by decide +kernel, hc_in (p := 91) (by decide +kernel) rfl, by decide +kernel, by decide +kernel, by decide +kernel, by decide +kernel, by decide +kernel⟩
end
section
set_option maxRecDepth 1000000 in
theorem hm_ok117 : hc_MOK hm_m117 := ⟨hc_in (p := 1005) rfl rfl, by decide +kernel, by decide +kernel, hc_in (p := 91) (by decide +kernel) rfl, by decide +kernel, by decide +kernel, by decide +kernel, by decide +kernel, by decide +kernel⟩
set_option maxRecDepth 1000000 in
theorem hm_ok118 : hc_MOK hm_m118 := ⟨hc_in (p := 1009) rfl rfl, by decide +kernel, by decide +kernel, hc_in (p := 91) (by decide +kernel) rfl, by decide +kernel, by decide +kernel, by decide +kernel, by decide +kernel, by decide +kernel⟩
set_option maxRecDepth 1000000 in
theorem hm_ok119 : hc_MOK hm_m119 := ⟨hc_in (p := 1013) rfl rfl, by decide +kernel, by decide +kernel, hc_in (p := 91) (by decide +kernel) rfl, by decide +kernel, by decide +kernel, by decide +kernel, by decide +kernel, by decide +kernel⟩
set_option maxRecDepth 1000000 in
theorem hm_ok120 : hc_MOK hm_m120 := ⟨hc_in (p := 1017) rfl rfl, by decide +kernel, by decide +kernel, hc_in (p := 91) (by decide +kernel) rfl, by decide +kernel, by decide +kernel, by decide +kernel, by decide +kernel, by decide +kernel⟩
set_option maxRecDepth 1000000 in
theorem hm_ok121 : hc_MOK hm_m121 := ⟨hc_in (p := 1021) rfl rfl, by decide +kernel, by decide +kernel, hc_in (p := 91) (by decide +kernel) rfl, by decide +kernel, by decide +kernel, by decide +kernel, by decide +kernel, by decide +kernel⟩
set_option maxRecDepth 1000000 in
theorem hm_ok122 : hc_MOK hm_m122 := ⟨hc_in (p := 1025) rfl rfl, by decide +kernel, by decide +kernel, hc_in (p := 91) (by decide +kernel) rfl, by decide +kernel, by decide +kernel, by decide +kernel, by decide +kernel, by decide +kernel⟩
set_option maxRecDepth 1000000 in
theorem hm_ok123 : hc_MOK hm_m123 := ⟨hc_in (p := 1033) rfl rfl, by decide +kernel, by decide +kernel, hc_in (p := 91) (by decide +kernel) rfl, by decide +kernel, by decide +kernel, by decide +kernel, by decide +kernel, by decide +kernel⟩
set_option maxRecDepth 1000000 in
theorem hm_ok124 : hc_MOK hm_m124 := ⟨hc_in (p := 1041) rfl rfl, by decide +kernel, by decide +kernel, hc_in (p := 91) (by decide +kernel) rfl, by decide +kernel, by decide +kernel, by decide +kernel, by decide +kernel, by decide +kernel⟩
set_option maxRecDepth 1000000 in
theorem hm_ok125 : hc_MOK hm_m125 := ⟨hc_in (p := 1037) rfl rfl, by decide +kernel, by decide +kernel, hc_in (p := 91) (by decide +kernel) rfl, by decide +kernel, by decide +kernel, by decide +kernel, by decide +kernel, by decide +kernel⟩
set_option maxRecDepth 1000000 in
theorem hm_ok126 : hc_MOK hm_m126 := ⟨hc_in (p := 1045) rfl rfl, by decide +kernel, by decide +kernel, hc_in (p := 91) (by decide +kernel) rfl, by decide +kernel, by decide +kernel, by decide +kernel, by decide +kernel, by decide +kernel⟩
set_option maxRecDepth 1000000 in
theorem hm_ok127 : hc_MOK hm_m127 := ⟨hc_in (p := 1049) rfl rfl, by decide +kernel, by decide +kernel, hc_in (p := 91) (by decide +kernel) rfl, by decide +kernel, by decide +kernel, by decide +kernel, by decide +kernel, by decide +kernel⟩
set_option maxRecDepth 1000000 in
theorem hm_ok128 : hc_MOK hm_m128 := ⟨hc_in (p := 1054) rfl rfl, by decide +kernel, by decide +kernel, hc_in (p := 91) (by decide +kernel) rfl, by decide +kernel, by decide +kernel, by decide +kernel, by decide +kernel, by decide +kernel⟩
set_option maxRecDepth 1000000 in
theorem hm_ok129 : hc_MOK hm_m129 := ⟨hc_in (p := 1058) rfl rfl, by decide +kernel, by decide +kernel, hc_in (p := 91) (by decide +kernel) rfl, by decide +kernel, by decide +kernel, by decide +kernel, by decide +kernel, by decide +kernel⟩
set_option maxRecDepth 1000000 in
theorem hm_ok130 : hc_MOK hm_m130 := ⟨hc_in (p := 1062) rfl rfl, by decide +kernel, by decide +kernel, hc_in (p := 91) (by decide +kernel) rfl, by decide +kernel, by decide +kernel, by decide +kernel, by decide +kernel, by decide +kernel⟩
set_option maxRecDepth 1000000 in
theorem hm_ok131 : hc_MOK hm_m131 := ⟨hc_in (p := 1067) rfl rfl, by decide +kernel, by decide +kernel, hc_in (p := 91) (by decide +kernel) rfl, by decide +kernel, by decide +kernel, by decide +kernel, by decide +kernel, by decide +kernel⟩
set_option maxRecDepth 1000000 in
theorem hm_ok132 : hc_MOK hm_m132 := ⟨hc_in (p := 1076) rfl rfl, by decide +kernel, by decide +kernel, hc_in (p := 102) (by decide +kernel) rfl, by decide +kernel, by decide +kernel, by decide +kernel, by decide +kernel, by decide +kernel⟩
set_option maxRecDepth 1000000 in
theorem hm_ok133 : hc_MOK hm_m133 := ⟨hc_in (p := 1293) rfl rfl, by decide +kernel, by decide +kernel, hc_in (p := 102) (by decide +kernel) rfl, by decide +kernel, by decide +kernel, by decide +kernel, by decide +kernel, by decide +kernel⟩
set_option maxRecDepth 1000000 in
theorem hm_ok134 : hc_MOK hm_m134 := ⟨hc_in (p := 1297) rfl rfl, by decide +kernel, by decide +kernel, hc_in (p := 102) (by decide +kernel) rfl, by decide +kernel, by decide +kernel, by decide +kernel, by decide +kernel, by decide +kernel⟩
set_option maxRecDepth 1000000 in
theorem hm_ok135 : hc_MOK hm_m135 := ⟨hc_in (p := 1301) rfl rfl, by decide +kernel, by decide +kernel, hc_in (p := 102) (by decide +kernel) rfl, by decide +kernel, by decide +kernel, by decide +kernel, by decide +kernel, by decide +kernel⟩
set_option maxRecDepth 1000000 in
theorem hm_ok136 : hc_MOK hm_m136 := ⟨hc_in (p := 1313) rfl rfl, by decide +kernel, by decide +kernel, hc_in (p := 102) (by decide +kernel) rfl, by decide +kernel, by decide +kernel, by decide +kernel, by decide +kernel, by decide +kernel⟩
set_option maxRecDepth 1000000 in
theorem hm_ok137 : hc_MOK hm_m137 := ⟨hc_in (p := 1323) rfl rfl, by decide +kernel, by decide +kernel, hc_in (p := 102) (by decide +kernel) rfl, by decide +kernel, by decide +kernel, by decide +kernel, by decide +kernel, by decide +kernel⟩
set_option maxRecDepth 1000000 in
theorem hm_ok138 : hc_MOK hm_m138 := ⟨hc_in (p := 1320) rfl rfl, by decide +kernel, by decide +kernel, hc_in (p := 102) (by decide +kernel) rfl, by decide +kernel, by decide +kernel, by decide +kernel, by decide +kernel, by decide +kernel⟩
set_option maxRecDepth 1000000 in
theorem hm_ok139 : hc_MOK hm_m139 := ⟨hc_in (p := 1087) rfl rfl, by decide +kernel, by decide +kernel, hc_in (p := 102) (by decide +kernel) rfl, by decide +kernel, by decide +kernel, by decide +kernel, by decide +kernel, by decide +kernel⟩
set_option maxRecDepth 1000000 in
theorem hm_ok140 : hc_MOK hm_m140 := ⟨hc_in (p := 1084) rfl rfl, by decide +kernel, by decide +kernel, hc_in (p := 102) (by decide +kernel) rfl, by decide +kernel, by decide +kernel, by decide +kernel, by decide +kernel, by decide +kernel⟩
set_option maxRecDepth 1000000 in
theorem hm_ok141 : hc_MOK hm_m141 := ⟨hc_in (p := 1317) rfl rfl, by decide +kernel, by decide +kernel, hc_in (p := 102) (by decide +kernel) rfl, by decide +kernel, by decide +kernel, by decide +kernel, by decide +kernel, by decide +kernel⟩
set_option maxRecDepth 1000000 in
theorem hm_ok142 : hc_MOK hm_m142 := ⟨hc_in (p := 1309) rfl rfl, by decide +kernel, by decide +kernel, hc_in (p := 102) (by decide +kernel) rfl, by decide +kernel, by decide +kernel, by decide +kernel, by decide +kernel, by decide +kernel⟩
end
section
set_option maxRecDepth 1000000 in
theorem hm_ok143 : hc_MOK hm_m143 := ⟨hc_in (p := 1327) rfl rfl, by decide +kernel, by decide +kernel, hc_in (p := 102) (by decide +kernel) rfl, by decide +kernel, by decide +kernel, by decide +kernel, by decide +kernel, by decide +kernel⟩
set_option maxRecDepth 1000000 in
theorem hm_ok144 : hc_MOK hm_m144 := ⟨hc_in (p := 1331) rfl rfl, by decide +kernel, by decide +kernel, hc_in (p := 102) (by decide +kernel) rfl, by decide +kernel, by decide +kernel, by decide +kernel, by decide +kernel, by decide +kernel⟩
set_option maxRecDepth 1000000 in
theorem hm_ok145 : hc_MOK hm_m145 := ⟨hc_in (p := 1343) rfl rfl, by decide +kernel, by decide +kernel, hc_in (p := 102) (by decide +kernel) rfl, by decide +kernel, by decide +kernel, by decide +kernel, by decide +kernel, by decide +kernel⟩
set_option maxRecDepth 1000000 in
theorem hm_ok146 : hc_MOK hm_m146 := ⟨hc_in (p := 1359) rfl rfl, by decide +kernel, by decide +kernel, hc_in (p := 102) (by decide +kernel) rfl, by decide +kernel, by decide +kernel, by decide +kernel, by decide +kernel, by decide +kernel⟩
set_option maxRecDepth 1000000 in
theorem hm_ok147 : hc_MOK hm_m147 := ⟨hc_in (p := 1347) rfl rfl, by decide +kernel, by decide +kernel, hc_in (p := 102) (by decide +kernel) rfl, by decide +kernel, by decide +kernel, by decide +kernel, by decide +kernel, by decide +kernel⟩
set_option maxRecDepth 1000000 in
theorem hm_ok148 : hc_MOK hm_m148 := ⟨hc_in (p := 1355) rfl rfl, by decide +kernel, by decide +kernel, hc_in (p := 102) (by decide +kernel) rfl, by decide +kernel, by decide +kernel, by decide +kernel, by decide +kernel, by decide +kernel⟩
set_option maxRecDepth 1000000 in
theorem hm_ok149 : hc_MOK hm_m149 := ⟨hc_in (p := 1081) rfl rfl, by decide +kernel, by decide +kernel, hc_in (p := 102) (by decide +kernel) rfl, by decide +kernel, by decide +kernel, by decide +kernel, by decide +kernel, by decide +kernel⟩
set_option maxRecDepth 1000000 in
theorem hm_ok150 : hc_MOK hm_m150 := ⟨hc_in (p := 1305) rfl rfl, by decide +kernel, by decide +kernel, hc_in (p := 102) (by decide +kernel) rfl, by decide +kernel, by decide +kernel, by decide +kernel, by decide +kernel, by decide +kernel⟩
set_option maxRecDepth 1000000 in
theorem hm_ok151 : hc_MOK hm_m151 := ⟨hc_in (p := 1395) rfl rfl, by decide +kernel, by decide +kernel, hc_in (p := 102) (by decide +kernel) rfl, by decide +kernel, by decide +kernel, by decide +kernel, by decide +kernel, by decide +kernel⟩
set_option maxRecDepth 1000000 in
theorem hm_ok152 : hc_MOK hm_m152 := ⟨hc_in (p := 1339) rfl rfl, by decide +kernel, by decide +kernel, hc_in (p := 102) (by decide +kernel) rfl, by decide +kernel, by decide +kernel, by decide +kernel, by decide +kernel, by decide +kernel⟩
set_option maxRecDepth 1000000 in
theorem hm_ok153 : hc_MOK hm_m153 := ⟨hc_in (p := 1367) rfl rfl, by decide +kernel, by decide +kernel, hc_in (p := 102) (by decide +kernel) rfl, by decide +kernel, by decide +kernel, by decide +kernel, by decide +kernel, by decide +kernel⟩
set_option maxRecDepth 1000000 in
theorem hm_ok154 : hc_MOK hm_m154 := ⟨hc_in (p := 1335) rfl rfl, by decide +kernel, by decide +kernel, hc_in (p := 102) (by decide +kernel) rfl, by decide +kernel, by decide +kernel, by decide +kernel, by decide +kernel, by decide +kernel⟩
set_option maxRecDepth 1000000 in
theorem hm_ok155 : hc_MOK hm_m155 := ⟨hc_in (p := 1363) rfl rfl, by decide +kernel, by decide +kernel, hc_in (p := 102) (by decide +kernel) rfl, by decide +kernel, by decide +kernel, by decide +kernel, by decide +kernel, by decide +kernel⟩
set_option maxRecDepth 1000000 in
theorem hm_ok156 : hc_MOK hm_m156 := ⟨hc_in (p := 1351) rfl rfl, by decide +kernel, by decide +kernel, hc_in (p := 102) (by decide +kernel) rfl, by decide +kernel, by decide +kernel, by decide +kernel, by decide +kernel, by decide +kernel⟩
set_option maxRecDepth 1000000 in
theorem hm_ok157 : hc_MOK hm_m157 := ⟨hc_in (p := 1371) rfl rfl, by decide +kernel, by decide +kernel, hc_in (p := 102) (by decide +kernel) rfl, by decide +kernel, by decide +kernel, by decide +kernel, by decide +kernel, by decide +kernel⟩
set_option maxRecDepth 1000000 in
theorem hm_ok158 : hc_MOK hm_m158 := ⟨hc_in (p := 1391) rfl rfl, by decide +kernel, by decide +kernel, hc_in (p := 102) (by decide +kernel) rfl, by decide +kernel, by decide +kernel, by decide +kernel, by decide +kernel, by decide +kernel⟩
set_option maxRecDepth 1000000 in
theorem hm_ok159 : hc_MOK hm_m159 := ⟨hc_in (p := 1383) rfl rfl, by decide +kernel, by decide +kernel, hc_in (p := 102) (by decide +kernel) rfl, by decide +kernel, by decide +kernel, by decide +kernel, by decide +kernel, by decide +kernel⟩
set_option maxRecDepth 1000000 in
theorem hm_ok160 : hc_MOK hm_m160 := ⟨hc_in (p := 1387) rfl rfl, by decide +kernel, by decide +kernel, hc_in (p := 102) (by decide +kernel) rfl, by decide +kernel, by decide +kernel, by decide +kernel, by decide +kernel, by decide +kernel⟩
set_option maxRecDepth 1000000 in
theorem hm_ok161 : hc_MOK hm_m161 := ⟨hc_in (p := 1375) rfl rfl, by decide +kernel, by decide +kernel, hc_in (p := 102) (by decide +kernel) rfl, by decide +kernel, by decide +kernel, by decide +kernel, by decide +kernel, by decide +kernel⟩
set_option maxRecDepth 1000000 in
theorem hm_ok162 : hc_MOK hm_m162 := ⟨hc_in (p := 1379) rfl rfl, by decide +kernel, by decide +kernel, hc_in (p := 102) (by decide +kernel) rfl, by decide +kernel, by decide +kernel, by decide +kernel, by decide +kernel, by decide +kernel⟩
set_option maxRecDepth 1000000 in
theorem hm_ok163 : hc_MOK hm_m163 := ⟨hc_in (p := 1429) rfl rfl, by decide +kernel, by decide +kernel, hc_in (p := 102) (by decide +kernel) rfl, by decide +kernel, by decide +kernel, by decide +kernel, by decide +kernel, by decide +kernel⟩
set_option maxRecDepth 1000000 in
theorem hm_ok164 : hc_MOK hm_m164 := ⟨hc_in (p := 1406) rfl rfl, by decide +kernel, by decide +kernel, hc_in (p := 102) (by decide +kernel) rfl, by decide +kernel, by decide +kernel, by decide +kernel, by decide +kernel, by decide +kernel⟩
set_option maxRecDepth 1000000 in
theorem hm_ok165 : hc_MOK hm_m165 := ⟨hc_in (p := 1432) rfl rfl, by decide +kernel, by decide +kernel, hc_in (p := 102) (by decide +kernel) rfl, by decide +kernel, by decide +kernel, by decide +kernel, by decide +kernel, by decide +kernel⟩
set_option maxRecDepth 1000000 in
theorem hm_ok166 : hc_MOK hm_m166 := ⟨hc_in (p := 1413) rfl rfl, by decide +kernel, by decide +kernel, hc_in (p := 102) (by decide +kernel) rfl, by decide +kernel, by decide +kernel, by decide +kernel, by decide +kernel, by decide +kernel⟩
set_option maxRecDepth 1000000 in
theorem hm_ok167 : hc_MOK hm_m167 := ⟨hc_in (p := 1403) rfl rfl, by decide +kernel, by decide +kernel, hc_in (p := 102) (by decide +kernel) rfl, by decide +kernel, by decide +kernel, by decide +kernel, by decide +kernel, by decide +kernel⟩
set_option maxRecDepth 1000000 in
theorem hm_ok168 : hc_MOK hm_m168 := ⟨hc_in (p := 1447) rfl rfl, by decide +kernel, by decide +kernel, hc_in (p := 102) (by decide +kernel) rfl, by decide +kernel, by decide +kernel, by decide +kernel, by decide +kernel, by decide +kernel⟩
set_option maxRecDepth 1000000 in
theorem hm_ok169 : hc_MOK hm_m169 := ⟨hc_in (p := 1092) rfl rfl, by decide +kernel, by decide +kernel, hc_in (p := 102) (by decide +kernel) rfl, by decide +kernel, by decide +kernel, by decide +kernel, by decide +kernel, by decide +kernel⟩
set_option maxRecDepth 1000000 in
theorem hm_ok170 : hc_MOK hm_m170 := ⟨hc_in (p := 1096) rfl rfl, by decide +kernel, by decide +kernel, hc_in (p := 102) (by decide +kernel) rfl, by decide +kernel, by decide +kernel, by decide +kernel, by decide +kernel, by decide +kernel⟩
set_option maxRecDepth 1000000 in
theorem hm_ok171 : hc_MOK hm_m171 := ⟨hc_in (p := 1410) rfl rfl, by decide +kernel, by decide +kernel, hc_in (p := 102) (by decide +kernel) rfl, by decide +kernel, by decide +kernel, by decide +kernel, by decide +kernel, by decide +kernel⟩
set_option maxRecDepth 1000000 in
theorem hm_ok172 : hc_MOK hm_m172 := ⟨hc_in (p := 1601) rfl rfl, by decide +kernel, by decide +kernel, hc_in (p := 102) (by decide +kernel) rfl, by decide +kernel, by decide +kernel, by decide +kernel, by decide +kernel, by decide +kernel⟩
set_option maxRecDepth 1000000 in
theorem hm_ok173 : hc_MOK hm_m173 := ⟨hc_in (p := 1509) rfl rfl, by decide +kernel, by decide +kernel, hc_in (p := 102) (by decide +kernel) rfl, by decide +kernel, by decide +kernel, by decide +kernel, by decide +kernel, by decide +kernel⟩
set_option maxRecDepth 1000000 in
theorem hm_ok174 : hc_MOK hm_m174 := ⟨hc_in (p := 1506) rfl rfl, by decide +kernel, by decide +kernel, hc_in (p := 102) (by decide +kernel) rfl, by decide +kernel, by decide +kernel, by decide +kernel, by decide +kernel, by decide +kernel⟩
set_option maxRecDepth 1000000 in
theorem hm_ok175 : hc_MOK hm_m175 := ⟨hc_in (p := 1421) rfl rfl, by decide +kernel, by decide +kernel, hc_in (p := 102) (by decide +kernel) rfl, by decide +kernel, by decide +kernel, by decide +kernel, by decide +kernel, by decide +kernel⟩
end
section
set_option maxRecDepth 1000000 in
theorem hm_ok176 : hc_MOK hm_m176 := ⟨hc_in (p := 1425) rfl rfl, by decide +kernel, by decide +kernel, hc_in (p := 102) (by decide +kernel) rfl, by decide +kernel, by decide +kernel, by decide +kernel, by decide +kernel, by decide +kernel⟩
set_option maxRecDepth 1000000 in
theorem hm_ok177 : hc_MOK hm_m177 := ⟨hc_in (p := 1455) rfl rfl, by decide +kernel, by decide +kernel, hc_in (p := 102) (by decide +kernel) rfl, by decide +kernel, by decide +kernel, by decide +kernel, by decide +kernel, by decide +kernel⟩
set_option maxRecDepth 1000000 in
theorem hm_ok178 : hc_MOK hm_m178 := ⟨hc_in (p := 1417) rfl rfl, by decide +kernel, by decide +kernel, hc_in (p := 102) (by decide +kernel) rfl, by decide +kernel, by decide +kernel, by decide +kernel, by decide +kernel, by decide +kernel⟩
set_option maxRecDepth 1000000 in
theorem hm_ok179 : hc_MOK hm_m179 := ⟨hc_in (p := 1436) rfl rfl, by decide +kernel, by decide +kernel, hc_in (p := 102) (by decide +kernel) rfl, by decide +kernel, by decide +kernel, by decide +kernel, by decide +kernel, by decide +kernel⟩
set_option maxRecDepth 1000000 in
theorem hm_ok180 : hc_MOK hm_m180 := ⟨hc_in (p := 1440) rfl rfl, by decide +kernel, by decide +kernel, hc_in (p := 102) (by decide +kernel) rfl, by decide +kernel, by decide +kernel, by decide +kernel, by decide +kernel, by decide +kernel⟩
set_option maxRecDepth 1000000 in
theorem hm_ok181 : hc_MOK hm_m181 := ⟨hc_in (p := 1451) rfl rfl, by decide +kernel, by decide +kernel, hc_in (p := 102) (by decide +kernel) rfl, by decide +kernel, by decide +kernel, by decide +kernel, by decide +kernel, by decide +kernel⟩
set_option maxRecDepth 1000000 in
theorem hm_ok182 : hc_MOK hm_m182 := ⟨hc_in (p := 1498) rfl rfl, by decide +kernel, by decide +kernel, hc_in (p := 102) (by decide +kernel) rfl, by decide +kernel, by decide +kernel, by decide +kernel, by decide +kernel, by decide +kernel⟩
set_option maxRecDepth 1000000 in
theorem hm_ok183 : hc_MOK hm_m183 := ⟨hc_in (p := 1502) rfl rfl, by decide +kernel, by decide +kernel, hc_in (p := 102) (by decide +kernel) rfl, by decide +kernel, by decide +kernel, by decide +kernel, by decide +kernel, by decide +kernel⟩
set_option maxRecDepth 1000000 in
theorem hm_ok184 : hc_MOK hm_m184 := ⟨hc_in (p := 1494) rfl rfl, by decide +kernel, by decide +kernel, hc_in (p := 102) (by decide +kernel) rfl, by decide +kernel, by decide +kernel, by decide +kernel, by decide +kernel, by decide +kernel⟩
set_option maxRecDepth 1000000 in
theorem hm_ok185 : hc_MOK hm_m185 := ⟨hc_in (p := 1490) rfl rfl, by decide +kernel, by decide +kernel, hc_in (p := 102) (by decide +kernel) rfl, by decide +kernel, by decide +kernel, by decide +kernel, by decide +kernel, by decide +kernel⟩
set_option maxRecDepth 1000000 in
theorem hm_ok186 : hc_MOK hm_m186 := ⟨hc_in (p := 1625) rfl rfl, by decide +kernel, by decide +kernel, hc_in (p := 102) (by decide +kernel) rfl, by decide +kernel, by decide +kernel, by decide +kernel, by decide +kernel, by decide +kernel⟩
set_option maxRecDepth 1000000 in
theorem hm_ok187 : hc_MOK hm_m187 := ⟨hc_in (p := 1621) rfl rfl, by decide +kernel, by decide +kernel, hc_in (p := 102) (by decide +kernel) rfl, by decide +kernel, by decide +kernel, by decide +kernel, by decide +kernel, by decide +kernel⟩
set_option maxRecDepth 1000000 in
theorem hm_ok188 : hc_MOK hm_m188 := ⟨hc_in (p := 1399) rfl rfl, by decide +kernel, by decide +kernel, hc_in (p := 102) (by decide +kernel) rfl, by decide +kernel, by decide +kernel, by decide +kernel, by decide +kernel, by decide +kernel⟩
set_option maxRecDepth 1000000 in
theorem hm_ok189 : hc_MOK hm_m189 := ⟨hc_in (p := 1444) rfl rfl, by decide +kernel, by decide +kernel, hc_in (p := 102) (by decide +kernel) rfl, by decide +kernel, by decide +kernel, by decide +kernel, by decide +kernel, by decide +kernel⟩
set_option maxRecDepth 1000000 in
theorem hm_ok190 : hc_MOK hm_m190 := ⟨hc_in (p := 1463) rfl rfl, by decide +kernel, by decide +kernel, hc_in (p := 102) (by decide +kernel) rfl, by decide +kernel, by decide +kernel, by decide +kernel, by decide +kernel, by decide +kernel⟩
set_option maxRecDepth 1000000 in
theorem hm_ok191 : hc_MOK hm_m191 := ⟨hc_in (p := 1459) rfl rfl, by decide +kernel, by decide +kernel, hc_in (p := 102) (by decide +kernel) rfl, by decide +kernel, by decide +kernel, by decide +kernel, by decide +kernel, by decide +kernel⟩
set_option maxRecDepth 1000000 in
theorem hm_ok192 : hc_MOK hm_m192 := ⟨hc_in (p := 1467) rfl rfl, by decide +kernel, by decide +kernel, hc_in (p := 102) (by decide +kernel) rfl, by decide +kernel, by decide +kernel, by decide +kernel, by decide +kernel, by decide +kernel⟩
set_option maxRecDepth 1000000 in
theorem hm_ok193 : hc_MOK hm_m193 := ⟨hc_in (p := 1471) rfl rfl, by decide +kernel, by decide +kernel, hc_in (p := 102) (by decide +kernel) rfl, by decide +kernel, by decide +kernel, by decide +kernel, by decide +kernel, by decide +kernel⟩
set_option maxRecDepth 1000000 in
theorem hm_ok194 : hc_MOK hm_m194 := ⟨hc_in (p := 1479) rfl rfl, by decide +kernel, by decide +kernel, hc_in (p := 102) (by decide +kernel) rfl, by decide +kernel, by decide +kernel, by decide +kernel, by decide +kernel, by decide +kernel⟩
set_option maxRecDepth 1000000 in
theorem hm_ok195 : hc_MOK hm_m195 := ⟨hc_in (p := 1475) rfl rfl, by decide +kernel, by decide +kernel, hc_in (p := 102) (by decide +kernel) rfl, by decide +kernel, by decide +kernel, by decide +kernel, by decide +kernel, by decide +kernel⟩
set_option maxRecDepth 1000000 in
theorem hm_ok196 : hc_MOK hm_m196 := ⟨hc_in (p := 1486) rfl rfl, by decide +kernel, by decide +kernel, hc_in (p := 102) (by decide +kernel) rfl, by decide +kernel, by decide +kernel, by decide +kernel, by decide +kernel, by decide +kernel⟩
set_option maxRecDepth 1000000 in
theorem hm_ok197 : hc_MOK hm_m197 := ⟨hc_in (p := 1597) rfl rfl, by decide +kernel, by decide +kernel, hc_in (p := 102) (by decide +kernel) rfl, by decide +kernel, by decide +kernel, by decide +kernel, by decide +kernel, by decide +kernel⟩
set_option maxRecDepth 1000000 in
theorem hm_ok198 : hc_MOK hm_m198 := ⟨hc_in (p := 1483) rfl rfl, by decide +kernel, by decide +kernel, hc_in (p := 102) (by decide +kernel) rfl, by decide +kernel, by decide +kernel, by decide +kernel, by decide +kernel, by decide +kernel⟩
set_option maxRecDepth 1000000 in
theorem hm_ok199 : hc_MOK hm_m199 := ⟨hc_in (p := 1514) rfl rfl, by decide +kernel, by decide +kernel, hc_in (p := 102) (by decide +kernel) rfl, by decide +kernel, by decide +kernel, by decide +kernel, by decide +kernel, by decide +kernel⟩
set_option maxRecDepth 1000000 in
theorem hm_ok200 : hc_MOK hm_m200 := ⟨hc_in (p := 1530) rfl rfl, by decide +kernel, by decide +kernel, hc_in (p := 102) (by decide +kernel) rfl, by decide +kernel, by decide +kernel, by decide +kernel, by decide +kernel, by decide +kernel⟩
set_option maxRecDepth 1000000 in
theorem hm_ok201 : hc_MOK hm_m201 := ⟨hc_in (p := 1526) rfl rfl, by decide +kernel, by decide +kernel, hc_in (p := 102) (by decide +kernel) rfl, by decide +kernel, by decide +kernel, by decide +kernel, by decide +kernel, by decide +kernel⟩
set_option maxRecDepth 1000000 in
theorem hm_ok202 : hc_MOK hm_m202 := ⟨hc_in (p := 1522) rfl rfl, by decide +kernel, by decide +kernel, hc_in (p := 102) (by decide +kernel) rfl, by decide +kernel, by decide +kernel, by decide +kernel, by decide +kernel, by decide +kernel⟩
set_option maxRecDepth 1000000 in
theorem hm_ok203 : hc_MOK hm_m203 := ⟨hc_in (p := 1542) rfl rfl, by decide +kernel, by decide +kernel, hc_in (p := 102) (by decide +kernel) rfl, by decide +kernel, by decide +kernel, by decide +kernel, by decide +kernel, by decide +kernel⟩
set_option maxRecDepth 1000000 in
theorem hm_ok204 : hc_MOK hm_m204 := ⟨hc_in (p := 1518) rfl rfl, by decide +kernel, by decide +kernel, hc_in (p := 102) (by decide +kernel) rfl, by decide +kernel, by decide +kernel, by decide +kernel, by decide +kernel, by decide +kernel⟩
set_option maxRecDepth 1000000 in
theorem hm_ok205 : hc_MOK hm_m205 := ⟨hc_in (p := 1534) rfl rfl, by decide +kernel, by decide +kernel, hc_in (p := 102) (by decide +kernel) rfl, by decide +kernel, by decide +kernel, by decide +kernel, by decide +kernel, by decide +kernel⟩
set_option maxRecDepth 1000000 in
theorem hm_ok206 : hc_MOK hm_m206 := ⟨hc_in (p := 1538) rfl rfl, by decide +kernel, by decide +kernel, hc_in (p := 102) (by decide +kernel) rfl, by decide +kernel, by decide +kernel, by decide +kernel, by decide +kernel, by decide +kernel⟩
set_option maxRecDepth 1000000 in
theorem hm_ok207 : hc_MOK hm_m207 := ⟨hc_in (p := 1546) rfl rfl, by decide +kernel, by decide +kernel, hc_in (p := 102) (by decide +kernel) rfl, by decide +kernel, by decide +kernel, by decide +kernel, by decide +kernel, by decide +kernel⟩
set_option maxRecDepth 1000000 in
theorem hm_ok208 : hc_MOK hm_m208 := ⟨hc_in (p := 1550) rfl rfl, by decide +kernel, by decide +kernel, hc_in (p := 102) (by decide +kernel) rfl, by decide +kernel, by decide +kernel, by decide +kernel, by decide +kernel, by decide +kernel⟩
set_option maxRecDepth 1000000 in
theorem hm_ok209 : hc_MOK hm_m209 := ⟨hc_in (p := 1554) rfl rfl, by decide +kernel, by decide +kernel, hc_in (p := 102) (by decide +kernel) rfl, by decide +kernel, by decide +kernel, by decide +kernel, by decide +kernel, by decide +kernel⟩
set_option maxRecDepth 1000000 in
theorem hm_ok210 : hc_MOK hm_m210 := ⟨hc_in (p := 1558) rfl rfl, by decide +kernel, by decide +kernel, hc_in (p := 102) (by decide +kernel) rfl, by decide +kernel, by decide +kernel, by decide +kernel, by decide +kernel, by decide +kernel⟩
set_option maxRecDepth 1000000 in
theorem hm_ok211 : hc_MOK hm_m211 := ⟨hc_in (p := 1562) rfl rfl, by decide +kernel, by decide +kernel, hc_in (p := 102) (by decide +kernel) rfl, by decide +kernel, by decide +kernel, by decide +kernel, by decide +kernel, by decide +kernel⟩
set_option maxRecDepth 1000000 in
theorem hm_ok212 : hc_MOK hm_m212 := ⟨hc_in (p := 1566) rfl rfl, by decide +kernel, by decide +kernel, hc_in (p := 102) (by decide +kernel) rfl, by decide +kernel, by decide +kernel, by decide +kernel, by decide +kernel, by decide +kernel⟩
end
section
set_option maxRecDepth 1000000 in
theorem hm_ok213 : hc_MOK hm_m213 := ⟨hc_in (p := 1570) rfl rfl, by decide +kernel, by decide +kernel, hc_in (p := 102) (by decide +kernel) rfl, by decide +kernel, by decide +kernel, by decide +kernel, by decide +kernel, by decide +kernel⟩
set_option maxRecDepth 1000000 in
theorem hm_ok214 : hc_MOK hm_m214 := ⟨hc_in (p := 1578) rfl rfl, by decide +kernel, by decide +kernel, hc_in (p := 102) (by decide +kernel) rfl, by decide +kernel, by decide +kernel, by decide +kernel, by decide +kernel, by decide +kernel⟩
set_option maxRecDepth 1000000 in
theorem hm_ok215 : hc_MOK hm_m215 := ⟨hc_in (p := 1582) rfl rfl, by decide +kernel, by decide +kernel, hc_in (p := 102) (by decide +kernel) rfl, by decide +kernel, by decide +kernel, by decide +kernel, by decide +kernel, by decide +kernel⟩
set_option maxRecDepth 1000000 in
theorem hm_ok216 : hc_MOK hm_m216 := ⟨hc_in (p := 1574) rfl rfl, by decide +kernel, by decide +kernel, hc_in (p := 102) (by decide +kernel) rfl, by decide +kernel, by decide +kernel, by decide +kernel, by decide +kernel, by decide +kernel⟩
set_option maxRecDepth 1000000 in
theorem hm_ok217 : hc_MOK hm_m217 := ⟨hc_in (p := 1586) rfl rfl, by decide +kernel, by decide +kernel, hc_in (p := 102) (by decide +kernel) rfl, by decide +kernel, by decide +kernel, by decide +kernel, by decide +kernel, by decide +kernel⟩
set_option maxRecDepth 1000000 in
theorem hm_ok218 : hc_MOK hm_m218 := ⟨hc_in (p := 1590) rfl rfl, by decide +kernel, by decide +kernel, hc_in (p := 102) (by decide +kernel) rfl, by decide +kernel, by decide +kernel, by decide +kernel, by decide +kernel, by decide +kernel⟩
set_option maxRecDepth 1000000 in
theorem hm_ok219 : hc_MOK hm_m219 := ⟨hc_in (p := 1594) rfl rfl, by decide +kernel, by decide +kernel, hc_in (p := 102) (by decide +kernel) rfl, by decide +kernel, by decide +kernel, by decide +kernel, by decide +kernel, by decide +kernel⟩
set_option maxRecDepth 1000000 in
theorem hm_ok220 : hc_MOK hm_m220 := ⟨hc_in (p := 1605) rfl rfl, by decide +kernel, by decide +kernel, hc_in (p := 102) (by decide +kernel) rfl, by decide +kernel, by decide +kernel, by decide +kernel, by decide +kernel, by decide +kernel⟩
set_option maxRecDepth 1000000 in
theorem hm_ok221 : hc_MOK hm_m221 := ⟨hc_in (p := 1609) rfl rfl, by decide +kernel, by decide +kernel, hc_in (p := 102) (by decide +kernel) rfl, by decide +kernel, by decide +kernel, by decide +kernel, by decide +kernel, by decide +kernel⟩
set_option maxRecDepth 1000000 in
theorem hm_ok222 : hc_MOK hm_m222 := ⟨hc_in (p := 1613) rfl rfl, by decide +kernel, by decide +kernel, hc_in (p := 102) (by decide +kernel) rfl, by decide +kernel, by decide +kernel, by decide +kernel, by decide +kernel, by decide +kernel⟩
set_option maxRecDepth 1000000 in
theorem hm_ok223 : hc_MOK hm_m223 := ⟨hc_in (p := 1617) rfl rfl, by decide +kernel, by decide +kernel, hc_in (p := 102) (by decide +kernel) rfl, by decide +kernel, by decide +kernel, by decide +kernel, by decide +kernel, by decide +kernel⟩
set_option maxRecDepth 1000000 in
theorem hm_ok224 : hc_MOK hm_m224 := ⟨hc_in (p := 1629) rfl rfl, by decide +kernel, by decide +kernel, hc_in (p := 102) (by decide +kernel) rfl, by decide +kernel, by decide +kernel, by decide +kernel, by decide +kernel, by decide +kernel⟩
set_option maxRecDepth 1000000 in
theorem hm_ok225 : hc_MOK hm_m225 := ⟨hc_in (p := 1637) rfl rfl, by decide +kernel, by decide +kernel, hc_in (p := 102) (by decide +kernel) rfl, by decide +kernel, by decide +kernel, by decide +kernel, by decide +kernel, by decide +kernel⟩
set_option maxRecDepth 1000000 in
theorem hm_ok226 : hc_MOK hm_m226 := ⟨hc_in (p := 1633) rfl rfl, by decide +kernel, by decide +kernel, hc_in (p := 102) (by decide +kernel) rfl, by decide +kernel, by decide +kernel, by decide +kernel, by decide +kernel, by decide +kernel⟩
set_option maxRecDepth 1000000 in
theorem hm_ok227 : hc_MOK hm_m227 := ⟨hc_in (p := 1641) rfl rfl, by decide +kernel, by decide +kernel, hc_in (p := 102) (by decide +kernel) rfl, by decide +kernel, by decide +kernel, by decide +kernel, by decide +kernel, by decide +kernel⟩
set_option maxRecDepth 1000000 in
theorem hm_ok228 : hc_MOK hm_m228 := ⟨hc_in (p := 1645) rfl rfl, by decide +kernel, by decide +kernel, hc_in (p := 102) (by decide +kernel) rfl, by decide +kernel, by decide +kernel, by decide +kernel, by decide +kernel, by decide +kernel⟩
set_option maxRecDepth 1000000 in
theorem hm_ok229 : hc_MOK hm_m229 := ⟨hc_in (p := 1649) rfl rfl, by decide +kernel, by decide +kernel, hc_in (p := 102) (by decide +kernel) rfl, by decide +kernel, by decide +kernel, by decide +kernel, by decide +kernel, by decide +kernel⟩
set_option maxRecDepth 1000000 in
theorem hm_ok230 : hc_MOK hm_m230 := ⟨hc_in (p := 1653) rfl rfl, by decide +kernel, by decide +kernel, hc_in (p := 102) (by decide +kernel) rfl, by decide +kernel, by decide +kernel, by decide +kernel, by decide +kernel, by decide +kernel⟩
set_option maxRecDepth 1000000 in
theorem hm_ok231 : hc_MOK hm_m231 := ⟨hc_in (p := 1657) rfl rfl, by decide +kernel, by decide +kernel, hc_in (p := 102) (by decide +kernel) rfl, by decide +kernel, by decide +kernel, by decide +kernel, by decide +kernel, by decide +kernel⟩
set_option maxRecDepth 1000000 in
theorem hm_ok232 : hc_MOK hm_m232 := ⟨hc_in (p := 1661) rfl rfl, by decide +kernel, by decide +kernel, hc_in (p := 102) (by decide +kernel) rfl, by decide +kernel, by decide +kernel, by decide +kernel, by decide +kernel, by decide +kernel⟩
set_option maxRecDepth 1000000 in
theorem hm_ok233 : hc_MOK hm_m233 := ⟨hc_in (p := 1665) rfl rfl, by decide +kernel, by decide +kernel, hc_in (p := 102) (by decide +kernel) rfl, by decide +kernel, by decide +kernel, by decide +kernel, by decide +kernel, by decide +kernel⟩
set_option maxRecDepth 1000000 in
theorem hm_ok234 : hc_MOK hm_m234 := ⟨hc_in (p := 1673) rfl rfl, by decide +kernel, by decide +kernel, hc_in (p := 102) (by decide +kernel) rfl, by decide +kernel, by decide +kernel, by decide +kernel, by decide +kernel, by decide +kernel⟩
set_option maxRecDepth 1000000 in
theorem hm_ok235 : hc_MOK hm_m235 := ⟨hc_in (p := 1669) rfl rfl, by decide +kernel, by decide +kernel, hc_in (p := 102) (by decide +kernel) rfl, by decide +kernel, by decide +kernel, by decide +kernel, by decide +kernel, by decide +kernel⟩
set_option maxRecDepth 1000000 in
theorem hm_ok236 : hc_MOK hm_m236 := ⟨hc_in (p := 1681) rfl rfl, by decide +kernel, by decide +kernel, hc_in (p := 102) (by decide +kernel) rfl, by decide +kernel, by decide +kernel, by decide +kernel, by decide +kernel, by decide +kernel⟩
set_option maxRecDepth 1000000 in
theorem hm_ok237 : hc_MOK hm_m237 := ⟨hc_in (p := 1677) rfl rfl, by decide +kernel, by decide +kernel, hc_in (p := 102) (by decide +kernel) rfl, by decide +kernel, by decide +kernel, by decide +kernel, by decide +kernel, by decide +kernel⟩
set_option maxRecDepth 1000000 in
theorem hm_ok238 : hc_MOK hm_m238 := ⟨hc_in (p := 1685) rfl rfl, by decide +kernel, by decide +kernel, hc_in (p := 102) (by decide +kernel) rfl, by decide +kernel, by decide +kernel, by decide +kernel, by decide +kernel, by decide +kernel⟩
set_option maxRecDepth 1000000 in
theorem hm_ok239 : hc_MOK hm_m239 := ⟨hc_in (p := 1689) rfl rfl, by decide +kernel, by decide +kernel, hc_in (p := 102) (by decide +kernel) rfl, by decide +kernel, by decide +kernel, by decide +kernel, by decide +kernel, by decide +kernel⟩
set_option maxRecDepth 1000000 in
theorem hm_ok240 : hc_MOK hm_m240 := ⟨hc_in (p := 1697) rfl rfl, by decide +kernel, by decide +kernel, hc_in (p := 102) (by decide +kernel) rfl, by decide +kernel, by decide +kernel, by decide +kernel, by decide +kernel, by decide +kernel⟩
set_option maxRecDepth 1000000 in
theorem hm_ok241 : hc_MOK hm_m241 := ⟨hc_in (p := 1693) rfl rfl, by decide +kernel, by decide +kernel, hc_in (p := 102) (by decide +kernel) rfl, by decide +kernel, by decide +kernel, by decide +kernel, by decide +kernel, by decide +kernel⟩
end
section
set_option maxRecDepth 1000000 in
theorem hm_ok242 : hc_MOK hm_m242 := ⟨hc_in (p := 727) rfl rfl, by decide +kernel, by decide +kernel, hc_in (p := 109) (by decide +kernel) rfl, by decide +kernel, by decide +kernel, by decide +kernel, by decide +kernel, by decide +kernel⟩
set_option maxRecDepth 1000000 in
theorem hm_ok243 : hc_MOK hm_m243 := ⟨hc_in (p := 829) rfl rfl, by decide +kernel, by decide +kernel, hc_in (p := 107) (by decide +kernel) rfl, by decide +kernel, by decide +kernel, by decide +kernel, by decide +kernel, by decide +kernel⟩
set_option maxRecDepth 1000000 in
theorem hm_ok244 : hc_MOK hm_m244 := ⟨hc_in (p := 573) rfl rfl, by decide +kernel, by decide +kernel, hc_in (p := 107) (by decide +kernel) rfl, by decide +kernel, by decide +kernel, by decide +kernel, by decide +kernel, by decide +kernel⟩
set_option maxRecDepth 1000000 in
theorem hm_ok245 : hc_MOK hm_m245 := ⟨hc_in (p := 576) rfl rfl, by decide +kernel, by decide +kernel, hc_in (p := 107) (by decide +kernel) rfl, by decide +kernel, by decide +kernel, by decide +kernel, by decide +kernel, by decide +kernel⟩
set_option maxRecDepth 1000000 in
theorem hm_ok246 : hc_MOK hm_m246 := ⟨hc_in (p := 392) rfl rfl, by decide +kernel, by decide +kernel, hc_in (p := 101) (by decide +kernel) rfl, by decide +kernel, by decide +kernel, by decide +kernel, by decide +kernel, by decide +kernel⟩
end
section
theorem hm_okc0 : ∀ x ∈ hm_c0, ∀ e, x = some e → hc_MOK e := List.forall_mem_cons.mpr ⟨hc_one hm_ok0, List.forall_mem_cons.mpr ⟨hc_one hm_ok1, List.forall_mem_cons.mpr ⟨hc_one hm_ok2, List.forall_mem_cons.mpr ⟨hc_one hm_ok3, List.forall_mem_cons.mpr ⟨hc_one hm_ok4, List.forall_mem_cons.mpr ⟨hc_one hm_ok5, List.forall_mem_cons.mpr ⟨hc_one hm_ok6, List.forall_mem_cons.mpr ⟨hc_one hm_ok7, List.forall_mem_cons.mpr ⟨hc_one hm_ok8, List.forall_mem_cons.mpr ⟨hc_one hm_ok9, List.forall_mem_cons.mpr ⟨hc_one hm_ok10, List.forall_mem_cons.mpr ⟨hc_one hm_ok11, List.forall_mem_cons.mpr ⟨hc_one hm_ok12, List.forall_mem_cons.mpr ⟨hc_one hm_ok13, List.forall_mem_cons.mpr ⟨hc_one hm_ok14, List.forall_mem_cons.mpr ⟨hc_one hm_ok15, List.forall_mem_cons.mpr ⟨hc_one hm_ok16, List.forall_mem_cons.mpr ⟨hc_one hm_ok17, List.forall_mem_cons.mpr ⟨hc_one hm_ok18, List.forall_mem_cons.mpr ⟨hc_one hm_ok19, List.forall_mem_cons.mpr ⟨hc_one hm_ok20, List.forall_mem_cons.mpr ⟨hc_one hm_ok21, List.forall_mem_cons.mpr ⟨hc_one hm_ok22, List.forall_mem_cons.mpr ⟨hc_one hm_ok23, List.forall_mem_cons.mpr ⟨hc_one hm_ok24, List.forall_mem_cons.mpr ⟨hc_one hm_ok25, List.forall_mem_cons.mpr ⟨hc_one hm_ok26, List.forall_mem_cons.mpr ⟨hc_one hm_ok27, List.forall_mem_cons.mpr ⟨hc_one hm_ok28, List.forall_mem_cons.mpr ⟨hc_one hm_ok29, List.forall_mem_cons.mpr ⟨hc_one hm_ok30, List.forall_mem_cons.mpr ⟨hc_one hm_ok31, fun _ h => absurd h List.not_mem_nil⟩⟩⟩⟩⟩⟩⟩⟩⟩⟩⟩⟩⟩⟩⟩⟩⟩⟩⟩⟩⟩⟩⟩⟩⟩⟩⟩⟩⟩⟩⟩⟩
theorem hm_okc1 : ∀ x ∈ hm_c1, ∀ e, x = some e → hc_MOK e := List.forall_mem_cons.mpr ⟨hc_one hm_ok32, List.forall_mem_cons.mpr ⟨hc_one hm_ok33, List.forall_mem_cons.mpr ⟨hc_one hm_ok34, List.forall_mem_cons.mpr ⟨hc_one hm_ok35, List.forall_mem_cons.mpr ⟨hc_one hm_ok36, List.forall_mem_cons.mpr ⟨hc_one hm_ok37, List.forall_mem_cons.mpr ⟨hc_one hm_ok38, List.forall_mem_cons.mpr ⟨hc_one hm_ok39, List.forall_mem_cons.mpr ⟨hc_one hm_ok40, List.forall_mem_cons.mpr ⟨hc_one hm_ok41, List.forall_mem_cons.mpr ⟨hc_one hm_ok42, List.forall_mem_cons.mpr ⟨hc_one hm_ok43, List.forall_mem_cons.mpr ⟨hc_one hm_ok44, List.forall_mem_cons.mpr ⟨hc_one hm_ok45, List.forall_mem_cons.mpr ⟨hc_one hm_ok46, List.forall_mem_cons.mpr ⟨hc_one hm_ok47, List.forall_mem_cons.mpr ⟨hc_one hm_ok48, List.forall_mem_cons.mpr ⟨hc_one hm_ok49, List.forall_mem_cons.mpr ⟨hc_one hm_ok50, List.forall_mem_cons.mpr ⟨hc_one hm_ok51, List.forall_mem_cons.mpr ⟨hc_one hm_ok52, List.forall_mem_cons.mpr ⟨hc_one hm_ok53, List.forall_mem_cons.mpr ⟨hc_one hm_ok54, List.forall_mem_cons.mpr ⟨hc_one hm_ok55, List.forall_mem_cons.mpr ⟨hc_one hm_ok56, List.forall_mem_cons.mpr ⟨hc_one hm_ok57, List.forall_mem_cons.mpr ⟨hc_one hm_ok58, List.forall_mem_cons.mpr ⟨hc_one hm_ok59, List.forall_mem_cons.mpr ⟨hc_one hm_ok60, List.forall_mem_cons.mpr ⟨hc_one hm_ok61, List.forall_mem_cons.mpr ⟨hc_one hm_ok62, List.forall_mem_cons.mpr ⟨hc_one hm_ok63, fun _ h => absurd h List.not_mem_nil⟩⟩⟩⟩⟩⟩⟩⟩⟩⟩⟩⟩⟩⟩⟩⟩⟩⟩⟩⟩⟩⟩⟩⟩⟩⟩⟩⟩⟩⟩⟩⟩
theorem hm_okc2 : ∀ x ∈ hm_c2, ∀ e, x = some e → hc_MOK e := List.forall_mem_cons.mpr ⟨hc_one hm_ok64, List.forall_mem_cons.mpr ⟨hc_one hm_ok65, List.forall_mem_cons.mpr ⟨hc_one hm_ok66, List.forall_mem_cons.mpr ⟨hc_one hm_ok67, List.forall_mem_cons.mpr ⟨hc_one hm_ok68, List.forall_mem_cons.mpr ⟨hc_one hm_ok69, List.forall_mem_cons.mpr ⟨hc_one hm_ok70, List.forall_mem_cons.mpr ⟨hc_one hm_ok71, List.forall_mem_cons.mpr ⟨hc_one hm_ok72, List.forall_mem_cons.mpr ⟨hc_one hm_ok73, List.forall_mem_cons.mpr ⟨hc_one hm_ok74, List.forall_mem_cons.mpr ⟨hc_one hm_ok75, List.forall_mem_cons.mpr ⟨hc_one hm_ok76, List.forall_mem_cons.mpr ⟨hc_one hm_ok77, List.forall_mem_cons.mpr ⟨hc_one hm_ok78, List.forall_mem_cons.mpr ⟨hc_one hm_ok79, List.forall_mem_cons.mpr ⟨hc_one hm_ok80, List.forall_mem_cons.mpr ⟨hc_one hm_ok81, List.forall_mem_cons.mpr ⟨hc_one hm_ok82, List.forall_mem_cons.mpr ⟨hc_one hm_ok83, List.forall_mem_cons.mpr ⟨hc_one hm_ok84, List.forall_mem_cons.mpr ⟨hc_one hm_ok85, List.forall_mem_cons.mpr ⟨hc_one hm_ok86, List.forall_mem_cons.mpr ⟨hc_one hm_ok87, List.forall_mem_cons.mpr ⟨hc_one hm_ok88, List.forall_mem_cons.mpr ⟨hc_one hm_ok89, List.forall_mem_cons.mpr ⟨hc_one hm_ok90, List.forall_mem_cons.mpr ⟨hc_one hm_ok91, List.forall_mem_cons.mpr ⟨hc_one hm_ok92, List.forall_mem_cons.mpr ⟨hc_one hm_ok93, List.forall_mem_cons.mpr ⟨hc_one hm_ok94, List.forall_mem_cons.mpr ⟨hc_one hm_ok95, fun _ h => absurd h List.not_mem_nil⟩⟩⟩⟩⟩⟩⟩⟩⟩⟩⟩⟩⟩⟩⟩⟩⟩⟩⟩⟩⟩⟩⟩⟩⟩⟩⟩⟩⟩⟩⟩⟩
theorem hm_okc3 : ∀ x ∈ hm_c3, ∀ e, x = some e → hc_MOK e := List.forall_mem_cons.mpr ⟨hc_one hm_ok96, List.forall_mem_cons.mpr ⟨hc_one hm_ok97, List.forall_mem_cons.mpr ⟨hc_one hm_ok98, List.forall_mem_cons.mpr ⟨hc_one hm_ok99, List.forall_mem_cons.mpr ⟨hc_one hm_ok100, List.forall_mem_cons.mpr ⟨hc_one hm_ok101, List.forall_mem_cons.mpr ⟨hc_one hm_ok102, List.forall_mem_cons.mpr ⟨hc_one hm_ok103, List.forall_mem_cons.mpr ⟨hc_one hm_ok104, List.forall_mem_cons.mpr ⟨hc_one hm_ok105, List.forall_mem_cons.mpr ⟨hc_one hm_ok106, List.forall_mem_cons.mpr ⟨hc_one hm_ok107, List.forall_mem_cons.mpr ⟨hc_one hm_ok108, List.forall_mem_cons.mpr ⟨hc_one hm_ok109, List.forall_mem_cons.mpr ⟨hc_one hm_ok110, List.forall_mem_cons.mpr ⟨hc_one hm_ok111, List.forall_mem_cons.mpr ⟨hc_one hm_ok112, List.forall_mem_cons.mpr ⟨hc_one hm_ok113, List.forall_mem_cons.mpr ⟨hc_one hm_ok114, List.forall_mem_cons.mpr ⟨hc_one hm_ok115, List.forall_mem_cons.mpr ⟨hc_one hm_ok116, List.forall_mem_cons.mpr ⟨hc_one hm_ok117, List.forall_mem_cons.mpr ⟨hc_one hm_ok118, List.forall_mem_cons.mpr ⟨hc_one hm_ok119, List.forall_mem_cons.mpr ⟨hc_one hm_ok120, List.forall_mem_cons.mpr ⟨hc_one hm_ok121, List.forall_mem_cons.mpr ⟨hc_one hm_ok122, List.forall_mem_cons.mpr ⟨hc_one hm_ok123, List.forall_mem_cons.mpr ⟨hc_one hm_ok124, List.forall_mem_cons.mpr ⟨hc_one hm_ok125, List.forall_mem_cons.mpr ⟨hc_one hm_ok126, List.forall_mem_cons.mpr ⟨hc_one hm_ok127, fun _ h => absurd h List.not_mem_nil⟩⟩⟩⟩⟩⟩⟩⟩⟩⟩⟩⟩⟩⟩⟩⟩⟩⟩⟩⟩⟩⟩⟩⟩⟩⟩⟩⟩⟩⟩⟩⟩
theorem hm_okc4 : ∀ x ∈ hm_c4, ∀ e, x = some e → hc_MOK e := List.forall_mem_cons.mpr ⟨hc_one hm_ok128, List.forall_mem_cons.mpr ⟨hc_one hm_ok129, List.forall_mem_cons.mpr ⟨hc_one hm_ok130, List.forall_mem_cons.mpr ⟨hc_one hm_ok131, List.forall_mem_cons.mpr ⟨hc_one hm_ok132, List.forall_mem_cons.mpr ⟨hc_one hm_ok133, List.forall_mem_cons.mpr ⟨hc_one hm_ok134, List.forall_mem_cons.mpr ⟨hc_one hm_ok135, List.forall_mem_cons.mpr ⟨hc_one hm_ok136, List.forall_mem_cons.mpr ⟨hc_one hm_ok137, List.forall_mem_cons.mpr ⟨hc_one hm_ok138, List.forall_mem_cons.mpr ⟨hc_one hm_ok139, List.forall_mem_cons.mpr ⟨hc_one hm_ok140, List.forall_mem_cons.mpr ⟨hc_one hm_ok141, List.forall_mem_cons.mpr ⟨hc_one hm_ok142, List.forall_mem_cons.mpr ⟨hc_one hm_ok143, List.forall_mem_cons.mpr ⟨hc_one hm_ok144, List.forall_mem_cons.mpr ⟨hc_one hm_ok145, List.forall_mem_cons.mpr ⟨hc_one hm_ok146, List.forall_mem_cons.mpr ⟨hc_one hm_ok147, List.forall_mem_cons.mpr ⟨hc_one hm_ok148, List.forall_mem_cons.mpr ⟨hc_one hm_ok149, List.forall_mem_cons.mpr ⟨hc_one hm_ok150, List.forall_mem_cons.mpr ⟨hc_one hm_ok151, List.forall_mem_cons.mpr ⟨hc_one hm_ok152, List.forall_mem_cons.mpr ⟨hc_one hm_ok153, List.forall_mem_cons.mpr ⟨hc_one hm_ok154, List.forall_mem_cons.mpr ⟨hc_one hm_ok155, List.forall_mem_cons.mpr ⟨hc_one hm_ok156, List.forall_mem_cons.mpr ⟨hc_one hm_ok157, List.forall_mem_cons.mpr ⟨hc_one hm_ok158, List.forall_mem_cons.mpr ⟨hc_one hm_ok159, fun _ h => absurd h List.not_mem_nil⟩⟩⟩⟩⟩⟩⟩⟩⟩⟩⟩⟩⟩⟩⟩⟩⟩⟩⟩⟩⟩⟩⟩⟩⟩⟩⟩⟩⟩⟩⟩⟩
theorem hm_okc5 : ∀ x ∈ hm_c5, ∀ e, x = some e → hc_MOK e := List.forall_mem_cons.mpr ⟨hc_one hm_ok160, List.forall_mem_cons.mpr ⟨hc_one hm_ok161, List.forall_mem_cons.mpr ⟨hc_one hm_ok162, List.forall_mem_cons.mpr ⟨hc_one hm_ok163, List.forall_mem_cons.mpr ⟨hc_one hm_ok164, List.forall_mem_cons.mpr ⟨hc_one hm_ok165, List.forall_mem_cons.mpr ⟨hc_one hm_ok166, List.forall_mem_cons.mpr ⟨hc_one hm_ok167, List.forall_mem_cons.mpr ⟨hc_one hm_ok168, List.forall_mem_cons.mpr ⟨hc_one hm_ok169, List.forall_mem_cons.mpr ⟨hc_one hm_ok170, List.forall_mem_cons.mpr ⟨hc_one hm_ok171, List.forall_mem_cons.mpr ⟨hc_one hm_ok172, List.forall_mem_cons.mpr ⟨hc_one hm_ok173, List.forall_mem_cons.mpr ⟨hc_one hm_ok174, List.forall_mem_cons.mpr ⟨hc_one hm_ok175, List.forall_mem_cons.mpr ⟨hc_one hm_ok176, List.forall_mem_cons.mpr ⟨hc_one hm_ok177, List.forall_mem_cons.mpr ⟨hc_one hm_ok178, List.forall_mem_cons.mpr ⟨hc_one hm_ok179, List.forall_mem_cons.mpr ⟨hc_one hm_ok180, List.forall_mem_cons.mpr ⟨hc_one hm_ok181, List.forall_mem_cons.mpr ⟨hc_one hm_ok182, List.forall_mem_cons.mpr ⟨hc_one hm_ok183, List.forall_mem_cons.mpr ⟨hc_one hm_ok184, List.forall_mem_cons.mpr ⟨hc_one hm_ok185, List.forall_mem_cons.mpr ⟨hc_one hm_ok186, List.forall_mem_cons.mpr ⟨hc_one hm_ok187, List.forall_mem_cons.mpr ⟨hc_one hm_ok188, List.forall_mem_cons.mpr ⟨hc_one hm_ok189, List.forall_mem_cons.mpr ⟨hc_one hm_ok190, List.forall_mem_cons.mpr ⟨hc_one hm_ok191, fun _ h => absurd h List.not_mem_nil⟩⟩⟩⟩⟩⟩⟩⟩⟩⟩⟩⟩⟩⟩⟩⟩⟩⟩⟩⟩⟩⟩⟩⟩⟩⟩⟩⟩⟩⟩⟩⟩
theorem hm_okc6 : ∀ x ∈ hm_c6, ∀ e, x = some e → hc_MOK e := List.forall_mem_cons.mpr ⟨hc_one hm_ok192, List.forall_mem_cons.mpr ⟨hc_one hm_ok193, List.forall_mem_cons.mpr ⟨hc_one hm_ok194, List.forall_mem_cons.mpr ⟨hc_one hm_ok195, List.forall_mem_cons.mpr ⟨hc_one hm_ok196, List.forall_mem_cons.mpr ⟨hc_one hm_ok197, List.forall_mem_cons.mpr ⟨hc_one hm_ok198, List.forall_mem_cons.mpr ⟨hc_one hm_ok199, List.forall_mem_cons.mpr ⟨hc_one hm_ok200, List.forall_mem_cons.mpr ⟨hc_one hm_ok201, List.forall_mem_cons.mpr ⟨hc_one hm_ok202, List.forall_mem_cons.mpr ⟨hc_one hm_ok203, List.forall_mem_cons.mpr ⟨hc_one hm_ok204, List.forall_mem_cons.mpr ⟨hc_one hm_ok205, List.forall_mem_cons.mpr ⟨hc_one hm_ok206, List.forall_mem_cons.mpr ⟨hc_one hm_ok207, List.forall_mem_cons.mpr ⟨hc_one hm_ok208, List.forall_mem_cons.mpr ⟨hc_one hm_ok209, List.forall_mem_cons.mpr ⟨hc_one hm_ok210, List.forall_mem_cons.mpr ⟨hc_one hm_ok211, List.forall_mem_cons.mpr ⟨hc_one hm_ok212, List.forall_mem_cons.mpr ⟨hc_one hm_ok213, List.forall_mem_cons.mpr ⟨hc_one hm_ok214, List.forall_mem_cons.mpr ⟨hc_one hm_ok215, List.forall_mem_cons.mpr ⟨hc_one hm_ok216, List.forall_mem_cons.mpr ⟨hc_one hm_ok217, List.forall_mem_cons.mpr ⟨hc_one hm_ok218, List.forall_mem_cons.mpr ⟨hc_one hm_ok219, List.forall_mem_cons.mpr ⟨hc_one hm_ok220, List.forall_mem_cons.mpr ⟨hc_one hm_ok221, List.forall_mem_cons.mpr ⟨hc_one hm_ok222, List.forall_mem_cons.mpr ⟨hc_one hm_ok223, fun _ h => absurd h List.not_mem_nil⟩⟩⟩⟩⟩⟩⟩⟩⟩⟩⟩⟩⟩⟩⟩⟩⟩⟩⟩⟩⟩⟩⟩⟩⟩⟩⟩⟩⟩⟩⟩⟩
theorem hm_okc7 : ∀ x ∈ hm_c7, ∀ e, x = some e → hc_MOK e := List.forall_mem_cons.mpr ⟨hc_one hm_ok224, List.forall_mem_cons.mpr ⟨hc_one hm_ok225, List.forall_mem_cons.mpr ⟨hc_one hm_ok226, List.forall_mem_cons.mpr ⟨hc_one hm_ok227, List.forall_mem_cons.mpr ⟨hc_one hm_ok228, List.forall_mem_cons.mpr ⟨hc_one hm_ok229, List.forall_mem_cons.mpr ⟨hc_one hm_ok230, List.forall_mem_cons.mpr ⟨hc_one hm_ok231, List.forall_mem_cons.mpr ⟨hc_one hm_ok232, List.forall_mem_cons.mpr ⟨hc_one hm_ok233, List.forall_mem_cons.mpr ⟨hc_one hm_ok234, List.forall_mem_cons.mpr ⟨hc_one hm_ok235, List.forall_mem_cons.mpr ⟨hc_one hm_ok236, List.forall_mem_cons.mpr ⟨hc_one hm_ok237, List.forall_mem_cons.mpr ⟨hc_one hm_ok238, List.forall_mem_cons.mpr ⟨hc_one hm_ok239, List.forall_mem_cons.mpr ⟨hc_one hm_ok240, List.forall_mem_cons.mpr ⟨hc_one hm_ok241, List.forall_mem_cons.mpr ⟨hc_one hm_ok242, List.forall_mem_cons.mpr ⟨hc_one hm_ok243, List.forall_mem_cons.mpr ⟨hc_one hm_ok244, List.forall_mem_cons.mpr ⟨hc_one hm_ok245, List.forall_mem_cons.mpr ⟨hc_one hm_ok246, fun _ h => absurd h List.not_mem_nil⟩⟩⟩⟩⟩⟩⟩⟩⟩⟩⟩⟩⟩⟩⟩⟩⟩⟩⟩⟩⟩⟩⟩
theorem hm_ok {k : Nat} {e : hc_M} (hg : hc_get hm_pg k = some e) : hc_MOK e := hc_pgAll (pg := hm_pg) (List.forall_mem_cons.mpr ⟨hm_okc0, List.forall_mem_cons.mpr ⟨hm_okc1, List.forall_mem_cons.mpr ⟨hm_okc2, List.forall_mem_cons.mpr ⟨hm_okc3, List.forall_mem_cons.mpr ⟨hm_okc4, List.forall_mem_cons.mpr ⟨hm_okc5, List.forall_mem_cons.mpr ⟨hm_okc6, List.forall_mem_cons.mpr ⟨hm_okc7, fun _ h => absurd h List.not_mem_nil⟩⟩⟩⟩⟩⟩⟩⟩) hg
set_option maxRecDepth 1000000 in
theorem hm_lawO : hc_rws (hc_O 11 false) 0 hm_law = true := by decide +kernel
end
section
set_option maxRecDepth 1000000 in
theorem hm_lawD0 : hc_row (hc_D code) 0 hm_w0 = true := by decide +kernel
set_option maxRecDepth 1000000 in
theorem hm_lawD1 : hc_row (hc_D code) 32 hm_w1 = true := by decide +kernel
set_option maxRecDepth 1000000 in
theorem hm_lawD2 : hc_row (hc_D code) 64 hm_w2 = true := by decide +kernel
set_option maxRecDepth 1000000 in
theorem hm_lawD3 : hc_row (hc_D code) 96 hm_w3 = true := by decide +kernel
set_option maxRecDepth 1000000 in
theorem hm_lawD4 : hc_row (hc_D code) 128 hm_w4 = true := by decide +kernel
set_option maxRecDepth 1000000 in
theorem hm_lawD5 : hc_row (hc_D code) 160 hm_w5 = true := by decide +kernel
set_option maxRecDepth 1000000 in
theorem hm_lawD6 : hc_row (hc_D code) 192 hm_w6 = true := by decide +kernel
set_option maxRecDepth 1000000 in
theorem hm_lawD7 : hc_row (hc_D code) 224 hm_w7 = true := by decide +kernel
end
section
set_option maxRecDepth 1000000 in
theorem hm_lawD8 : hc_row (hc_D code) 256 hm_w8 = true := by decide +kernel
set_option maxRecDepth 1000000 in
theorem hm_lawD9 : hc_row (hc_D code) 288 hm_w9 = true := by decide +kernel
set_option maxRecDepth 1000000 in
theorem hm_lawD10 : hc_row (hc_D code) 320 hm_w10 = true := by decide +kernel
set_option maxRecDepth 1000000 in
theorem hm_lawD11 : hc_row (hc_D code) 352 hm_w11 = true := by decide +kernel
set_option maxRecDepth 1000000 in
theorem hm_lawD12 : hc_row (hc_D code) 384 hm_w12 = true := by decide +kernel
set_option maxRecDepth 1000000 in
theorem hm_lawD13 : hc_row (hc_D code) 416 hm_w13 = true := by decide +kernel
set_option maxRecDepth 1000000 in
theorem hm_lawD14 : hc_row (hc_D code) 448 hm_w14 = true := by decide +kernel
set_option maxRecDepth 1000000 in
theorem hm_lawD15 : hc_row (hc_D code) 480 hm_w15 = true := by decide +kernel
end
section
set_option maxRecDepth 1000000 in
theorem hm_lawD16 : hc_row (hc_D code) 512 hm_w16 = true := by decide +kernel
set_option maxRecDepth 1000000 in
theorem hm_lawD17 : hc_row (hc_D code) 544 hm_w17 = true := by decide +kernel
set_option maxRecDepth 1000000 in
theorem hm_lawD18 : hc_row (hc_D code) 576 hm_w18 = true := by decide +kernel
set_option maxRecDepth 1000000 in
theorem hm_lawD19 : hc_row (hc_D code) 608 hm_w19 = true := by decide +kernel
set_option maxRecDepth 1000000 in
theorem hm_lawD20 : hc_row (hc_D code) 640 hm_w20 = true := by decide +kernel
set_option maxRecDepth 1000000 in
theorem hm_lawD21 : hc_row (hc_D code) 672 hm_w21 = true := by decide +kernel
set_option maxRecDepth 1000000 in
theorem hm_lawD22 : hc_row (hc_D code) 704 hm_w22 = true := by decide +kernel
set_option maxRecDepth 1000000 in
theorem hm_lawD23 : hc_row (hc_D code) 736 hm_w23 = true := by decide +kernel
end
section
set_option maxRecDepth 1000000 in
theorem hm_lawD24 : hc_row (hc_D code) 768 hm_w24 = true := by decide +kernel
set_option maxRecDepth 1000000 in
theorem hm_lawD25 : hc_row (hc_D code) 800 hm_w25 = true := by decide +kernel
set_option maxRecDepth 1000000 in
theorem hm_lawD26 : hc_row (hc_D code) 832 hm_w26 = true := by decide +kernel
set_option maxRecDepth 1000000 in
theorem hm_lawD27 : hc_row (hc_D code) 864 hm_w27 = true := by decide +kernel
set_option maxRecDepth 1000000 in
theorem hm_lawD28 : hc_row (hc_D code) 896 hm_w28 = true := by decide +kernel
set_option maxRecDepth 1000000 in
theorem hm_lawD29 : hc_row (hc_D code) 928 hm_w29 = true := by decide +kernel
set_option maxRecDepth 1000000 in
theorem hm_lawD30 : hc_row (hc_D code) 960 hm_w30 = true := by decide +kernel
set_option maxRecDepth 1000000 in
theorem hm_lawD31 : hc_row (hc_D code) 992 hm_w31 = true := by decide +kernel
end
section
set_option maxRecDepth 1000000 in
theorem hm_lawD32 : hc_row (hc_D code) 1024 hm_w32 = true := by decide +kernel
set_option maxRecDepth 1000000 in
theorem hm_lawD33 : hc_row (hc_D code) 1056 hm_w33 = true := by decide +kernel
set_option maxRecDepth 1000000 in
theorem hm_lawD34 : hc_row (hc_D code) 1088 hm_w34 = true := by decide +kernel
set_option maxRecDepth 1000000 in
theorem hm_lawD35 : hc_row (hc_D code) 1120 hm_w35 = true := by decide +kernel
set_option maxRecDepth 1000000 in
theorem hm_lawD36 : hc_row (hc_D code) 1152 hm_w36 = true := by decide +kernel
set_option maxRecDepth 1000000 in
theorem hm_lawD37 : hc_row (hc_D code) 1184 hm_w37 = true := by decide +kernel
set_option maxRecDepth 1000000 in
theorem hm_lawD38 : hc_row (hc_D code) 1216 hm_w38 = true := by decide +kernel
set_option maxRecDepth 1000000 in
theorem hm_lawD39 : hc_row (hc_D code) 1248 hm_w39 = true := by decide +kernel
end
section
set_option maxRecDepth 1000000 in
theorem hm_lawD40 : hc_row (hc_D code) 1280 hm_w40 = true := by decide +kernel
set_option maxRecDepth 1000000 in
theorem hm_lawD41 : hc_row (hc_D code) 1312 hm_w41 = true := by decide +kernel
set_option maxRecDepth 1000000 in
theorem hm_lawD42 : hc_row (hc_D code) 1344 hm_w42 = true := by decide +kernel
set_option maxRecDepth 1000000 in
theorem hm_lawD43 : hc_row (hc_D code) 1376 hm_w43 = true := by decide +kernel
set_option maxRecDepth 1000000 in
theorem hm_lawD44 : hc_row (hc_D code) 1408 hm_w44 = true := by decide +kernel
set_option maxRecDepth 1000000 in
theorem hm_lawD45 : hc_row (hc_D code) 1440 hm_w45 = true := by decide +kernel
set_option maxRecDepth 1000000 in
theorem hm_lawD46 : hc_row (hc_D code) 1472 hm_w46 = true := by decide +kernel
end
section
theorem hc_rws_cons {P : Nat → hc_I → Bool} {b : Nat} {ch : List (Option hc_I)} {tb : hc_K} (h1 : Nat.ble ch.length 32 = true) (h2 : hc_row P b ch = true) (h3 : hc_rws P (b + 32) tb = true) : hc_rws P b (ch :: tb) = true := by
  show (Nat.ble ch.length 32 && (hc_row P b ch && hc_rws P (b + 32) tb)) = true
  rw [h1, h2, h3]
  rfl
theorem hm_lawD : hc_rws (hc_D code) 0 hm_law = true := hc_rws_cons rfl hm_lawD0 (hc_rws_cons rfl hm_lawD1 (hc_rws_cons rfl hm_lawD2 (hc_rws_cons rfl hm_lawD3 (hc_rws_cons rfl hm_lawD4 (hc_rws_cons rfl hm_lawD5 (hc_rws_cons rfl hm_lawD6 (hc_rws_cons rfl hm_lawD7 (hc_rws_cons rfl hm_lawD8 (hc_rws_cons rfl hm_lawD9 (hc_rws_cons rfl hm_lawD10 (hc_rws_cons rfl hm_lawD11 (hc_rws_cons rfl hm_lawD12 (hc_rws_cons rfl hm_lawD13 (hc_rws_cons rfl hm_lawD14 (hc_rws_cons rfl hm_lawD15 (hc_rws_cons rfl hm_lawD16 (hc_rws_cons rfl hm_lawD17 (hc_rws_cons rfl hm_lawD18 (hc_rws_cons rfl hm_lawD19 (hc_rws_cons rfl hm_lawD20 (hc_rws_cons rfl hm_lawD21 (hc_rws_cons rfl hm_lawD22 (hc_rws_cons rfl hm_lawD23 (hc_rws_cons rfl hm_lawD24 (hc_rws_cons rfl hm_lawD25 (hc_rws_cons rfl hm_lawD26 (hc_rws_cons rfl hm_lawD27 (hc_rws_cons rfl hm_lawD28 (hc_rws_cons rfl hm_lawD29 (hc_rws_cons rfl hm_lawD30 (hc_rws_cons rfl hm_lawD31 (hc_rws_cons rfl hm_lawD32 (hc_rws_cons rfl hm_lawD33 (hc_rws_cons rfl hm_lawD34 (hc_rws_cons rfl hm_lawD35 (hc_rws_cons rfl hm_lawD36 (hc_rws_cons rfl hm_lawD37 (hc_rws_cons rfl hm_lawD38 (hc_rws_cons rfl hm_lawD39 (hc_rws_cons rfl hm_lawD40 (hc_rws_cons rfl hm_lawD41 (hc_rws_cons rfl hm_lawD42 (hc_rws_cons rfl hm_lawD43 (hc_rws_cons rfl hm_lawD44 (hc_rws_cons rfl hm_lawD45 (hc_rws_cons rfl hm_lawD46 (rfl)))))))))))))))))))))))))))))))))))))))))))))))
end
section
/-! SOUNDNESS: what the evaluator computes, the machine does -/
section HCX
variable {G : hv_G} {p : Program} {l : Launch} {e : Env} {R : Room} {s0 : State} {m : MethodId} {args : Array Value} {below : List Frame} {meth : Method} {cd : Code} {nL : Nat} {Q : State → Prop} {Ts : List Cond} {cc : ByteArray} {oc : Nat} {LS : Nat × (Nat → Option Int32)} {call : Nat → hc_M → List Value → Nat → hc_H → Option hc_R} {fr lo : Nat}
/-- what is known of the script's ints, and the symbols made of them: j shifted by s (10000, 20000), cut to a byte (30000) -/
def hc_LL (G : hv_G) (LS : Nat × (Nat → Option Int32)) : Prop := (LS.1 = 0 ∨ LS.1 = G.1.2.2) ∧ LS.1 < 10000 ∧ (∀ (j : Nat) (x : Int32), LS.2 j = some x → (j < 100000 → G.2.1 j = x) ∧ (100000 ≤ j → j < 200000 → ¬ G.2.1 (j - 100000) = 0) ∧ (200000 ≤ j → G.2.1 (j - 200000) < 0 ∨ x < G.2.1 (j - 200000))) ∧ (∀ (j : Nat) (y : Int32), j < 100 → ¬ y < 0 → y < 32 → G.2.1 (10000 + 100 * j + y.toNatClampNeg) = ((G.2.1 j).toUInt32 >>> (y.toUInt32 &&& Int32.toUInt32 31)).toInt32 ∧ G.2.1 (20000 + 100 * j + y.toNatClampNeg) = (G.2.1 j) >>> (y &&& 31)) ∧ ∀ c : Nat, 10000 ≤ c → c < 30000 → G.2.1 (30000 + c) = (G.2.1 c).toInt8.toInt32
def hc_W (G : hv_G) (p : Program) (l : Launch) (e : Env) (R : Room) (s0 : State) (m : MethodId) (args : Array Value) (below : List Frame) (meth : Method) (cd : Code) (nL : Nat) (Q : State → Prop) (pc : Nat) (lc st : List Value) (n : Nat) (h : hc_H) (c s : Nat) : Prop := hv_W G p l e R s0 m args below meth cd nL Q n (hc_f h) c s pc (hc_lv lc) st
/-- a step that goes on: the counts grow, the locals stay as many, and from there the machine comes here -/
def hc_go (G : hv_G) (p : Program) (l : Launch) (e : Env) (R : Room) (s0 : State) (m : MethodId) (args : Array Value) (below : List Frame) (meth : Method) (cd : Code) (nL : Nat) (pc : Nat) (lc st : List Value) (n : Nat) (h : hc_H) (c s : Nat) (S : hc_S) : Prop := c ≤ S.2.2.2.2.2.1 ∧ s ≤ S.2.2.2.2.2.2 ∧ S.2.1.length = lc.length ∧ (S.2.2.2.2.2.1 ≤ R.cells → S.2.2.2.2.2.2 ≤ R.slots → ∀ Q : State → Prop, hc_W G p l e R s0 m args below meth cd nL Q S.1 S.2.1 S.2.2.1 S.2.2.2.1 S.2.2.2.2.1 S.2.2.2.2.2.1 S.2.2.2.2.2.2 → hc_W G p l e R s0 m args below meth cd nL Q pc lc st n h c s)
def hc_end (G : hv_G) (p : Program) (l : Launch) (e : Env) (R : Room) (s0 : State) (m : MethodId) (args : Array Value) (below : List Frame) (meth : Method) (cd : Code) (nL : Nat) (pc : Nat) (lc st : List Value) (n : Nat) (h : hc_H) (c s : Nat) (r : Option Value) : Prop := hc_W G p l e R s0 m args below meth cd nL (MQ below (hv_Qc G n (hc_f h) r) args s0 c s (fun q => G.1.1 ≤ q)) pc lc st n h c s
def hc_res (G : hv_G) (p : Program) (l : Launch) (e : Env) (R : Room) (s0 : State) (m : MethodId) (args : Array Value) (below : List Frame) (meth : Method) (cd : Code) (nL : Nat) (pc : Nat) (lc st : List Value) (n : Nat) (h : hc_H) (c s : Nat) (r : hc_S ⊕ Option Value) : Prop := match r with
  | .inl S => hc_go G p l e R s0 m args below meth cd nL pc lc st n h c s S
  | .inr r => hc_end G p l e R s0 m args below meth cd nL pc lc st n h c s r
theorem hc_mono {lv lv' : List (Nat × Value)} {n : Nat} {hp : hv_H} {c s pc : Nat} {st : List Value} (h : ∀ q ∈ lv', q ∈ lv) (k : hv_W G p l e R s0 m args below meth cd nL Q n hp c s pc lv' st) : hv_W G p l e R s0 m args below meth cd nL Q n hp c s pc lv st := fun H locs ls h1 h2 h3 h4 => k H locs ls h1 h2 h3 ⟨h4.1, h4.2.1, fun q hq => by
  obtain ⟨q0, hq0, rfl⟩ := List.mem_map.mp hq
  exact h4.2.2 _ (List.mem_map.mpr ⟨q0, h q0 hq0, rfl⟩)⟩
theorem hc_lvm {lc : List Value} {i : Nat} {v : Value} (h : hc_nth lc i = some v) (hv : hc_isV v = true) : (i, v) ∈ hc_lv lc := hc_lv_mem.mpr ⟨by rw [← hc_nth_eq]; exact h, hv⟩
theorem hc_fI {t : hc_H} {i : Nat} {x : hc_C} (h : hc_get t i = some x) : hc_f t i = some (hc_toE x) := by unfold hc_f; rw [h]; rfl
theorem hc_arr_ok {t : Nat} {x : Option hc_C} {a : List Value} (h : hc_arr t x = some a) : x = some (.inl (t, a)) := by
  unfold hc_arr at h
  split at h
  next b =>
    split at h
    next hb =>
      cases h
      have := Nat.eq_of_beq_eq_true hb
      rw [← this]
    · cases h
  · cases h
theorem hc_obj_ok {t : Nat} {x : Option hc_C} {a : List Value} (h : hc_obj t x = some a) : x = some (.inr (t, a)) := by
  unfold hc_obj at h
  split at h
  next b =>
    split at h
    next hb =>
      cases h
      have := Nat.eq_of_beq_eq_true hb
      rw [← this]
    · cases h
  · cases h
theorem hc_el_ok {a : List Value} {j : Int32} {v : Value} (h : hc_el a j = some v) : vp_in j a.length ∧ a.getD j.toNatClampNeg .null = v := by
  unfold hc_el at h
  split at h
  · cases h
  next hj =>
    rw [hc_nth_eq] at h
    have hlt := (List.getElem?_eq_some_iff.mp h).1
    refine ⟨?_, ?_⟩
    · rintro (q | q)
      · exact of_decide_eq_false hj q
      · omega
    · rw [List.getD_eq_getElem?_getD, h]
      rfl
theorem hc_toE_set {a : List Value} {j : Nat} {v : Value} (hj : j < a.length) : (fun i => (a.set j v).getD i .null) = hv_uv (fun i => a.getD i .null) j v := by
  funext i
  unfold hv_uv
  rw [List.getD_eq_getElem?_getD, List.getElem?_set]
  by_cases h : j = i
  · subst h
    simp [hj]
  · have h' : ¬ i = j := fun q => h q.symm
    rw [if_neg h, if_neg h']
    exact (List.getD_eq_getElem?_getD).symm
theorem hc_two_ok {v : Value} (h : hc_two2 v = false) : v.category = 1 := by cases v <;> simp_all [hc_two2, Value.category]

theorem hs_iconst (X : hv_X G p s0 m args cd Ts (hc_own oc) cc nL) (hT : ∀ w ∈ hc_gw, w ∈ Ts) {pc n c s : Nat} {lc st : List Value} {h : hc_H} {r : hc_S ⊕ Option Value} {r1 r2 len : Nat} {ini : Bool} {z : Int} (hd : decode cc pc = .ok (.iconst z, len)) (hk : hc_ok oc ini pc (.iconst z) len r1 r2 = true) (hh : hi_iconst r1 pc lc st n h c s = some r) : hc_res G p l e R s0 m args below meth cd nL pc lc st n h c s r := by
  simp only [hc_ok, Bool.and_eq_true, decide_eq_true_eq] at hk
  have hl : len = 1 := Nat.eq_of_beq_eq_true hk.1
  subst hl
  unfold hi_iconst at hh
  cases hh
  exact ⟨Nat.le_refl _, Nat.le_refl _, rfl, fun _ _ Q k => hw_iconst X hd hk.2 k⟩

theorem hs_bipush (X : hv_X G p s0 m args cd Ts (hc_own oc) cc nL) (hT : ∀ w ∈ hc_gw, w ∈ Ts) {pc n c s : Nat} {lc st : List Value} {h : hc_H} {r : hc_S ⊕ Option Value} {r1 r2 len : Nat} {ini : Bool} {z : Int} (hd : decode cc pc = .ok (.bipush z, len)) (hk : hc_ok oc ini pc (.bipush z) len r1 r2 = true) (hh : hi_bipush r1 pc lc st n h c s = some r) : hc_res G p l e R s0 m args below meth cd nL pc lc st n h c s r := by
  simp only [hc_ok, Bool.and_eq_true, decide_eq_true_eq] at hk
  have hl : len = 2 := Nat.eq_of_beq_eq_true hk.1
  subst hl
  unfold hi_bipush at hh
  cases hh
  exact ⟨Nat.le_refl _, Nat.le_refl _, rfl, fun _ _ Q k => hw_bipush X hd hk.2 k⟩

theorem hs_sipush (X : hv_X G p s0 m args cd Ts (hc_own oc) cc nL) (hT : ∀ w ∈ hc_gw, w ∈ Ts) {pc n c s : Nat} {lc st : List Value} {h : hc_H} {r : hc_S ⊕ Option Value} {r1 r2 len : Nat} {ini : Bool} {z : Int} (hd : decode cc pc = .ok (.sipush z, len)) (hk : hc_ok oc ini pc (.sipush z) len r1 r2 = true) (hh : hi_sipush r1 pc lc st n h c s = some r) : hc_res G p l e R s0 m args below meth cd nL pc lc st n h c s r := by
  simp only [hc_ok, Bool.and_eq_true, decide_eq_true_eq] at hk
  have hl : len = 3 := Nat.eq_of_beq_eq_true hk.1
  subst hl
  unfold hi_sipush at hh
  cases hh
  exact ⟨Nat.le_refl _, Nat.le_refl _, rfl, fun _ _ Q k => hw_sipush X hd hk.2 k⟩

theorem hs_lconst (X : hv_X G p s0 m args cd Ts (hc_own oc) cc nL) (hT : ∀ w ∈ hc_gw, w ∈ Ts) {pc n c s : Nat} {lc st : List Value} {h : hc_H} {r : hc_S ⊕ Option Value} {r1 r2 len : Nat} {ini : Bool} {z : Fin 2} (hd : decode cc pc = .ok (.lconst z, len)) (hk : hc_ok oc ini pc (.lconst z) len r1 r2 = true) (hh : hi_lconst r1 pc lc st n h c s = some r) : hc_res G p l e R s0 m args below meth cd nL pc lc st n h c s r := by
  simp only [hc_ok, Bool.and_eq_true, decide_eq_true_eq] at hk
  have hl : len = 1 := Nat.eq_of_beq_eq_true hk.1
  subst hl
  unfold hi_lconst at hh
  cases hh
  exact ⟨Nat.le_refl _, Nat.le_refl _, rfl, fun _ _ Q k => hw_lconst X hd hk.2 k⟩

theorem hs_ldc_w (X : hv_X G p s0 m args cd Ts (hc_own oc) cc nL) (hT : ∀ w ∈ hc_gw, w ∈ Ts) {pc n c s : Nat} {lc st : List Value} {h : hc_H} {r : hc_S ⊕ Option Value} {r1 r2 len : Nat} {ini : Bool} {z : Nat} (hd : decode cc pc = .ok (.ldc_w z, len)) (hk : hc_ok oc ini pc (.ldc_w z) len r1 r2 = true) (hh : hi_ldc_w r1 pc lc st n h c s = some r) : hc_res G p l e R s0 m args below meth cd nL pc lc st n h c s r := by
  simp only [hc_ok, Bool.and_eq_true] at hk
  have hl : len = 3 := Nat.eq_of_beq_eq_true hk.2
  subst hl
  obtain ⟨pl, hpl⟩ := hc_m4_ok hk.1
  unfold hi_ldc_w at hh
  cases hh
  exact ⟨Nat.le_refl _, Nat.le_refl _, rfl, fun _ _ Q k => hw_ldcw X hd (hT _ (hc_in (hl_CT_ok _ hpl) rfl)) k⟩

theorem hs_ldc2_w (X : hv_X G p s0 m args cd Ts (hc_own oc) cc nL) (hT : ∀ w ∈ hc_gw, w ∈ Ts) {pc n c s : Nat} {lc st : List Value} {h : hc_H} {r : hc_S ⊕ Option Value} {r1 r2 len : Nat} {ini : Bool} {z : Nat} (hd : decode cc pc = .ok (.ldc2_w z, len)) (hk : hc_ok oc ini pc (.ldc2_w z) len r1 r2 = true) (hh : hi_ldc2_w r1 pc lc st n h c s = some r) : hc_res G p l e R s0 m args below meth cd nL pc lc st n h c s r := by
  simp only [hc_ok, Bool.and_eq_true] at hk
  have hl : len = 3 := Nat.eq_of_beq_eq_true hk.2
  subst hl
  obtain ⟨pl, hpl⟩ := hc_m4_ok hk.1
  unfold hi_ldc2_w at hh
  cases hh
  exact ⟨Nat.le_refl _, Nat.le_refl _, rfl, fun _ _ Q k => hw_ldc2 X hd (hT _ (hc_in (hl_CL_ok _ hpl) rfl)) k⟩

theorem hs_ldc (X : hv_X G p s0 m args cd Ts (hc_own oc) cc nL) (hT : ∀ w ∈ hc_gw, w ∈ Ts) {pc n c s : Nat} {lc st : List Value} {h : hc_H} {r : hc_S ⊕ Option Value} {r1 r2 len : Nat} {ini : Bool} {z : Nat} (hd : decode cc pc = .ok (.ldc z, len)) (hk : hc_ok oc ini pc (.ldc z) len r1 r2 = true) (hh : hi_ldc r1 r2 pc lc st n h c s = some r) : hc_res G p l e R s0 m args below meth cd nL pc lc st n h c s r := by
  simp only [hc_ok, Bool.and_eq_true] at hk
  have hl : len = 2 := Nat.eq_of_beq_eq_true hk.1
  subst hl
  obtain ⟨-, hk⟩ := hk
  unfold hi_ldc at hh
  split at hh
  · have hk' : hc_m4 hl_CT oc z r1 = true := hk
    obtain ⟨pl, hpl⟩ := hc_m4_ok hk'
    cases hh
    exact ⟨Nat.le_refl _, Nat.le_refl _, rfl, fun _ _ Q k => hw_ldc X hd (hT _ (hc_in (hl_CT_ok _ hpl) rfl)) k⟩
  next hne =>
    have hk' : (Nat.beq oc 6 && Nat.beq z (hx_ix r1)) = true := by
      split at hk
      · exact absurd rfl hne
      · exact hk
    simp only [Bool.and_eq_true] at hk'
    have e1 := Nat.eq_of_beq_eq_true hk'.1
    have e2 := Nat.eq_of_beq_eq_true hk'.2
    subst e1 e2
    cases hh
    exact ⟨Nat.le_refl _, Nat.le_refl _, rfl, fun _ _ Q k => hw_ldcT X hd k⟩

theorem hs_iload_n (X : hv_X G p s0 m args cd Ts (hc_own oc) cc nL) (hT : ∀ w ∈ hc_gw, w ∈ Ts) {pc n c s : Nat} {lc st : List Value} {h : hc_H} {r : hc_S ⊕ Option Value} {r1 r2 len : Nat} {ini : Bool} {z : Fin 4} (hd : decode cc pc = .ok (.iload_n z, len)) (hk : hc_ok oc ini pc (.iload_n z) len r1 r2 = true) (hh : hi_iload_n r1 pc lc st n h c s = some r) : hc_res G p l e R s0 m args below meth cd nL pc lc st n h c s r := by
  simp only [hc_ok, Bool.and_eq_true, decide_eq_true_eq] at hk
  have hl : len = 1 := Nat.eq_of_beq_eq_true hk.1
  subst hl
  unfold hi_iload_n at hh
  split at hh
  next x hx =>
    cases hh
    exact ⟨Nat.le_refl _, Nat.le_refl _, rfl, fun _ _ Q k => hw_iload_n X hd (Nat.eq_of_beq_eq_true hk.2) (hc_lvm hx rfl) k⟩
  next x hx =>
    cases hh
    exact ⟨Nat.le_refl _, Nat.le_refl _, rfl, fun _ _ Q k => hw_iload_nS X hd (Nat.eq_of_beq_eq_true hk.2) (hc_lvm hx rfl) k⟩
  · cases hh

theorem hs_iload (X : hv_X G p s0 m args cd Ts (hc_own oc) cc nL) (hT : ∀ w ∈ hc_gw, w ∈ Ts) {pc n c s : Nat} {lc st : List Value} {h : hc_H} {r : hc_S ⊕ Option Value} {r1 r2 len : Nat} {ini : Bool} {z : Nat} (hd : decode cc pc = .ok (.iload z, len)) (hk : hc_ok oc ini pc (.iload z) len r1 r2 = true) (hh : hi_iload r1 pc lc st n h c s = some r) : hc_res G p l e R s0 m args below meth cd nL pc lc st n h c s r := by
  simp only [hc_ok, Bool.and_eq_true, decide_eq_true_eq] at hk
  have hl : len = 2 := Nat.eq_of_beq_eq_true hk.1
  subst hl
  have hz := Nat.eq_of_beq_eq_true hk.2
  subst hz
  unfold hi_iload at hh
  split at hh
  next x hx =>
    cases hh
    exact ⟨Nat.le_refl _, Nat.le_refl _, rfl, fun _ _ Q k => hw_iload X hd (hc_lvm hx rfl) k⟩
  next x hx =>
    cases hh
    exact ⟨Nat.le_refl _, Nat.le_refl _, rfl, fun _ _ Q k => hw_iloadS X hd (hc_lvm hx rfl) k⟩
  · cases hh

theorem hs_lload_n (X : hv_X G p s0 m args cd Ts (hc_own oc) cc nL) (hT : ∀ w ∈ hc_gw, w ∈ Ts) {pc n c s : Nat} {lc st : List Value} {h : hc_H} {r : hc_S ⊕ Option Value} {r1 r2 len : Nat} {ini : Bool} {z : Fin 4} (hd : decode cc pc = .ok (.lload_n z, len)) (hk : hc_ok oc ini pc (.lload_n z) len r1 r2 = true) (hh : hi_lload_n r1 pc lc st n h c s = some r) : hc_res G p l e R s0 m args below meth cd nL pc lc st n h c s r := by
  simp only [hc_ok, Bool.and_eq_true, decide_eq_true_eq] at hk
  have hl : len = 1 := Nat.eq_of_beq_eq_true hk.1
  subst hl
  unfold hi_lload_n at hh
  split at hh
  next x hx =>
    cases hh
    exact ⟨Nat.le_refl _, Nat.le_refl _, rfl, fun _ _ Q k => hw_lload_n X hd (Nat.eq_of_beq_eq_true hk.2) (hc_lvm hx rfl) k⟩
  · cases hh

theorem hs_lload (X : hv_X G p s0 m args cd Ts (hc_own oc) cc nL) (hT : ∀ w ∈ hc_gw, w ∈ Ts) {pc n c s : Nat} {lc st : List Value} {h : hc_H} {r : hc_S ⊕ Option Value} {r1 r2 len : Nat} {ini : Bool} {z : Nat} (hd : decode cc pc = .ok (.lload z, len)) (hk : hc_ok oc ini pc (.lload z) len r1 r2 = true) (hh : hi_lload r1 pc lc st n h c s = some r) : hc_res G p l e R s0 m args below meth cd nL pc lc st n h c s r := by
  simp only [hc_ok, Bool.and_eq_true, decide_eq_true_eq] at hk
  have hl : len = 2 := Nat.eq_of_beq_eq_true hk.1
  subst hl
  have hz := Nat.eq_of_beq_eq_true hk.2
  subst hz
  unfold hi_lload at hh
  split at hh
  next x hx =>
    cases hh
    exact ⟨Nat.le_refl _, Nat.le_refl _, rfl, fun _ _ Q k => hw_lload X hd (hc_lvm hx rfl) k⟩
  · cases hh

theorem hs_aload_n (X : hv_X G p s0 m args cd Ts (hc_own oc) cc nL) (hT : ∀ w ∈ hc_gw, w ∈ Ts) {pc n c s : Nat} {lc st : List Value} {h : hc_H} {r : hc_S ⊕ Option Value} {r1 r2 len : Nat} {ini : Bool} {z : Fin 4} (hd : decode cc pc = .ok (.aload_n z, len)) (hk : hc_ok oc ini pc (.aload_n z) len r1 r2 = true) (hh : hi_aload_n r1 pc lc st n h c s = some r) : hc_res G p l e R s0 m args below meth cd nL pc lc st n h c s r := by
  simp only [hc_ok, Bool.and_eq_true, decide_eq_true_eq] at hk
  have hl : len = 1 := Nat.eq_of_beq_eq_true hk.1
  subst hl
  unfold hi_aload_n at hh
  split at hh
  next x hx =>
    cases hh
    exact ⟨Nat.le_refl _, Nat.le_refl _, rfl, fun _ _ Q k => hw_aload_n X hd (Nat.eq_of_beq_eq_true hk.2) (hc_lvm hx rfl) k⟩
  · cases hh

theorem hs_aload (X : hv_X G p s0 m args cd Ts (hc_own oc) cc nL) (hT : ∀ w ∈ hc_gw, w ∈ Ts) {pc n c s : Nat} {lc st : List Value} {h : hc_H} {r : hc_S ⊕ Option Value} {r1 r2 len : Nat} {ini : Bool} {z : Nat} (hd : decode cc pc = .ok (.aload z, len)) (hk : hc_ok oc ini pc (.aload z) len r1 r2 = true) (hh : hi_aload r1 pc lc st n h c s = some r) : hc_res G p l e R s0 m args below meth cd nL pc lc st n h c s r := by
  simp only [hc_ok, Bool.and_eq_true, decide_eq_true_eq] at hk
  have hl : len = 2 := Nat.eq_of_beq_eq_true hk.1
  subst hl
  have hz := Nat.eq_of_beq_eq_true hk.2
  subst hz
  unfold hi_aload at hh
  split at hh
  next x hx =>
    cases hh
    exact ⟨Nat.le_refl _, Nat.le_refl _, rfl, fun _ _ Q k => hw_aload X hd (hc_lvm hx rfl) k⟩
  · cases hh

theorem hs_istore_n (X : hv_X G p s0 m args cd Ts (hc_own oc) cc nL) (hT : ∀ w ∈ hc_gw, w ∈ Ts) {pc n c s : Nat} {lc st : List Value} {h : hc_H} {r : hc_S ⊕ Option Value} {r1 r2 len : Nat} {ini : Bool} {z : Fin 4} (hn : lc.length = nL) (hd : decode cc pc = .ok (.istore_n z, len)) (hk : hc_ok oc ini pc (.istore_n z) len r1 r2 = true) (hh : hi_istore_n r1 pc lc st n h c s = some r) : hc_res G p l e R s0 m args below meth cd nL pc lc st n h c s r := by
  simp only [hc_ok, Bool.and_eq_true, decide_eq_true_eq] at hk
  have hl : len = 1 := Nat.eq_of_beq_eq_true hk.1
  subst hl
  unfold hi_istore_n at hh
  split at hh
  next x st =>
    split at hh
    next l' hl' =>
      cases hh
      obtain ⟨g1, g2, -⟩ := hc_s1_ok hl'
      exact ⟨Nat.le_refl _, Nat.le_refl _, by subst g2; simp, fun _ _ Q k => hw_istore_n X hd (Nat.eq_of_beq_eq_true hk.2) (by rw [← hn]; exact g1) (hc_mono (hc_lv_s1 hl') k)⟩
    · cases hh
  next x st =>
    split at hh
    next l' hl' =>
      cases hh
      obtain ⟨g1, g2, -⟩ := hc_s1_ok hl'
      exact ⟨Nat.le_refl _, Nat.le_refl _, by subst g2; simp, fun _ _ Q k => hw_istore_nS X hd (Nat.eq_of_beq_eq_true hk.2) (by rw [← hn]; exact g1) (hc_mono (hc_lv_s1 hl') k)⟩
    · cases hh
  · cases hh

theorem hs_istore (X : hv_X G p s0 m args cd Ts (hc_own oc) cc nL) (hT : ∀ w ∈ hc_gw, w ∈ Ts) {pc n c s : Nat} {lc st : List Value} {h : hc_H} {r : hc_S ⊕ Option Value} {r1 r2 len : Nat} {ini : Bool} {z : Nat} (hn : lc.length = nL) (hd : decode cc pc = .ok (.istore z, len)) (hk : hc_ok oc ini pc (.istore z) len r1 r2 = true) (hh : hi_istore r1 pc lc st n h c s = some r) : hc_res G p l e R s0 m args below meth cd nL pc lc st n h c s r := by
  simp only [hc_ok, Bool.and_eq_true, decide_eq_true_eq] at hk
  have hl : len = 2 := Nat.eq_of_beq_eq_true hk.1
  subst hl
  have hz := Nat.eq_of_beq_eq_true hk.2
  subst hz
  unfold hi_istore at hh
  split at hh
  next x st =>
    split at hh
    next l' hl' =>
      cases hh
      obtain ⟨g1, g2, -⟩ := hc_s1_ok hl'
      exact ⟨Nat.le_refl _, Nat.le_refl _, by subst g2; simp, fun _ _ Q k => hw_istore X hd (by rw [← hn]; exact g1) (hc_mono (hc_lv_s1 hl') k)⟩
    · cases hh
  next x st =>
    split at hh
    next l' hl' =>
      cases hh
      obtain ⟨g1, g2, -⟩ := hc_s1_ok hl'
      exact ⟨Nat.le_refl _, Nat.le_refl _, by subst g2; simp, fun _ _ Q k => hw_istoreS X hd (by rw [← hn]; exact g1) (hc_mono (hc_lv_s1 hl') k)⟩
    · cases hh
  · cases hh

theorem hs_astore_n (X : hv_X G p s0 m args cd Ts (hc_own oc) cc nL) (hT : ∀ w ∈ hc_gw, w ∈ Ts) {pc n c s : Nat} {lc st : List Value} {h : hc_H} {r : hc_S ⊕ Option Value} {r1 r2 len : Nat} {ini : Bool} {z : Fin 4} (hn : lc.length = nL) (hd : decode cc pc = .ok (.astore_n z, len)) (hk : hc_ok oc ini pc (.astore_n z) len r1 r2 = true) (hh : hi_astore_n r1 pc lc st n h c s = some r) : hc_res G p l e R s0 m args below meth cd nL pc lc st n h c s r := by
  simp only [hc_ok, Bool.and_eq_true, decide_eq_true_eq] at hk
  have hl : len = 1 := Nat.eq_of_beq_eq_true hk.1
  subst hl
  unfold hi_astore_n at hh
  split at hh
  next x st =>
    split at hh
    next l' hl' =>
      cases hh
      obtain ⟨g1, g2, -⟩ := hc_s1_ok hl'
      exact ⟨Nat.le_refl _, Nat.le_refl _, by subst g2; simp, fun _ _ Q k => hw_astore_n X hd (Nat.eq_of_beq_eq_true hk.2) (by rw [← hn]; exact g1) (hc_mono (hc_lv_s1 hl') k)⟩
    · cases hh
  · cases hh

theorem hs_astore (X : hv_X G p s0 m args cd Ts (hc_own oc) cc nL) (hT : ∀ w ∈ hc_gw, w ∈ Ts) {pc n c s : Nat} {lc st : List Value} {h : hc_H} {r : hc_S ⊕ Option Value} {r1 r2 len : Nat} {ini : Bool} {z : Nat} (hn : lc.length = nL) (hd : decode cc pc = .ok (.astore z, len)) (hk : hc_ok oc ini pc (.astore z) len r1 r2 = true) (hh : hi_astore r1 pc lc st n h c s = some r) : hc_res G p l e R s0 m args below meth cd nL pc lc st n h c s r := by
  simp only [hc_ok, Bool.and_eq_true, decide_eq_true_eq] at hk
  have hl : len = 2 := Nat.eq_of_beq_eq_true hk.1
  subst hl
  have hz := Nat.eq_of_beq_eq_true hk.2
  subst hz
  unfold hi_astore at hh
  split at hh
  next x st =>
    split at hh
    next l' hl' =>
      cases hh
      obtain ⟨g1, g2, -⟩ := hc_s1_ok hl'
      exact ⟨Nat.le_refl _, Nat.le_refl _, by subst g2; simp, fun _ _ Q k => hw_astore X hd (by rw [← hn]; exact g1) (hc_mono (hc_lv_s1 hl') k)⟩
    · cases hh
  · cases hh

theorem hs_lstore_n (X : hv_X G p s0 m args cd Ts (hc_own oc) cc nL) (hT : ∀ w ∈ hc_gw, w ∈ Ts) {pc n c s : Nat} {lc st : List Value} {h : hc_H} {r : hc_S ⊕ Option Value} {r1 r2 len : Nat} {ini : Bool} {z : Fin 4} (hn : lc.length = nL) (hd : decode cc pc = .ok (.lstore_n z, len)) (hk : hc_ok oc ini pc (.lstore_n z) len r1 r2 = true) (hh : hi_lstore_n r1 pc lc st n h c s = some r) : hc_res G p l e R s0 m args below meth cd nL pc lc st n h c s r := by
  simp only [hc_ok, Bool.and_eq_true, decide_eq_true_eq] at hk
  have hl : len = 1 := Nat.eq_of_beq_eq_true hk.1
  subst hl
  unfold hi_lstore_n at hh
  split at hh
  next x st =>
    split at hh
    next l' hl' =>
      cases hh
      obtain ⟨g1, g2, -⟩ := hc_s2_ok hl'
      exact ⟨Nat.le_refl _, Nat.le_refl _, by subst g2; simp, fun _ _ Q k => hw_lstore_n X hd (Nat.eq_of_beq_eq_true hk.2) (by rw [← hn]; exact g1) (hc_mono (hc_lv_s2 hl') k)⟩
    · cases hh
  · cases hh

theorem hs_lstore (X : hv_X G p s0 m args cd Ts (hc_own oc) cc nL) (hT : ∀ w ∈ hc_gw, w ∈ Ts) {pc n c s : Nat} {lc st : List Value} {h : hc_H} {r : hc_S ⊕ Option Value} {r1 r2 len : Nat} {ini : Bool} {z : Nat} (hn : lc.length = nL) (hd : decode cc pc = .ok (.lstore z, len)) (hk : hc_ok oc ini pc (.lstore z) len r1 r2 = true) (hh : hi_lstore r1 pc lc st n h c s = some r) : hc_res G p l e R s0 m args below meth cd nL pc lc st n h c s r := by
  simp only [hc_ok, Bool.and_eq_true, decide_eq_true_eq] at hk
  have hl : len = 2 := Nat.eq_of_beq_eq_true hk.1
  subst hl
  have hz := Nat.eq_of_beq_eq_true hk.2
  subst hz
  unfold hi_lstore at hh
  split at hh
  next x st =>
    split at hh
    next l' hl' =>
      cases hh
      obtain ⟨g1, g2, -⟩ := hc_s2_ok hl'
      exact ⟨Nat.le_refl _, Nat.le_refl _, by subst g2; simp, fun _ _ Q k => hw_lstore X hd (by rw [← hn]; exact g1) (hc_mono (hc_lv_s2 hl') k)⟩
    · cases hh
  · cases hh

theorem hs_iinc (X : hv_X G p s0 m args cd Ts (hc_own oc) cc nL) (hT : ∀ w ∈ hc_gw, w ∈ Ts) {pc n c s : Nat} {lc st : List Value} {h : hc_H} {r : hc_S ⊕ Option Value} {r1 r2 len : Nat} {ini : Bool} {z : Nat} {w : Int} (hn : lc.length = nL) (hd : decode cc pc = .ok (.iinc z w, len)) (hk : hc_ok oc ini pc (.iinc z w) len r1 r2 = true) (hh : hi_iinc r1 r2 pc lc st n h c s = some r) : hc_res G p l e R s0 m args below meth cd nL pc lc st n h c s r := by
  simp only [hc_ok, Bool.and_eq_true, decide_eq_true_eq] at hk
  have hl : len = 3 := Nat.eq_of_beq_eq_true hk.1
  subst hl
  have hz := Nat.eq_of_beq_eq_true hk.2.1
  subst hz
  have hw := hk.2.2
  unfold hi_iinc at hh
  split at hh
  next x hx =>
    split at hh
    next l' hl' =>
      cases hh
      obtain ⟨g1, g2, -⟩ := hc_s1_ok hl'
      rw [← hw] at hl'
      exact ⟨Nat.le_refl _, Nat.le_refl _, by subst g2; simp, fun _ _ Q k => hw_iinc X hd (hc_lvm hx rfl) (by rw [← hn]; exact g1) (hc_mono (hc_lv_s1 hl') k)⟩
    · cases hh
  · cases hh

theorem hs_iadd (X : hv_X G p s0 m args cd Ts (hc_own oc) cc nL) (hT : ∀ w ∈ hc_gw, w ∈ Ts) {pc n c s : Nat} {lc st : List Value} {h : hc_H} {r : hc_S ⊕ Option Value} {r1 r2 len : Nat} {ini : Bool} (hd : decode cc pc = .ok (.iadd, len)) (hk : hc_ok oc ini pc (.iadd) len r1 r2 = true) (hh : hi_iadd pc lc st n h c s = some r) : hc_res G p l e R s0 m args below meth cd nL pc lc st n h c s r := by
  simp only [hc_ok] at hk
  have hl : len = 1 := Nat.eq_of_beq_eq_true hk
  subst hl
  unfold hi_iadd at hh
  split at hh
  next y x st =>
    cases hh
    exact ⟨Nat.le_refl _, Nat.le_refl _, rfl, fun _ _ Q k => hw_iadd X hd k⟩
  · cases hh

theorem hs_isub (X : hv_X G p s0 m args cd Ts (hc_own oc) cc nL) (hT : ∀ w ∈ hc_gw, w ∈ Ts) {pc n c s : Nat} {lc st : List Value} {h : hc_H} {r : hc_S ⊕ Option Value} {r1 r2 len : Nat} {ini : Bool} (hd : decode cc pc = .ok (.isub, len)) (hk : hc_ok oc ini pc (.isub) len r1 r2 = true) (hh : hi_isub pc lc st n h c s = some r) : hc_res G p l e R s0 m args below meth cd nL pc lc st n h c s r := by
  simp only [hc_ok] at hk
  have hl : len = 1 := Nat.eq_of_beq_eq_true hk
  subst hl
  unfold hi_isub at hh
  split at hh
  next y x st =>
    cases hh
    exact ⟨Nat.le_refl _, Nat.le_refl _, rfl, fun _ _ Q k => hw_isub X hd k⟩
  · cases hh

theorem hs_imul (X : hv_X G p s0 m args cd Ts (hc_own oc) cc nL) (hT : ∀ w ∈ hc_gw, w ∈ Ts) {pc n c s : Nat} {lc st : List Value} {h : hc_H} {r : hc_S ⊕ Option Value} {r1 r2 len : Nat} {ini : Bool} (hd : decode cc pc = .ok (.imul, len)) (hk : hc_ok oc ini pc (.imul) len r1 r2 = true) (hh : hi_imul pc lc st n h c s = some r) : hc_res G p l e R s0 m args below meth cd nL pc lc st n h c s r := by
  simp only [hc_ok] at hk
  have hl : len = 1 := Nat.eq_of_beq_eq_true hk
  subst hl
  unfold hi_imul at hh
  split at hh
  next y x st =>
    cases hh
    exact ⟨Nat.le_refl _, Nat.le_refl _, rfl, fun _ _ Q k => hw_imul X hd k⟩
  · cases hh

theorem hs_iand (X : hv_X G p s0 m args cd Ts (hc_own oc) cc nL) (hT : ∀ w ∈ hc_gw, w ∈ Ts) {pc n c s : Nat} {lc st : List Value} {h : hc_H} {r : hc_S ⊕ Option Value} {r1 r2 len : Nat} {ini : Bool} (hd : decode cc pc = .ok (.iand, len)) (hk : hc_ok oc ini pc (.iand) len r1 r2 = true) (hh : hi_iand pc lc st n h c s = some r) : hc_res G p l e R s0 m args below meth cd nL pc lc st n h c s r := by
  simp only [hc_ok] at hk
  have hl : len = 1 := Nat.eq_of_beq_eq_true hk
  subst hl
  unfold hi_iand at hh
  split at hh
  next y x st =>
    cases hh
    exact ⟨Nat.le_refl _, Nat.le_refl _, rfl, fun _ _ Q k => hw_iand X hd k⟩
  · cases hh

theorem hs_ior (X : hv_X G p s0 m args cd Ts (hc_own oc) cc nL) (hT : ∀ w ∈ hc_gw, w ∈ Ts) {pc n c s : Nat} {lc st : List Value} {h : hc_H} {r : hc_S ⊕ Option Value} {r1 r2 len : Nat} {ini : Bool} (hd : decode cc pc = .ok (.ior, len)) (hk : hc_ok oc ini pc (.ior) len r1 r2 = true) (hh : hi_ior pc lc st n h c s = some r) : hc_res G p l e R s0 m args below meth cd nL pc lc st n h c s r := by
  simp only [hc_ok] at hk
  have hl : len = 1 := Nat.eq_of_beq_eq_true hk
  subst hl
  unfold hi_ior at hh
  split at hh
  next y x st =>
    cases hh
    exact ⟨Nat.le_refl _, Nat.le_refl _, rfl, fun _ _ Q k => hw_ior X hd k⟩
  · cases hh

theorem hs_ixor (X : hv_X G p s0 m args cd Ts (hc_own oc) cc nL) (hT : ∀ w ∈ hc_gw, w ∈ Ts) {pc n c s : Nat} {lc st : List Value} {h : hc_H} {r : hc_S ⊕ Option Value} {r1 r2 len : Nat} {ini : Bool} (hd : decode cc pc = .ok (.ixor, len)) (hk : hc_ok oc ini pc (.ixor) len r1 r2 = true) (hh : hi_ixor pc lc st n h c s = some r) : hc_res G p l e R s0 m args below meth cd nL pc lc st n h c s r := by
  simp only [hc_ok] at hk
  have hl : len = 1 := Nat.eq_of_beq_eq_true hk
  subst hl
  unfold hi_ixor at hh
  split at hh
  next y x st =>
    cases hh
    exact ⟨Nat.le_refl _, Nat.le_refl _, rfl, fun _ _ Q k => hw_ixor X hd k⟩
  · cases hh

theorem hs_ishl (X : hv_X G p s0 m args cd Ts (hc_own oc) cc nL) (hT : ∀ w ∈ hc_gw, w ∈ Ts) {pc n c s : Nat} {lc st : List Value} {h : hc_H} {r : hc_S ⊕ Option Value} {r1 r2 len : Nat} {ini : Bool} (hd : decode cc pc = .ok (.ishl, len)) (hk : hc_ok oc ini pc (.ishl) len r1 r2 = true) (hh : hi_ishl pc lc st n h c s = some r) : hc_res G p l e R s0 m args below meth cd nL pc lc st n h c s r := by
  simp only [hc_ok] at hk
  have hl : len = 1 := Nat.eq_of_beq_eq_true hk
  subst hl
  unfold hi_ishl at hh
  split at hh
  next y x st =>
    cases hh
    exact ⟨Nat.le_refl _, Nat.le_refl _, rfl, fun _ _ Q k => hw_ishl X hd k⟩
  · cases hh

theorem hs_ladd (X : hv_X G p s0 m args cd Ts (hc_own oc) cc nL) (hT : ∀ w ∈ hc_gw, w ∈ Ts) {pc n c s : Nat} {lc st : List Value} {h : hc_H} {r : hc_S ⊕ Option Value} {r1 r2 len : Nat} {ini : Bool} (hd : decode cc pc = .ok (.ladd, len)) (hk : hc_ok oc ini pc (.ladd) len r1 r2 = true) (hh : hi_ladd pc lc st n h c s = some r) : hc_res G p l e R s0 m args below meth cd nL pc lc st n h c s r := by
  simp only [hc_ok] at hk
  have hl : len = 1 := Nat.eq_of_beq_eq_true hk
  subst hl
  unfold hi_ladd at hh
  split at hh
  next y x st =>
    cases hh
    exact ⟨Nat.le_refl _, Nat.le_refl _, rfl, fun _ _ Q k => hw_ladd X hd k⟩
  · cases hh

theorem hs_lsub (X : hv_X G p s0 m args cd Ts (hc_own oc) cc nL) (hT : ∀ w ∈ hc_gw, w ∈ Ts) {pc n c s : Nat} {lc st : List Value} {h : hc_H} {r : hc_S ⊕ Option Value} {r1 r2 len : Nat} {ini : Bool} (hd : decode cc pc = .ok (.lsub, len)) (hk : hc_ok oc ini pc (.lsub) len r1 r2 = true) (hh : hi_lsub pc lc st n h c s = some r) : hc_res G p l e R s0 m args below meth cd nL pc lc st n h c s r := by
  simp only [hc_ok] at hk
  have hl : len = 1 := Nat.eq_of_beq_eq_true hk
  subst hl
  unfold hi_lsub at hh
  split at hh
  next y x st =>
    cases hh
    exact ⟨Nat.le_refl _, Nat.le_refl _, rfl, fun _ _ Q k => hw_lsub X hd k⟩
  · cases hh

theorem hs_lmul (X : hv_X G p s0 m args cd Ts (hc_own oc) cc nL) (hT : ∀ w ∈ hc_gw, w ∈ Ts) {pc n c s : Nat} {lc st : List Value} {h : hc_H} {r : hc_S ⊕ Option Value} {r1 r2 len : Nat} {ini : Bool} (hd : decode cc pc = .ok (.lmul, len)) (hk : hc_ok oc ini pc (.lmul) len r1 r2 = true) (hh : hi_lmul pc lc st n h c s = some r) : hc_res G p l e R s0 m args below meth cd nL pc lc st n h c s r := by
  simp only [hc_ok] at hk
  have hl : len = 1 := Nat.eq_of_beq_eq_true hk
  subst hl
  unfold hi_lmul at hh
  split at hh
  next y x st =>
    cases hh
    exact ⟨Nat.le_refl _, Nat.le_refl _, rfl, fun _ _ Q k => hw_lmul X hd k⟩
  · cases hh

theorem hs_lor (X : hv_X G p s0 m args cd Ts (hc_own oc) cc nL) (hT : ∀ w ∈ hc_gw, w ∈ Ts) {pc n c s : Nat} {lc st : List Value} {h : hc_H} {r : hc_S ⊕ Option Value} {r1 r2 len : Nat} {ini : Bool} (hd : decode cc pc = .ok (.lor, len)) (hk : hc_ok oc ini pc (.lor) len r1 r2 = true) (hh : hi_lor pc lc st n h c s = some r) : hc_res G p l e R s0 m args below meth cd nL pc lc st n h c s r := by
  simp only [hc_ok] at hk
  have hl : len = 1 := Nat.eq_of_beq_eq_true hk
  subst hl
  unfold hi_lor at hh
  split at hh
  next y x st =>
    cases hh
    exact ⟨Nat.le_refl _, Nat.le_refl _, rfl, fun _ _ Q k => hw_lor X hd k⟩
  · cases hh

theorem hs_lshl (X : hv_X G p s0 m args cd Ts (hc_own oc) cc nL) (hT : ∀ w ∈ hc_gw, w ∈ Ts) {pc n c s : Nat} {lc st : List Value} {h : hc_H} {r : hc_S ⊕ Option Value} {r1 r2 len : Nat} {ini : Bool} (hd : decode cc pc = .ok (.lshl, len)) (hk : hc_ok oc ini pc (.lshl) len r1 r2 = true) (hh : hi_lshl pc lc st n h c s = some r) : hc_res G p l e R s0 m args below meth cd nL pc lc st n h c s r := by
  simp only [hc_ok] at hk
  have hl : len = 1 := Nat.eq_of_beq_eq_true hk
  subst hl
  unfold hi_lshl at hh
  split at hh
  next y x st =>
    cases hh
    exact ⟨Nat.le_refl _, Nat.le_refl _, rfl, fun _ _ Q k => hw_lshl X hd k⟩
  · cases hh

theorem hs_lcmp (X : hv_X G p s0 m args cd Ts (hc_own oc) cc nL) (hT : ∀ w ∈ hc_gw, w ∈ Ts) {pc n c s : Nat} {lc st : List Value} {h : hc_H} {r : hc_S ⊕ Option Value} {r1 r2 len : Nat} {ini : Bool} (hd : decode cc pc = .ok (.lcmp, len)) (hk : hc_ok oc ini pc (.lcmp) len r1 r2 = true) (hh : hi_lcmp pc lc st n h c s = some r) : hc_res G p l e R s0 m args below meth cd nL pc lc st n h c s r := by
  simp only [hc_ok] at hk
  have hl : len = 1 := Nat.eq_of_beq_eq_true hk
  subst hl
  unfold hi_lcmp at hh
  split at hh
  next y x st =>
    cases hh
    exact ⟨Nat.le_refl _, Nat.le_refl _, rfl, fun _ _ Q k => hw_lcmp X hd k⟩
  · cases hh

theorem hs_i2l (X : hv_X G p s0 m args cd Ts (hc_own oc) cc nL) (hT : ∀ w ∈ hc_gw, w ∈ Ts) {pc n c s : Nat} {lc st : List Value} {h : hc_H} {r : hc_S ⊕ Option Value} {r1 r2 len : Nat} {ini : Bool} (hd : decode cc pc = .ok (.i2l, len)) (hk : hc_ok oc ini pc (.i2l) len r1 r2 = true) (hh : hi_i2l pc lc st n h c s = some r) : hc_res G p l e R s0 m args below meth cd nL pc lc st n h c s r := by
  simp only [hc_ok] at hk
  have hl : len = 1 := Nat.eq_of_beq_eq_true hk
  subst hl
  unfold hi_i2l at hh
  split at hh
  next x st =>
    cases hh
    exact ⟨Nat.le_refl _, Nat.le_refl _, rfl, fun _ _ Q k => hw_i2l X hd k⟩
  · cases hh

theorem hs_l2i (X : hv_X G p s0 m args cd Ts (hc_own oc) cc nL) (hT : ∀ w ∈ hc_gw, w ∈ Ts) {pc n c s : Nat} {lc st : List Value} {h : hc_H} {r : hc_S ⊕ Option Value} {r1 r2 len : Nat} {ini : Bool} (hd : decode cc pc = .ok (.l2i, len)) (hk : hc_ok oc ini pc (.l2i) len r1 r2 = true) (hh : hi_l2i pc lc st n h c s = some r) : hc_res G p l e R s0 m args below meth cd nL pc lc st n h c s r := by
  simp only [hc_ok] at hk
  have hl : len = 1 := Nat.eq_of_beq_eq_true hk
  subst hl
  unfold hi_l2i at hh
  split at hh
  next x st =>
    cases hh
    exact ⟨Nat.le_refl _, Nat.le_refl _, rfl, fun _ _ Q k => hw_l2i X hd k⟩
  · cases hh

theorem hs_i2c (X : hv_X G p s0 m args cd Ts (hc_own oc) cc nL) (hT : ∀ w ∈ hc_gw, w ∈ Ts) {pc n c s : Nat} {lc st : List Value} {h : hc_H} {r : hc_S ⊕ Option Value} {r1 r2 len : Nat} {ini : Bool} (hd : decode cc pc = .ok (.i2c, len)) (hk : hc_ok oc ini pc (.i2c) len r1 r2 = true) (hh : hi_i2c pc lc st n h c s = some r) : hc_res G p l e R s0 m args below meth cd nL pc lc st n h c s r := by
  simp only [hc_ok] at hk
  have hl : len = 1 := Nat.eq_of_beq_eq_true hk
  subst hl
  unfold hi_i2c at hh
  split at hh
  next x st =>
    cases hh
    exact ⟨Nat.le_refl _, Nat.le_refl _, rfl, fun _ _ Q k => hw_i2c X hd k⟩
  · cases hh

theorem hs_iushr (X : hv_X G p s0 m args cd Ts (hc_own oc) cc nL) (hT : ∀ w ∈ hc_gw, w ∈ Ts) {pc n c s : Nat} {lc st : List Value} {h : hc_H} {r : hc_S ⊕ Option Value} {r1 r2 len : Nat} {ini : Bool} (hL : hc_LL G LS) (hd : decode cc pc = .ok (.iushr, len)) (hk : hc_ok oc ini pc (.iushr) len r1 r2 = true) (hh : hi_iushr pc lc st n h c s = some r) : hc_res G p l e R s0 m args below meth cd nL pc lc st n h c s r := by
  simp only [hc_ok] at hk
  have hl : len = 1 := Nat.eq_of_beq_eq_true hk
  subst hl
  unfold hi_iushr at hh
  split at hh
  next y x st =>
    cases hh
    exact ⟨Nat.le_refl _, Nat.le_refl _, rfl, fun _ _ Q k => hw_iushr X hd k⟩
  next y j st =>
    split at hh
    next hc =>
      cases hh
      simp only [Bool.and_eq_true, decide_eq_true_eq, Bool.not_eq_true', decide_eq_false_iff_not] at hc
      obtain ⟨c1, c2, c3⟩ := hc
      have c1' := Nat.le_of_ble_eq_true c1
      have hv := (hL.2.2.2.1 j.toNat y (by omega) c2 c3).1
      have hy : y.toNatClampNeg < 32 := by
        have h1 := Int32.lt_iff_toInt_lt.mp c3
        have h2 : (32 : Int32).toInt = 32 := by decide
        show y.toInt.toNat < 32
        omega
      refine ⟨Nat.le_refl _, Nat.le_refl _, rfl, fun _ _ Q k => ?_⟩
      have e1 : (UInt32.ofNat (10000 + 100 * j.toNat + y.toNatClampNeg)).toNat = 10000 + 100 * j.toNat + y.toNatClampNeg := by
        rw [UInt32.toNat_ofNat']
        exact Nat.mod_eq_of_lt (by omega)
      exact hw_iushrS X hd (by rw [e1]; exact hv) k
    · cases hh
  · cases hh

theorem hs_ishr (X : hv_X G p s0 m args cd Ts (hc_own oc) cc nL) (hT : ∀ w ∈ hc_gw, w ∈ Ts) {pc n c s : Nat} {lc st : List Value} {h : hc_H} {r : hc_S ⊕ Option Value} {r1 r2 len : Nat} {ini : Bool} (hL : hc_LL G LS) (hd : decode cc pc = .ok (.ishr, len)) (hk : hc_ok oc ini pc (.ishr) len r1 r2 = true) (hh : hi_ishr pc lc st n h c s = some r) : hc_res G p l e R s0 m args below meth cd nL pc lc st n h c s r := by
  simp only [hc_ok] at hk
  have hl : len = 1 := Nat.eq_of_beq_eq_true hk
  subst hl
  unfold hi_ishr at hh
  split at hh
  next y x st =>
    cases hh
    exact ⟨Nat.le_refl _, Nat.le_refl _, rfl, fun _ _ Q k => hw_ishr X hd k⟩
  next y j st =>
    split at hh
    next hc =>
      cases hh
      simp only [Bool.and_eq_true, decide_eq_true_eq, Bool.not_eq_true', decide_eq_false_iff_not] at hc
      obtain ⟨c1, c2, c3⟩ := hc
      have c1' := Nat.le_of_ble_eq_true c1
      have hv := (hL.2.2.2.1 j.toNat y (by omega) c2 c3).2
      have hy : y.toNatClampNeg < 32 := by
        have h1 := Int32.lt_iff_toInt_lt.mp c3
        have h2 : (32 : Int32).toInt = 32 := by decide
        show y.toInt.toNat < 32
        omega
      refine ⟨Nat.le_refl _, Nat.le_refl _, rfl, fun _ _ Q k => ?_⟩
      have e1 : (UInt32.ofNat (20000 + 100 * j.toNat + y.toNatClampNeg)).toNat = 20000 + 100 * j.toNat + y.toNatClampNeg := by
        rw [UInt32.toNat_ofNat']
        exact Nat.mod_eq_of_lt (by omega)
      exact hw_ishrS X hd (by rw [e1]; exact hv) k
    · cases hh
  · cases hh

theorem hs_i2b (X : hv_X G p s0 m args cd Ts (hc_own oc) cc nL) (hT : ∀ w ∈ hc_gw, w ∈ Ts) {pc n c s : Nat} {lc st : List Value} {h : hc_H} {r : hc_S ⊕ Option Value} {r1 r2 len : Nat} {ini : Bool} (hL : hc_LL G LS) (hd : decode cc pc = .ok (.i2b, len)) (hk : hc_ok oc ini pc (.i2b) len r1 r2 = true) (hh : hi_i2b pc lc st n h c s = some r) : hc_res G p l e R s0 m args below meth cd nL pc lc st n h c s r := by
  simp only [hc_ok] at hk
  have hl : len = 1 := Nat.eq_of_beq_eq_true hk
  subst hl
  unfold hi_i2b at hh
  split at hh
  next x st =>
    cases hh
    exact ⟨Nat.le_refl _, Nat.le_refl _, rfl, fun _ _ Q k => hw_i2b X hd k⟩
  next j st =>
    split at hh
    next hc =>
      cases hh
      simp only [Bool.and_eq_true] at hc
      have c1 := Nat.le_of_ble_eq_true hc.1
      have c2 := Nat.le_of_ble_eq_true hc.2
      refine ⟨Nat.le_refl _, Nat.le_refl _, rfl, fun _ _ Q k => ?_⟩
      have e1 : (UInt32.ofNat (30000 + j.toNat)).toNat = 30000 + j.toNat := by
        rw [UInt32.toNat_ofNat']
        exact Nat.mod_eq_of_lt (by omega)
      exact hw_i2bS X hd (by rw [e1]; exact hL.2.2.2.2 j.toNat c1 (by omega)) k
    · cases hh
  · cases hh

theorem hs_idiv (X : hv_X G p s0 m args cd Ts (hc_own oc) cc nL) (hT : ∀ w ∈ hc_gw, w ∈ Ts) {pc n c s : Nat} {lc st : List Value} {h : hc_H} {r : hc_S ⊕ Option Value} {r1 r2 len : Nat} {ini : Bool} (hd : decode cc pc = .ok (.idiv, len)) (hk : hc_ok oc ini pc (.idiv) len r1 r2 = true) (hh : hi_idiv pc lc st n h c s = some r) : hc_res G p l e R s0 m args below meth cd nL pc lc st n h c s r := by
  simp only [hc_ok] at hk
  have hl : len = 1 := Nat.eq_of_beq_eq_true hk
  subst hl
  unfold hi_idiv at hh
  split at hh
  next y x st =>
    split at hh
    · cases hh
    next hy =>
      cases hh
      exact ⟨Nat.le_refl _, Nat.le_refl _, rfl, fun _ _ Q k => hw_idiv X hd (of_decide_eq_false hy) k⟩
  · cases hh

theorem hs_irem (X : hv_X G p s0 m args cd Ts (hc_own oc) cc nL) (hT : ∀ w ∈ hc_gw, w ∈ Ts) {pc n c s : Nat} {lc st : List Value} {h : hc_H} {r : hc_S ⊕ Option Value} {r1 r2 len : Nat} {ini : Bool} (hd : decode cc pc = .ok (.irem, len)) (hk : hc_ok oc ini pc (.irem) len r1 r2 = true) (hh : hi_irem pc lc st n h c s = some r) : hc_res G p l e R s0 m args below meth cd nL pc lc st n h c s r := by
  simp only [hc_ok] at hk
  have hl : len = 1 := Nat.eq_of_beq_eq_true hk
  subst hl
  unfold hi_irem at hh
  split at hh
  next y x st =>
    split at hh
    · cases hh
    next hy =>
      cases hh
      exact ⟨Nat.le_refl _, Nat.le_refl _, rfl, fun _ _ Q k => hw_irem X hd (of_decide_eq_false hy) k⟩
  · cases hh

theorem hs_dup (X : hv_X G p s0 m args cd Ts (hc_own oc) cc nL) (hT : ∀ w ∈ hc_gw, w ∈ Ts) {pc n c s : Nat} {lc st : List Value} {h : hc_H} {r : hc_S ⊕ Option Value} {r1 r2 len : Nat} {ini : Bool} (hd : decode cc pc = .ok (.dup, len)) (hk : hc_ok oc ini pc (.dup) len r1 r2 = true) (hh : hi_dup pc lc st n h c s = some r) : hc_res G p l e R s0 m args below meth cd nL pc lc st n h c s r := by
  simp only [hc_ok] at hk
  have hl : len = 1 := Nat.eq_of_beq_eq_true hk
  subst hl
  unfold hi_dup at hh
  split at hh
  next v st =>
    split at hh
    · cases hh
    next hy =>
      cases hh
      exact ⟨Nat.le_refl _, Nat.le_refl _, rfl, fun _ _ Q k => hw_dup X hd (hc_two_ok hy) k⟩
  · cases hh

theorem hs_pop (X : hv_X G p s0 m args cd Ts (hc_own oc) cc nL) (hT : ∀ w ∈ hc_gw, w ∈ Ts) {pc n c s : Nat} {lc st : List Value} {h : hc_H} {r : hc_S ⊕ Option Value} {r1 r2 len : Nat} {ini : Bool} (hd : decode cc pc = .ok (.pop, len)) (hk : hc_ok oc ini pc (.pop) len r1 r2 = true) (hh : hi_pop pc lc st n h c s = some r) : hc_res G p l e R s0 m args below meth cd nL pc lc st n h c s r := by
  simp only [hc_ok] at hk
  have hl : len = 1 := Nat.eq_of_beq_eq_true hk
  subst hl
  unfold hi_pop at hh
  split at hh
  next v st =>
    split at hh
    · cases hh
    next hy =>
      cases hh
      exact ⟨Nat.le_refl _, Nat.le_refl _, rfl, fun _ _ Q k => hw_pop X hd (hc_two_ok hy) k⟩
  · cases hh

theorem hs_dup2 (X : hv_X G p s0 m args cd Ts (hc_own oc) cc nL) (hT : ∀ w ∈ hc_gw, w ∈ Ts) {pc n c s : Nat} {lc st : List Value} {h : hc_H} {r : hc_S ⊕ Option Value} {r1 r2 len : Nat} {ini : Bool} (hd : decode cc pc = .ok (.dup2, len)) (hk : hc_ok oc ini pc (.dup2) len r1 r2 = true) (hh : hi_dup2 pc lc st n h c s = some r) : hc_res G p l e R s0 m args below meth cd nL pc lc st n h c s r := by
  simp only [hc_ok] at hk
  have hl : len = 1 := Nat.eq_of_beq_eq_true hk
  subst hl
  unfold hi_dup2 at hh
  split at hh
  next v w st =>
    split at hh
    · cases hh
    next hy =>
      cases hh
      have hy2 := Bool.or_eq_false_iff.mp hy
      exact ⟨Nat.le_refl _, Nat.le_refl _, rfl, fun _ _ Q k => hw_dup2 X hd (hc_two_ok hy2.1) (hc_two_ok hy2.2) k⟩
  · cases hh

theorem hs_ifCond (X : hv_X G p s0 m args cd Ts (hc_own oc) cc nL) (hT : ∀ w ∈ hc_gw, w ∈ Ts) {pc n c s : Nat} {lc st : List Value} {h : hc_H} {r : hc_S ⊕ Option Value} {r1 r2 len : Nat} {ini : Bool} {op : Jvm.ClassFile.Cond} {off : Int} (hL : hc_LL G LS) (hd : decode cc pc = .ok (.ifCond op off, len)) (hk : hc_ok oc ini pc (.ifCond op off) len r1 r2 = true) (hh : hi_ifCond LS op r1 pc lc st n h c s = some r) : hc_res G p l e R s0 m args below meth cd nL pc lc st n h c s r := by
  simp only [hc_ok, Bool.and_eq_true, decide_eq_true_eq] at hk
  have hl : len = 3 := Nat.eq_of_beq_eq_true hk.1
  subst hl
  have ht := hk.2
  unfold hi_ifCond at hh
  split at hh
  next x st =>
    split at hh
    next hc =>
      cases hh
      refine ⟨Nat.le_refl _, Nat.le_refl _, rfl, fun _ _ Q k => ?_⟩
      cases op <;> simp only [hc_cmp, decide_eq_true_eq, Bool.not_eq_true', decide_eq_false_iff_not] at hc
      · exact hw_if_eq X hd ht (fun _ => k) (fun q => absurd hc q)
      · exact hw_if_ne X hd ht (fun _ => k) (fun q => absurd q hc)
      · exact hw_if_lt X hd ht (fun _ => k) (fun q => absurd hc q)
      · exact hw_if_ge X hd ht (fun _ => k) (fun q => absurd hc q)
      · exact hw_if_gt X hd ht (fun _ => k) (fun q => absurd hc q)
      · exact hw_if_le X hd ht (fun _ => k) (fun q => absurd hc q)
    next hc =>
      cases hh
      refine ⟨Nat.le_refl _, Nat.le_refl _, rfl, fun _ _ Q k => ?_⟩
      cases op <;> simp only [hc_cmp, decide_eq_true_eq, Bool.not_eq_false', decide_eq_false_iff_not] at hc
      · exact hw_if_eq X hd ht (fun q => absurd q hc) (fun _ => k)
      · exact hw_if_ne X hd ht (fun q => absurd hc q) (fun _ => k)
      · exact hw_if_lt X hd ht (fun q => absurd q hc) (fun _ => k)
      · exact hw_if_ge X hd ht (fun q => absurd q hc) (fun _ => k)
      · exact hw_if_gt X hd ht (fun q => absurd q hc) (fun _ => k)
      · exact hw_if_le X hd ht (fun q => absurd q hc) (fun _ => k)
  next j st =>
    split at hh
    · split at hh
      · cases hh
      next hb =>
        have hj : j.toNat < 1000 := Nat.not_le.mp (fun q => by rw [Nat.ble_eq_true_of_le q] at hb; cases hb)
        split at hh
        next x hx =>
          cases hh
          have hne := (hL.2.2.1 _ _ hx).2.1 (by omega) (by omega)
          rw [Nat.add_sub_cancel] at hne
          exact ⟨Nat.le_refl _, Nat.le_refl _, rfl, fun _ _ Q k => hw_ifS_eq X hd ht rfl (fun q => absurd q hne) (fun _ => k)⟩
        · cases hh
    · cases hh
  · cases hh
theorem hs_if_icmp (X : hv_X G p s0 m args cd Ts (hc_own oc) cc nL) (hT : ∀ w ∈ hc_gw, w ∈ Ts) {pc n c s : Nat} {lc st : List Value} {h : hc_H} {r : hc_S ⊕ Option Value} {r1 r2 len : Nat} {ini : Bool} {op : Jvm.ClassFile.Cond} {off : Int} (hd : decode cc pc = .ok (.if_icmp op off, len)) (hk : hc_ok oc ini pc (.if_icmp op off) len r1 r2 = true) (hh : hi_if_icmp op r1 pc lc st n h c s = some r) : hc_res G p l e R s0 m args below meth cd nL pc lc st n h c s r := by
  simp only [hc_ok, Bool.and_eq_true, decide_eq_true_eq] at hk
  have hl : len = 3 := Nat.eq_of_beq_eq_true hk.1
  subst hl
  have ht := hk.2
  unfold hi_if_icmp at hh
  split at hh
  next y x st =>
    split at hh
    next hc =>
      cases hh
      refine ⟨Nat.le_refl _, Nat.le_refl _, rfl, fun _ _ Q k => ?_⟩
      cases op <;> simp only [hc_cmp, decide_eq_true_eq, Bool.not_eq_true', decide_eq_false_iff_not] at hc
      · exact hw_icmp_eq X hd ht (fun _ => k) (fun q => absurd hc q)
      · exact hw_icmp_ne X hd ht (fun _ => k) (fun q => absurd q hc)
      · exact hw_icmp_lt X hd ht (fun _ => k) (fun q => absurd hc q)
      · exact hw_icmp_ge X hd ht (fun _ => k) (fun q => absurd hc q)
      · exact hw_icmp_gt X hd ht (fun _ => k) (fun q => absurd hc q)
      · exact hw_icmp_le X hd ht (fun _ => k) (fun q => absurd hc q)
    next hc =>
      cases hh
      refine ⟨Nat.le_refl _, Nat.le_refl _, rfl, fun _ _ Q k => ?_⟩
      cases op <;> simp only [hc_cmp, decide_eq_true_eq, Bool.not_eq_false', decide_eq_false_iff_not] at hc
      · exact hw_icmp_eq X hd ht (fun q => absurd q hc) (fun _ => k)
      · exact hw_icmp_ne X hd ht (fun q => absurd hc q) (fun _ => k)
      · exact hw_icmp_lt X hd ht (fun q => absurd q hc) (fun _ => k)
      · exact hw_icmp_ge X hd ht (fun q => absurd q hc) (fun _ => k)
      · exact hw_icmp_gt X hd ht (fun q => absurd q hc) (fun _ => k)
      · exact hw_icmp_le X hd ht (fun q => absurd q hc) (fun _ => k)
  · cases hh
theorem hs_goto (X : hv_X G p s0 m args cd Ts (hc_own oc) cc nL) (hT : ∀ w ∈ hc_gw, w ∈ Ts) {pc n c s : Nat} {lc st : List Value} {h : hc_H} {r : hc_S ⊕ Option Value} {r1 r2 len : Nat} {ini : Bool} {off : Int} (hd : decode cc pc = .ok (.goto off, len)) (hk : hc_ok oc ini pc (.goto off) len r1 r2 = true) (hh : hi_goto r1 pc lc st n h c s = some r) : hc_res G p l e R s0 m args below meth cd nL pc lc st n h c s r := by
  simp only [hc_ok, Bool.and_eq_true, decide_eq_true_eq] at hk
  have hl : len = 3 := Nat.eq_of_beq_eq_true hk.1
  subst hl
  have ht := hk.2
  unfold hi_goto at hh
  cases hh
  exact ⟨Nat.le_refl _, Nat.le_refl _, rfl, fun _ _ Q k => hw_goto X hd ht k⟩

theorem hs_tableswitch (X : hv_X G p s0 m args cd Ts (hc_own oc) cc nL) (hT : ∀ w ∈ hc_gw, w ∈ Ts) {pc n c s : Nat} {lc st : List Value} {h : hc_H} {r : hc_S ⊕ Option Value} {r1 r2 len : Nat} {ini : Bool} {dflt lo hi : Int} {offs : Array Int} (hL : hc_LL G LS) (hd : decode cc pc = .ok (.tableswitch dflt lo hi offs, len)) (hk : hc_ok oc ini pc (.tableswitch dflt lo hi offs) len r1 r2 = true) (hh : hi_tableswitch LS dflt lo hi offs pc lc st n h c s = some r) : hc_res G p l e R s0 m args below meth cd nL pc lc st n h c s r := by
  unfold hi_tableswitch at hh
  split at hh
  next x st =>
    split at hh
    next hx =>
      split at hh
      next h0 =>
        cases hh
        have h0' := of_decide_eq_true h0
        have hx' : x.toInt < lo ∨ hi < x.toInt := by
          rcases Bool.or_eq_true _ _ ▸ hx with q | q
          · exact Or.inl (of_decide_eq_true q)
          · exact Or.inr (of_decide_eq_true q)
        exact ⟨Nat.le_refl _, Nat.le_refl _, rfl, fun _ _ Q k => hw_tableOut X hd hx' (by omega) k⟩
      · cases hh
    next hx =>
      have hx' := Bool.or_eq_false_iff.mp hx
      split at hh
      · cases hh
      next off ho =>
        split at hh
        next h0 =>
          cases hh
          have h0' := of_decide_eq_true h0
          rw [hc_nth_eq, Array.getElem?_toList] at ho
          exact ⟨Nat.le_refl _, Nat.le_refl _, rfl, fun _ _ Q k => hw_tableIn X hd (of_decide_eq_false hx'.1) (of_decide_eq_false hx'.2) ho (by omega) k⟩
        · cases hh
  next j st =>
    split at hh
    · cases hh
    next x hx =>
      split at hh
      next hc =>
        cases hh
        simp only [Bool.and_eq_true, decide_eq_true_eq] at hc
        have hx2 := (hL.2.2.1 _ _ hx).2.2 (by omega)
        rw [Nat.add_sub_cancel] at hx2
        have hx' : (G.2.1 j.toNat).toInt < lo ∨ hi < (G.2.1 j.toNat).toInt := by
          rcases hx2 with q | q
          · have := Int32.lt_iff_toInt_lt.mp q
            have h0 : (0 : Int32).toInt = 0 := by decide
            left
            omega
          · have := Int32.lt_iff_toInt_lt.mp q
            right
            omega
        exact ⟨Nat.le_refl _, Nat.le_refl _, rfl, fun _ _ Q k => hw_tableOutS X hd hx' (by omega) k⟩
      · cases hh
  · cases hh

end HCX
end
section
section HCY
variable {G : hv_G} {p : Program} {l : Launch} {e : Env} {R : Room} {s0 : State} {m : MethodId} {args : Array Value} {below : List Frame} {meth : Method} {cd : Code} {nL : Nat} {Q : State → Prop} {Ts : List Cond} {cc : ByteArray} {oc : Nat} {LS : Nat × (Nat → Option Int32)} {call : Nat → hc_M → List Value → Nat → hc_H → Option hc_R} {fr lo : Nat}
theorem hs_getfield (X : hv_X G p s0 m args cd Ts (hc_own oc) cc nL) (hT : ∀ w ∈ hc_gw, w ∈ Ts) {pc n c s : Nat} {lc st : List Value} {h : hc_H} {r : hc_S ⊕ Option Value} {r1 r2 len z : Nat} {ini : Bool} (hd : decode cc pc = .ok (.getfield z, len)) (hk : hc_ok oc ini pc (.getfield z) len r1 r2 = true) (hh : hi_getfield r1 r2 pc lc st n h c s = some r) : hc_res G p l e R s0 m args below meth cd nL pc lc st n h c s r := by
  simp only [hc_ok, Bool.and_eq_true, Bool.or_eq_true] at hk
  have hl : len = 3 := Nat.eq_of_beq_eq_true hk.1
  subst hl
  have hlk : (Cond.fieldLink (hc_own oc) z (hc_T r1 r2).1 (hc_T r1 r2).2.1 (hc_T r1 r2).2.2.1 ∈ Ts ∨ ∃ host : String, Cond.fieldLinkNest (hc_own oc) z (hc_T r1 r2).1 (hc_T r1 r2).2.1 (hc_T r1 r2).2.2.1 host ∈ Ts) ∧ r1 < 11 ∧ r2 < hc_nf r1 := by
    rcases hk.2 with q | q
    · obtain ⟨pl, hpl⟩ := hc_m5_ok q
      obtain ⟨g1, g2, g3⟩ := hl_FL_ok _ hpl
      exact ⟨Or.inl (hT _ (hc_in g1 rfl)), g2, g3⟩
    · obtain ⟨pl, hpl⟩ := hc_m5_ok q
      obtain ⟨g1, g2, g3⟩ := hl_FN_ok _ hpl
      exact ⟨Or.inr ⟨_, hT _ (hc_in g1 rfl)⟩, g2, g3⟩
  obtain ⟨hlk, hr1, hr2⟩ := hlk
  unfold hi_getfield at hh
  split at hh
  next i st =>
    split at hh
    · cases hh
    next fs hfs =>
      split at hh
      · cases hh
      next v hv =>
        cases hh
        refine ⟨Nat.le_refl _, Nat.le_refl _, rfl, fun _ _ Q k => ?_⟩
        have e1 : (fun j => fs.getD j Value.null) r2 = v := by
          rw [hc_nth_eq] at hv
          show fs.getD r2 .null = v
          rw [List.getD_eq_getElem?_getD, hv]
          rfl
        have k' : hv_W G p l e R s0 m args below meth cd nL Q n (hc_f h) c s (pc + 3) (hc_lv lc) ((fun j => fs.getD j Value.null) r2 :: st) := by rw [e1]; exact k
        exact hw_get X hd (hc_cl hr1) (fun w hw => hT w (hc_u hr1 w hw)) hr2 hlk (hc_fI (hc_obj_ok hfs)) k'
  · cases hh
theorem hc_fit_ok {ty : FieldType} {v : Value} (h : hc_fit ty v = true) : narrow ty (hv_v G v) = hv_v G v ∧ fits ty (hv_v G v) = true := by
  unfold hc_fit at h
  split at h
  · cases v <;> first | exact ⟨rfl, rfl⟩ | cases h
  · split at h
    next x =>
      rcases Bool.or_eq_true _ _ ▸ h with q | q
      · have := of_decide_eq_true q
        subst this
        exact ⟨(by decide : narrow .boolean (.int 0) = .int 0), (by decide : fits .boolean (.int 0) = true)⟩
      · have := of_decide_eq_true q
        subst this
        exact ⟨(by decide : narrow .boolean (.int 1) = .int 1), (by decide : fits .boolean (.int 1) = true)⟩
    · cases h
  · split at h <;> first | exact ⟨rfl, rfl⟩ | cases h
  · split at h <;> first | exact ⟨rfl, rfl⟩ | cases h
  · cases h
theorem hs_putfield (X : hv_X G p s0 m args cd Ts (hc_own oc) cc nL) (hT : ∀ w ∈ hc_gw, w ∈ Ts) {pc n c s : Nat} {lc st : List Value} {h : hc_H} {r : hc_S ⊕ Option Value} {r1 r2 len z : Nat} {ini : Bool} (hin : ini = true → meth.name = "<init>") (hd : decode cc pc = .ok (.putfield z, len)) (hk : hc_ok oc ini pc (.putfield z) len r1 r2 = true) (hh : hi_putfield r1 r2 pc lc st n h c s = some r) : hc_res G p l e R s0 m args below meth cd nL pc lc st n h c s r := by
  simp only [hc_ok, Bool.and_eq_true, Bool.or_eq_true, decide_eq_true_eq, Bool.not_eq_true'] at hk
  have hl : len = 3 := Nat.eq_of_beq_eq_true hk.1
  subst hl
  have hlk : ((Cond.fieldLink (hc_own oc) z (hc_T r1 r2).1 (hc_T r1 r2).2.1 (hc_T r1 r2).2.2.1 ∈ Ts ∧ (hc_T r1 r2).2.2.2 = false) ∨ (∃ host : String, Cond.fieldLinkNest (hc_own oc) z (hc_T r1 r2).1 (hc_T r1 r2).2.1 (hc_T r1 r2).2.2.1 host ∈ Ts ∧ (hc_T r1 r2).2.2.2 = false) ∨ (Cond.fieldLink (hc_own oc) z (hc_T r1 r2).1 (hc_T r1 r2).2.1 (hc_T r1 r2).2.2.1 ∈ Ts ∧ (hc_T r1 r2).2.2.2 = true ∧ meth.name = "<init>" ∧ (hc_T r1 r2).1 = hc_own oc)) ∧ r1 < 11 ∧ r2 < hc_nf r1 := by
    rcases hk.2 with ⟨q, w⟩ | ⟨q, w⟩ | ⟨q, w1, w2, w3⟩
    · obtain ⟨pl, hpl⟩ := hc_m5_ok q
      obtain ⟨g1, g2, g3⟩ := hl_FL_ok _ hpl
      exact ⟨Or.inl ⟨hT _ (hc_in g1 rfl), w⟩, g2, g3⟩
    · obtain ⟨pl, hpl⟩ := hc_m5_ok q
      obtain ⟨g1, g2, g3⟩ := hl_FN_ok _ hpl
      exact ⟨Or.inr (Or.inl ⟨_, hT _ (hc_in g1 rfl), w⟩), g2, g3⟩
    · obtain ⟨pl, hpl⟩ := hc_m5_ok q
      obtain ⟨g1, g2, g3⟩ := hl_FL_ok _ hpl
      exact ⟨Or.inr (Or.inr ⟨hT _ (hc_in g1 rfl), w1, hin w2, w3⟩), g2, g3⟩
  obtain ⟨hlk, hr1, hr2⟩ := hlk
  unfold hi_putfield at hh
  split at hh
  next v i st =>
    split at hh
    · cases hh
    next fs hfs =>
      split at hh
      · cases hh
      next hft =>
        split at hh
        · cases hh
        next w hw =>
          split at hh
          · cases hh
          next h' hp' =>
            cases hh
            refine ⟨Nat.le_refl _, Nat.le_refl _, rfl, fun _ _ Q k => ?_⟩
            have hf := hc_fit_ok (G := G) hft
            rw [hc_nth_eq] at hw
            have hlt := (List.getElem?_eq_some_iff.mp hw).1
            have k' : hv_W G p l e R s0 m args below meth cd nL Q n (hv_up (hc_f h) i (.inr (r1, hv_uv (fun j => fs.getD j .null) r2 v))) c s (pc + 3) (hc_lv lc) st := by
              rw [← hc_toE_set hlt, ← hc_set_eq]
              have := hc_f_put hp'
              unfold hc_W at k
              rw [this] at k
              exact k
            exact hw_put X hd (hc_cl hr1) (fun w hw => hT w (hc_u hr1 w hw)) (hc_ty hr1) (hc_nm hr1) hr2 hlk hf.1 hf.2 (hc_fI (hc_obj_ok hfs)) k'
  · cases hh
theorem hs_ald {t : Nat} {pc n c s : Nat} {lc st : List Value} {h : hc_H} {r : hc_S ⊕ Option Value} (hh : hc_ald t pc lc st n h c s = some r) : ∃ (i : Nat) (a : List Value) (j : Int32) (st' : List Value), st = .int j :: .ref (i + 1) :: st' ∧ hc_f h i = some (.inl (t, a.length, fun j => a.getD j .null)) ∧ vp_in j a.length ∧ r = .inl (pc + 1, lc, a.getD j.toNatClampNeg .null :: st', n, h, c, s) := by
  unfold hc_ald at hh
  split at hh
  next j i st =>
    split at hh
    · cases hh
    next a ha =>
      split at hh
      · cases hh
      next v hv =>
        cases hh
        obtain ⟨g1, g2⟩ := hc_el_ok hv
        exact ⟨i, a, j, st, rfl, hc_fI (hc_arr_ok ha), g1, by rw [g2]⟩
  · cases hh
theorem hs_iaload (X : hv_X G p s0 m args cd Ts (hc_own oc) cc nL) (hT : ∀ w ∈ hc_gw, w ∈ Ts) {pc n c s : Nat} {lc st : List Value} {h : hc_H} {r : hc_S ⊕ Option Value} {r1 r2 len : Nat} {ini : Bool} (hL : hc_LL G LS) (hd : decode cc pc = .ok (.iaload, len)) (hk : hc_ok oc ini pc .iaload len r1 r2 = true) (hh : hi_iaload LS pc lc st n h c s = some r) : hc_res G p l e R s0 m args below meth cd nL pc lc st n h c s r := by
  simp only [hc_ok] at hk
  have hl : len = 1 := Nat.eq_of_beq_eq_true hk
  subst hl
  unfold hi_iaload at hh
  split at hh
  next j st =>
    split at hh
    · cases hh
    next hj =>
      have hj' := Bool.or_eq_false_iff.mp hj
      have hlt : j.toNatClampNeg < LS.1 := by
        have := hj'.2
        exact Nat.not_le.mp (fun q => by rw [Nat.ble_eq_true_of_le q] at this; cases this)
      have h9 : LS.1 < 10000 := hL.2.1
      have hL1 : LS.1 = G.1.2.2 := hL.1.resolve_left (by omega)
      have hin : vp_in j G.1.2.2 := by
        rintro (q | q)
        · exact of_decide_eq_false hj'.1 q
        · rw [← hL1] at q; omega
      split at hh
      next x hx =>
        cases hh
        exact ⟨Nat.le_refl _, Nat.le_refl _, rfl, fun _ _ Q k => hw_sldK X hd hin ((hL.2.2.1 _ _ hx).1 (by omega)) k⟩
      · cases hh
        refine ⟨Nat.le_refl _, Nat.le_refl _, rfl, fun _ _ Q k => hw_sld X hd hin ?_ k⟩
        rw [UInt32.toNat_ofNat']
        exact Nat.mod_eq_of_lt (by have := hL.2.1; omega)
  next st h0 =>
    obtain ⟨i, a, j, st', rfl, g1, g2, rfl⟩ := hs_ald hh
    exact ⟨Nat.le_refl _, Nat.le_refl _, rfl, fun _ _ Q k => hw_iald X hd g1 g2 k⟩
theorem hs_baload (X : hv_X G p s0 m args cd Ts (hc_own oc) cc nL) (hT : ∀ w ∈ hc_gw, w ∈ Ts) {pc n c s : Nat} {lc st : List Value} {h : hc_H} {r : hc_S ⊕ Option Value} {r1 r2 len : Nat} {ini : Bool} (hd : decode cc pc = .ok (.baload, len)) (hk : hc_ok oc ini pc .baload len r1 r2 = true) (hh : hi_baload pc lc st n h c s = some r) : hc_res G p l e R s0 m args below meth cd nL pc lc st n h c s r := by
  simp only [hc_ok] at hk
  have hl : len = 1 := Nat.eq_of_beq_eq_true hk
  subst hl
  unfold hi_baload at hh
  split at hh
  next r' hr' =>
    cases hh
    obtain ⟨i, a, j, st', rfl, g1, g2, rfl⟩ := hs_ald hr'
    exact ⟨Nat.le_refl _, Nat.le_refl _, rfl, fun _ _ Q k => hw_bald X hd g1 g2 k⟩
  · obtain ⟨i, a, j, st', rfl, g1, g2, rfl⟩ := hs_ald hh
    exact ⟨Nat.le_refl _, Nat.le_refl _, rfl, fun _ _ Q k => hw_zald X hd g1 g2 k⟩
theorem hs_laload (X : hv_X G p s0 m args cd Ts (hc_own oc) cc nL) (hT : ∀ w ∈ hc_gw, w ∈ Ts) {pc n c s : Nat} {lc st : List Value} {h : hc_H} {r : hc_S ⊕ Option Value} {r1 r2 len : Nat} {ini : Bool} (hd : decode cc pc = .ok (.laload, len)) (hk : hc_ok oc ini pc .laload len r1 r2 = true) (hh : hi_laload pc lc st n h c s = some r) : hc_res G p l e R s0 m args below meth cd nL pc lc st n h c s r := by
  simp only [hc_ok] at hk
  have hl : len = 1 := Nat.eq_of_beq_eq_true hk
  subst hl
  unfold hi_laload at hh
  obtain ⟨i, a, j, st', rfl, g1, g2, rfl⟩ := hs_ald hh
  exact ⟨Nat.le_refl _, Nat.le_refl _, rfl, fun _ _ Q k => hw_lald X hd g1 g2 k⟩
theorem hs_aaload (X : hv_X G p s0 m args cd Ts (hc_own oc) cc nL) (hT : ∀ w ∈ hc_gw, w ∈ Ts) {pc n c s : Nat} {lc st : List Value} {h : hc_H} {r : hc_S ⊕ Option Value} {r1 r2 len : Nat} {ini : Bool} (hd : decode cc pc = .ok (.aaload, len)) (hk : hc_ok oc ini pc .aaload len r1 r2 = true) (hh : hi_aaload pc lc st n h c s = some r) : hc_res G p l e R s0 m args below meth cd nL pc lc st n h c s r := by
  simp only [hc_ok] at hk
  have hl : len = 1 := Nat.eq_of_beq_eq_true hk
  subst hl
  unfold hi_aaload at hh
  split at hh
  next r' hr' =>
    cases hh
    obtain ⟨i, a, j, st', rfl, g1, g2, rfl⟩ := hs_ald hr'
    exact ⟨Nat.le_refl _, Nat.le_refl _, rfl, fun _ _ Q k => hw_aald X hd rfl rfl g1 g2 k⟩
  · obtain ⟨i, a, j, st', rfl, g1, g2, rfl⟩ := hs_ald hh
    exact ⟨Nat.le_refl _, Nat.le_refl _, rfl, fun _ _ Q k => hw_aald X hd rfl rfl g1 g2 k⟩
theorem hs_ast {t i : Nat} {j : Int32} {v : Value} {pc n c s : Nat} {lc st : List Value} {h : hc_H} {r : hc_S ⊕ Option Value} (hh : hc_ast t i j v pc lc st n h c s = some r) : ∃ (a : List Value) (h' : hc_H), hc_f h i = some (.inl (t, a.length, fun j => a.getD j .null)) ∧ vp_in j a.length ∧ r = .inl (pc + 1, lc, st, n, h', c, s) ∧ hc_f h' = hv_up (hc_f h) i (.inl (t, a.length, hv_uv (fun j => a.getD j .null) j.toNatClampNeg v)) := by
  unfold hc_ast at hh
  split at hh
  · cases hh
  next a ha =>
    split at hh
    · cases hh
    next w hw =>
      split at hh
      · cases hh
      next h' hp' =>
        cases hh
        obtain ⟨g1, g2⟩ := hc_el_ok hw
        have hlt : j.toNatClampNeg < a.length := Nat.not_le.mp fun q => g1 (Or.inr q)
        refine ⟨a, h', hc_fI (hc_arr_ok ha), g1, rfl, ?_⟩
        rw [hc_f_put hp', hc_set_eq]
        show hv_up _ _ (.inl (t, (a.set j.toNatClampNeg v).length, fun i => (a.set j.toNatClampNeg v).getD i .null)) = _
        rw [hc_toE_set hlt, List.length_set]
theorem hs_iastore (X : hv_X G p s0 m args cd Ts (hc_own oc) cc nL) (hT : ∀ w ∈ hc_gw, w ∈ Ts) {pc n c s : Nat} {lc st : List Value} {h : hc_H} {r : hc_S ⊕ Option Value} {r1 r2 len : Nat} {ini : Bool} (hd : decode cc pc = .ok (.iastore, len)) (hk : hc_ok oc ini pc .iastore len r1 r2 = true) (hh : hi_iastore pc lc st n h c s = some r) : hc_res G p l e R s0 m args below meth cd nL pc lc st n h c s r := by
  simp only [hc_ok] at hk
  have hl : len = 1 := Nat.eq_of_beq_eq_true hk
  subst hl
  unfold hi_iastore at hh
  split at hh
  next x j i st =>
    obtain ⟨a, h', g1, g2, rfl, g3⟩ := hs_ast hh
    exact ⟨Nat.le_refl _, Nat.le_refl _, rfl, fun _ _ Q k => hw_iast X hd rfl g1 g2 (by unfold hc_W at k; rw [g3] at k; exact k)⟩
  next x j i st =>
    obtain ⟨a, h', g1, g2, rfl, g3⟩ := hs_ast hh
    exact ⟨Nat.le_refl _, Nat.le_refl _, rfl, fun _ _ Q k => hw_iast X hd rfl g1 g2 (by unfold hc_W at k; rw [g3] at k; exact k)⟩
  · cases hh
theorem hs_bastore (X : hv_X G p s0 m args cd Ts (hc_own oc) cc nL) (hT : ∀ w ∈ hc_gw, w ∈ Ts) {pc n c s : Nat} {lc st : List Value} {h : hc_H} {r : hc_S ⊕ Option Value} {r1 r2 len : Nat} {ini : Bool} (hL : hc_LL G LS) (hd : decode cc pc = .ok (.bastore, len)) (hk : hc_ok oc ini pc .bastore len r1 r2 = true) (hh : hi_bastore pc lc st n h c s = some r) : hc_res G p l e R s0 m args below meth cd nL pc lc st n h c s r := by
  simp only [hc_ok] at hk
  have hl : len = 1 := Nat.eq_of_beq_eq_true hk
  subst hl
  unfold hi_bastore at hh
  split at hh
  next x j i st =>
    split at hh
    · obtain ⟨a, h', g1, g2, rfl, g3⟩ := hs_ast hh
      exact ⟨Nat.le_refl _, Nat.le_refl _, rfl, fun _ _ Q k => hw_bast X hd g1 g2 (by unfold hc_W at k; rw [g3] at k; exact k)⟩
    · split at hh
      next hx =>
        have hy : narrow .boolean (.int x) = .int x := by
          rcases Bool.or_eq_true _ _ ▸ hx with q | q
          · have := of_decide_eq_true q
            subst this
            decide
          · have := of_decide_eq_true q
            subst this
            decide
        obtain ⟨a, h', g1, g2, rfl, g3⟩ := hs_ast hh
        exact ⟨Nat.le_refl _, Nat.le_refl _, rfl, fun _ _ Q k => hw_zast X hd hy g1 g2 (by unfold hc_W at k; rw [g3] at k; exact k)⟩
      · cases hh
  next x j i st =>
    split at hh
    next hc =>
      simp only [Bool.and_eq_true] at hc
      have c1 := Nat.le_of_ble_eq_true hc.1
      have c2 := Nat.le_of_ble_eq_true hc.2
      obtain ⟨a, h', g1, g2, rfl, g3⟩ := hs_ast hh
      have hv := hL.2.2.2.2 (x.toNat - 30000) (by omega) (by omega)
      rw [show 30000 + (x.toNat - 30000) = x.toNat by omega] at hv
      exact ⟨Nat.le_refl _, Nat.le_refl _, rfl, fun _ _ Q k => hw_bastS X hd hv g1 g2 (by unfold hc_W at k; rw [g3] at k; exact k)⟩
    · cases hh
  · cases hh
theorem hs_lastore (X : hv_X G p s0 m args cd Ts (hc_own oc) cc nL) (hT : ∀ w ∈ hc_gw, w ∈ Ts) {pc n c s : Nat} {lc st : List Value} {h : hc_H} {r : hc_S ⊕ Option Value} {r1 r2 len : Nat} {ini : Bool} (hd : decode cc pc = .ok (.lastore, len)) (hk : hc_ok oc ini pc .lastore len r1 r2 = true) (hh : hi_lastore pc lc st n h c s = some r) : hc_res G p l e R s0 m args below meth cd nL pc lc st n h c s r := by
  simp only [hc_ok] at hk
  have hl : len = 1 := Nat.eq_of_beq_eq_true hk
  subst hl
  unfold hi_lastore at hh
  split at hh
  next x j i st =>
    obtain ⟨a, h', g1, g2, rfl, g3⟩ := hs_ast hh
    exact ⟨Nat.le_refl _, Nat.le_refl _, rfl, fun _ _ Q k => hw_last X hd g1 g2 (by unfold hc_W at k; rw [g3] at k; exact k)⟩
  · cases hh
theorem hs_aastore (X : hv_X G p s0 m args cd Ts (hc_own oc) cc nL) (hT : ∀ w ∈ hc_gw, w ∈ Ts) {pc n c s : Nat} {lc st : List Value} {h : hc_H} {r : hc_S ⊕ Option Value} {r1 r2 len : Nat} {ini : Bool} (hd : decode cc pc = .ok (.aastore, len)) (hk : hc_ok oc ini pc .aastore len r1 r2 = true) (hh : hi_aastore pc lc st n h c s = some r) : hc_res G p l e R s0 m args below meth cd nL pc lc st n h c s r := by
  simp only [hc_ok] at hk
  have hl : len = 1 := Nat.eq_of_beq_eq_true hk
  subst hl
  unfold hi_aastore at hh
  split at hh
  next iv j i st =>
    split at hh
    · cases hh
    next fs hfs =>
      obtain ⟨a, h', g1, g2, rfl, g3⟩ := hs_ast hh
      exact ⟨Nat.le_refl _, Nat.le_refl _, rfl, fun _ _ Q k => hw_aast (r := (RX2, TX2, 11)) X hd rfl g1 (hc_fI (hc_obj_ok hfs)) rfl g2 (by unfold hc_W at k; rw [g3] at k; exact k)⟩
  · cases hh
theorem hs_arraylength (X : hv_X G p s0 m args cd Ts (hc_own oc) cc nL) (hT : ∀ w ∈ hc_gw, w ∈ Ts) {pc n c s : Nat} {lc st : List Value} {h : hc_H} {r : hc_S ⊕ Option Value} {r1 r2 len : Nat} {ini : Bool} (hL : LS.1 = 0 ∨ LS.1 = G.1.2.2) (hd : decode cc pc = .ok (.arraylength, len)) (hk : hc_ok oc ini pc .arraylength len r1 r2 = true) (hh : hi_arraylength LS pc lc st n h c s = some r) : hc_res G p l e R s0 m args below meth cd nL pc lc st n h c s r := by
  simp only [hc_ok] at hk
  have hl : len = 1 := Nat.eq_of_beq_eq_true hk
  subst hl
  unfold hi_arraylength at hh
  split at hh
  next st =>
    split at hh
    · cases hh
    next h0 =>
      cases hh
      have hL1 : LS.1 = G.1.2.2 := hL.resolve_left (fun q => by rw [q] at h0; cases h0)
      exact ⟨Nat.le_refl _, Nat.le_refl _, rfl, fun _ _ Q k => hw_slen X hd (by rw [hL1]) k⟩
  next i st =>
    split at hh
    next a ha =>
      split at hh
      · cases hh
      next hb =>
        cases hh
        have hlt : a.1 < 6 := Nat.not_le.mp (fun q => by rw [Nat.ble_eq_true_of_le q] at hb; cases hb)
        have hty : ∃ ty, hv_tyl[a.1]? = some ty := ⟨hv_tyl[a.1]'hlt, List.getElem?_eq_getElem hlt⟩
        obtain ⟨ty, hty⟩ := hty
        exact ⟨Nat.le_refl _, Nat.le_refl _, rfl, fun _ _ Q k => hw_alen X hd hty (hc_fI ha) rfl k⟩
    · cases hh
  · cases hh
theorem hc_dvv {ty : FieldType} (h : hc_def ty = true) : defaultValue ty = hv_v G (defaultValue ty) := by
  unfold hc_def at h
  split at h <;> first | rfl | cases h
theorem hs_new (X : hv_X G p s0 m args cd Ts (hc_own oc) cc nL) (hT : ∀ w ∈ hc_gw, w ∈ Ts) {pc n c s : Nat} {lc st : List Value} {h : hc_H} {r : hc_S ⊕ Option Value} {r1 r2 len z : Nat} {ini : Bool} (hd : decode cc pc = .ok (.new z, len)) (hk : hc_ok oc ini pc (.new z) len r1 r2 = true) (hh : hi_new r1 pc lc st n h c s = some r) : hc_res G p l e R s0 m args below meth cd nL pc lc st n h c s r := by
  simp only [hc_ok, Bool.and_eq_true] at hk
  have hl : len = 3 := Nat.eq_of_beq_eq_true hk.1
  subst hl
  obtain ⟨pl, hpl⟩ := hc_m4_ok hk.2
  obtain ⟨g1, hr1⟩ := hl_NW_ok _ hpl
  have hr1 : r1 < 11 := hr1
  obtain ⟨i1, i2⟩ := hl_IN_all r1 (List.mem_range.mpr hr1)
  obtain ⟨p1, hp1⟩ := hc_m2_ok i1
  obtain ⟨p2, hp2⟩ := hc_m2_ok i2
  unfold hi_new at hh
  split at hh
  · cases hh
  next h' hp' =>
    cases hh
    refine ⟨Nat.le_add_right _ _, Nat.le_add_right _ _, rfl, fun q1 q2 Q k => ?_⟩
    refine hw_new X hd (hc_cl hr1) (fun w hw => hT w (hc_u hr1 w hw)) (hc_ty hr1) (hT _ (hc_in g1 rfl)) (hT _ (hc_in (hl_IN_ok _ hp1) rfl)) (hT _ (hc_in (hl_IC_ok _ hp2) rfl)) (f := fun j => ((List.range (hc_nf r1)).map (fun k => defaultValue (hc_tyX r1 k))).getD j .null) ?_ q1 q2 ?_
    · intro j hj
      rw [List.getD_eq_getElem?_getD]
      simp only [List.getElem?_map, List.getElem?_range hj, Option.map_some, Option.getD_some]
      exact hc_dvv (hc_dv r1 hr1 j hj)
    · unfold hc_W at k
      rw [hc_f_put hp'] at k
      exact k
theorem hc_ble {a b : Nat} (h : Nat.ble a b = false) : b < a := Nat.not_le.mp (fun q => by rw [Nat.ble_eq_true_of_le q] at h; cases h)
def hv_sim (x y : Option hv_E) : Prop := x = y ∨ ∃ (t N : Nat) (f g : Nat → Value), x = some (.inl (t, N, f)) ∧ y = some (.inl (t, N, g)) ∧ ∀ j, j < N → f j = g j
theorem hv_sim_P {n : Nat} {hp hp' : hv_H} {H : Heap} (h : ∀ i, hv_sim (hp i) (hp' i)) (hP : hv_P G n hp H) : hv_P G n hp' H := by
  refine ⟨hP.1, fun i x hx => ?_⟩
  rcases h i with q | ⟨t, N, f, g, q1, q2, q3⟩
  · exact hP.2 i x (q.trans hx)
  · rw [q2] at hx
    cases hx
    have := hP.2 i _ q1
    show H[G.1.1 + i]? = some (arrV _ _ _)
    have e1 : arrV (G.2.2.2 t) N (fun j => hv_v G (f j)) = arrV (G.2.2.2 t) N (fun j => hv_v G (g j)) := by
      unfold arrV
      congr 2
      funext j
      exact congrArg (hv_v G) (q3 j.val j.isLt)
    rw [← e1]
    exact this
theorem hc_sim {n c s pc : Nat} {hp hp' : hv_H} {lv : List (Nat × Value)} {st : List Value} (h : ∀ i, hv_sim (hp i) (hp' i)) (k : hv_W G p l e R s0 m args below meth cd nL Q n hp' c s pc lv st) : hv_W G p l e R s0 m args below meth cd nL Q n hp c s pc lv st := fun H locs ls h1 h2 h3 h4 => k H locs ls (hv_sim_P h h1) h2 h3 h4
theorem hv_sim_up {hp : hv_H} {i t N : Nat} {f g : Nat → Value} (h : ∀ j, j < N → f j = g j) (x : Nat) : hv_sim (hv_up hp i (.inl (t, N, f)) x) (hv_up hp i (.inl (t, N, g)) x) := by
  unfold hv_up
  by_cases hx : x = i
  · rw [if_pos hx, if_pos hx]
    exact Or.inr ⟨t, N, f, g, rfl, rfl, h⟩
  · rw [if_neg hx, if_neg hx]
    exact Or.inl rfl
theorem hc_upL {hp : hv_H} {i t N : Nat} {a : List Value} (hl : a.length = N) : hv_up hp i (hc_toE (.inl (t, a))) = hv_up hp i (.inl (t, N, fun j => a.getD j .null)) := by
  subst hl
  rfl
theorem hc_getr {N j : Nat} {v : Value} (hj : j < N) : (List.replicate N v).getD j .null = v := by
  rw [List.getD_eq_getElem?_getD, List.getElem?_replicate, if_pos hj]
  rfl
theorem hs_newarray (X : hv_X G p s0 m args cd Ts (hc_own oc) cc nL) (hT : ∀ w ∈ hc_gw, w ∈ Ts) {pc n c s : Nat} {lc st : List Value} {h : hc_H} {r : hc_S ⊕ Option Value} {r1 r2 len : Nat} {ty : ArrayType} {ini : Bool} (hd : decode cc pc = .ok (.newarray ty, len)) (hk : hc_ok oc ini pc (.newarray ty) len r1 r2 = true) (hh : hi_newarray r1 pc lc st n h c s = some r) : hc_res G p l e R s0 m args below meth cd nL pc lc st n h c s r := by
  simp only [hc_ok, Bool.and_eq_true, decide_eq_true_eq] at hk
  have hl : len = 2 := Nat.eq_of_beq_eq_true hk.1
  subst hl
  obtain ⟨-, hty, hpv⟩ := hk
  unfold hi_newarray at hh
  split at hh
  next j st =>
    split at hh
    · cases hh
    next hj =>
      have hj' := Bool.or_eq_false_iff.mp hj
      have hlt := hc_ble hj'.2
      split at hh
      · cases hh
      next h' hp' =>
        cases hh
        refine ⟨Nat.le_add_right _ _, Nat.le_add_right _ _, rfl, fun q1 q2 Q k => ?_⟩
        unfold hc_W at k
        rw [hc_f_put hp', hc_upL (List.length_replicate)] at k
        have hcb : j.toNatClampNeg * componentBytes (newarray.typeOf ty) ≤ 536870912 := by
          generalize newarray.typeOf ty = t at hpv
          cases t <;> first | (cases hpv; done) | (show j.toNatClampNeg * _ ≤ _; simp only [componentBytes]; omega)
        have hw : Cond.arrayClass (newarray.typeOf ty) ∈ hc_gw := by
          generalize newarray.typeOf ty = t at hpv
          cases t <;> first | (cases hpv; done) | exact hl_arr_byte | exact hl_arr_int | exact hl_arr_long | exact hl_arr_boolean
        have hv : defaultValue (newarray.typeOf ty) = hv_v G (hc_zero r1) ∧ ∀ C : String, newarray.typeOf ty ≠ .object C := by
          generalize newarray.typeOf ty = t at hty hpv
          match r1, hty with
          | 0, hty => cases hty; exact ⟨rfl, fun C q => by cases q⟩
          | 1, hty => cases hty; exact ⟨rfl, fun C q => by cases q⟩
          | 2, hty => cases hty; exact ⟨rfl, fun C q => by cases q⟩
          | 3, hty => cases hty; exact ⟨rfl, fun C q => by cases q⟩
          | 4, hty => cases hty; cases hpv
          | 5, hty => cases hty; cases hpv
          | t + 6, hty => simp [hv_tyl] at hty
        refine hw_newa X hd rfl hty hv.2 (hT _ hw) hv.1 (of_decide_eq_false hj'.1) rfl hcb q1 q2 ?_
        exact hc_sim (hv_sim_up (fun i hi => (hc_getr hi).symm)) k
  · cases hh
theorem hs_anewarray (X : hv_X G p s0 m args cd Ts (hc_own oc) cc nL) (hT : ∀ w ∈ hc_gw, w ∈ Ts) {pc n c s : Nat} {lc st : List Value} {h : hc_H} {r : hc_S ⊕ Option Value} {r1 r2 len z : Nat} {ini : Bool} (hd : decode cc pc = .ok (.anewarray z, len)) (hk : hc_ok oc ini pc (.anewarray z) len r1 r2 = true) (hh : hi_anewarray pc lc st n h c s = some r) : hc_res G p l e R s0 m args below meth cd nL pc lc st n h c s r := by
  simp only [hc_ok, Bool.and_eq_true] at hk
  have hl : len = 3 := Nat.eq_of_beq_eq_true hk.1
  subst hl
  obtain ⟨pl, hpl⟩ := hc_m3_ok hk.2
  unfold hi_anewarray at hh
  split at hh
  next j st =>
    split at hh
    · cases hh
    next hj =>
      have hj' := Bool.or_eq_false_iff.mp hj
      have hlt := hc_ble hj'.2
      split at hh
      · cases hh
      next h' hp' =>
        cases hh
        refine ⟨Nat.le_add_right _ _, Nat.le_add_right _ _, rfl, fun q1 q2 Q k => ?_⟩
        unfold hc_W at k
        rw [hc_f_put hp', hc_upL (List.length_replicate)] at k
        refine hw_newq X hd (t := 4) rfl (hT _ (hc_in (hl_AN_ok _ hpl) rfl)) (hT _ hl_aoL) (of_decide_eq_false hj'.1) rfl (by omega) q1 q2 ?_
        exact hc_sim (hv_sim_up (fun i hi => (hc_getr hi).symm)) k
  · cases hh
theorem hc_rows_ok : ∀ (N n K : Nat) (t t' : hc_H), hc_rows t n K N = some t' → ∀ j, hc_get t' j = if n ≤ j ∧ j < n + N then some (.inl (1, List.replicate K (.int 0))) else hc_get t j
  | 0, n, K, t, t', h, j => by
    cases h
    rw [if_neg (by omega)]
  | N + 1, n, K, t, t', h, j => by
    have h' : (match hc_rows t n K N with | none => none | some t => hc_put t (n + N) (.inl (1, List.replicate K (.int 0)))) = some t' := h
    split at h'
    · cases h'
    next t1 h1 =>
      rw [hc_get_put h' j, hc_rows_ok N n K t t1 h1 j]
      by_cases e : j = n + N
      · subst e
        rw [if_pos rfl, if_pos (by omega)]
      · rw [if_neg e]
        by_cases e2 : n ≤ j ∧ j < n + N
        · rw [if_pos e2, if_pos (by omega)]
        · rw [if_neg e2, if_neg (by omega)]
theorem hs_multianewarray (X : hv_X G p s0 m args cd Ts (hc_own oc) cc nL) (hT : ∀ w ∈ hc_gw, w ∈ Ts) {pc n c s : Nat} {lc st : List Value} {h : hc_H} {r : hc_S ⊕ Option Value} {r1 r2 len z d : Nat} {ini : Bool} (hd : decode cc pc = .ok (.multianewarray z d, len)) (hk : hc_ok oc ini pc (.multianewarray z d) len r1 r2 = true) (hh : hi_multianewarray pc lc st n h c s = some r) : hc_res G p l e R s0 m args below meth cd nL pc lc st n h c s r := by
  simp only [hc_ok, Bool.and_eq_true] at hk
  have hl : len = 4 := Nat.eq_of_beq_eq_true hk.1
  subst hl
  have hd2 : d = 2 := Nat.eq_of_beq_eq_true hk.2.1
  subst hd2
  obtain ⟨pl, hpl⟩ := hc_m3_ok hk.2.2
  unfold hi_multianewarray at hh
  split at hh
  next b a st =>
    split at hh
    · cases hh
    next hj =>
      have g1 := Bool.or_eq_false_iff.mp hj
      have g2 := Bool.or_eq_false_iff.mp g1.1
      have g3 := Bool.or_eq_false_iff.mp g2.1
      have hb := hc_ble g1.2
      have ha := hc_ble g2.2
      split at hh
      · cases hh
      next h1 hp1 =>
        split at hh
        · cases hh
        next h2 hp2 =>
          cases hh
          refine ⟨by show c ≤ c + 1 + a.toNatClampNeg; omega, by show s ≤ s + a.toNatClampNeg + a.toNatClampNeg * b.toNatClampNeg; omega, rfl, fun q1 q2 Q k => ?_⟩
          refine hw_mna X hd (hT _ (hc_in (hl_MM_ok _ hpl) rfl)) (hT _ hl_aoI) (hT _ hl_arr_int) (of_decide_eq_false g3.1) (of_decide_eq_false g3.2) rfl rfl (by omega) (by omega) (by have : c + 1 + a.toNatClampNeg ≤ R.cells := q1; omega) (by have : s + a.toNatClampNeg + a.toNatClampNeg * b.toNatClampNeg ≤ R.slots := q2; omega) (hc_sim ?_ k)
          intro i
          have hg := hc_rows_ok _ _ _ _ _ hp2 i
          rw [hc_get_put hp1 i] at hg
          unfold hv_mH hc_f
          rw [hg]
          by_cases e1 : i = n
          · subst e1
            rw [if_pos rfl, if_neg (by omega), if_pos rfl]
            refine Or.inr ⟨5, a.toNatClampNeg, _, fun j => ((List.range a.toNatClampNeg).map (fun x => Value.ref (i + 1 + x + 1))).getD j .null, rfl, ?_, fun j hj => ?_⟩
            · show some (Sum.inl (5, ((List.range a.toNatClampNeg).map (fun x => Value.ref (i + 1 + x + 1))).length, _)) = _
              rw [List.length_map, List.length_range]
            · rw [if_pos hj]
              show _ = List.getD _ j Value.null
              rw [List.getD_eq_getElem?_getD]
              simp [hj]
          · rw [if_neg e1]
            by_cases e2 : n < i ∧ i < n + 1 + a.toNatClampNeg
            · rw [if_pos e2, if_pos (by omega)]
              refine Or.inr ⟨1, b.toNatClampNeg, _, fun j => (List.replicate b.toNatClampNeg (Value.int 0)).getD j .null, rfl, ?_, fun j hj => (hc_getr hj).symm⟩
              show some (Sum.inl (1, (List.replicate b.toNatClampNeg (Value.int 0)).length, _)) = _
              rw [List.length_replicate]
            · rw [if_neg e2, if_neg (by omega), if_neg e1]
              exact Or.inl rfl
  · cases hh
end HCY
end
section
section HCZ
variable {G : hv_G} {p : Program} {l : Launch} {e : Env} {R : Room} {s0 : State} {m : MethodId} {args : Array Value} {below : List Frame} {meth : Method} {cd : Code} {nL : Nat} {Q : State → Prop} {Ts : List Cond} {cc : ByteArray} {oc : Nat} {LS : Nat × (Nat → Option Int32)} {call : Nat → hc_M → List Value → Nat → hc_H → Option hc_R} {fr lo : Nat}
/-- what is asked of the callee's function: each of its answers is a contract -/
def hc_CO (G : hv_G) (l : Launch) (fr lo : Nat) (call : Nat → hc_M → List Value → Nat → hc_H → Option hc_R) : Prop := ∀ (k : Nat) (e : hc_M) (as : List Value) (n : Nat) (h : hc_H) (r : Option Value) (n' : Nat) (h' : hc_H) (mc ms : Nat), hc_get hm_pg k = some e → call k e as n h = some (r, n', h', mc, ms) → hv_C G hc_gw l e.1 e.2.1 e.2.2.1 e.2.2.2.1 fr lo n (hc_f h) as r n' (hc_f h') mc ms
theorem hc_yk {k : Nat} {e : hc_M} (h : hc_get hm_pg k = some e) : hc_y k = e.1 := by unfold hc_y; rw [h]
theorem hc_appE (r : Option Value) (st : List Value) : hc_app r st = r.toList ++ st := by cases r <;> rfl
theorem hc_RnO {ci : Nat} (h : ci < 11) : hc_Rn ci = hc_own ci := by
  match ci, h with
  | 0, _ => rfl
  | 1, _ => rfl
  | 2, _ => rfl
  | 3, _ => rfl
  | 4, _ => rfl
  | 5, _ => rfl
  | 6, _ => rfl
  | 7, _ => rfl
  | 8, _ => rfl
  | 9, _ => rfl
  | 10, _ => rfl
  | n + 11, h => exact absurd h (by omega)
theorem hs_str (X : hv_X G p s0 m args cd Ts (hc_own 6) cc nL) (hT : ∀ w ∈ hc_gw, w ∈ Ts) {pc n c s : Nat} {lc st : List Value} {h : hc_H} {r : hc_S ⊕ Option Value} {r1 z : Nat} (hfr : fr + 1 ≤ R.frames) (hlo : 100 + lo ≤ R.locals ∧ 4 ≤ fr ∧ 200 ≤ lo) (hd : decode cc pc = .ok (.invokevirtual z, 3)) (hk : hc_tl r1 z = true) (hh : hi_str r1 pc lc st n h c s = some r) : hc_res G p l e R s0 m args below meth cd nL pc lc st n h c s r := by
  unfold hi_str at hh
  split at hh
  · have hz := Nat.eq_of_beq_eq_true (show Nat.beq z 52 = true from hk)
    subst hz
    split at hh
    next k st =>
      split at hh
      next hcat =>
        cases hh
        have hcat' : (st.map fun v => v.category).sum ≤ 8 := by rw [← hc_cat_eq]; exact Nat.le_of_ble_eq_true hcat
        refine ⟨Nat.le_refl _, Nat.le_refl _, rfl, fun q1 q2 Q k2 => ?_⟩
        exact hw_callT (as := []) (k := k) (na := 0) (mc := 0) (ms := 0) X (hx_len (fr := 4) (lo := 200) (Nat.le_refl _) (Nat.le_refl _)) hd hT hc_gw_keep hl_t_cln (hT _ hl_t_nstr) (hT _ hl_t_m52) (hT _ hl_t_iln) (hT _ hl_t_sln) (by decide) (by decide +kernel) rfl (by omega) (by omega) hcat' q1 q2 k2
      · cases hh
    · cases hh
  · have hz := Nat.eq_of_beq_eq_true (show Nat.beq z 56 = true from hk)
    subst hz
    split at hh
    next i k st =>
      split at hh
      · cases hh
      next hb =>
        have hb2 := Bool.or_eq_false_iff.mp hb
        have hcat : Nat.ble (hc_cat st) 8 = true := by simpa using hb2.2
        split at hh
        next ch hch =>
          cases hh
          rw [hc_nth_eq] at hch
          have hcat' : (st.map fun v => v.category).sum ≤ 8 := by rw [← hc_cat_eq]; exact Nat.le_of_ble_eq_true hcat
          refine ⟨Nat.le_refl _, Nat.le_refl _, rfl, fun q1 q2 Q k2 => ?_⟩
          exact hw_callT (as := [.int i]) (k := k) (na := 1) (mc := 0) (ms := 0) X (hx_chr (fr := 4) (lo := 200) (of_decide_eq_false hb2.1) hch (Nat.le_refl _) (Nat.le_refl _)) hd hT hc_gw_keep hl_t_cch (hT _ hl_t_nstr) (hT _ hl_t_m56) (hT _ hl_t_ich) (hT _ hl_t_sch) (by decide) (by decide +kernel) rfl (by omega) (by omega) hcat' q1 q2 k2
        · cases hh
    · cases hh
  next h0 h1 =>
    have hz : z = 41 := by
      unfold hc_tl at hk
      split at hk
      · exact absurd rfl h0
      · exact absurd rfl h1
      · exact Nat.eq_of_beq_eq_true hk
    subst hz
    split at hh
    next x k st =>
      split at hh
      next hcat =>
        cases hh
        have hcat' : (st.map fun v => v.category).sum ≤ 8 := by rw [← hc_cat_eq]; exact Nat.le_of_ble_eq_true hcat
        refine ⟨Nat.le_refl _, Nat.le_refl _, rfl, fun q1 q2 Q k2 => ?_⟩
        exact hw_callT (as := [.int x]) (k := k) (na := 1) (mc := 0) (ms := 0) X (hx_idx (fr := 4) (lo := 200) (Nat.le_refl _) (Nat.le_refl _)) hd hT hc_gw_keep hl_t_ci1 (hT _ hl_t_nstr) (hT _ hl_t_m41) (hT _ hl_t_ii1) (hT _ hl_t_si1) (by decide) (by decide +kernel) rfl (by omega) (by omega) hcat' q1 q2 k2
      · cases hh
    · cases hh
theorem hs_invokevirtual (X : hv_X G p s0 m args cd Ts (hc_own oc) cc nL) (hT : ∀ w ∈ hc_gw, w ∈ Ts) {pc n c s : Nat} {lc st : List Value} {h : hc_H} {r : hc_S ⊕ Option Value} {r1 r2 len z : Nat} {ini : Bool} (hpg : ∀ {k : Nat} {e : hc_M}, hc_get hm_pg k = some e → hc_MOK e) (hco : hc_CO G l fr lo call) (hfr : fr + 1 ≤ R.frames) (hlo : 100 + lo ≤ R.locals ∧ 4 ≤ fr ∧ 200 ≤ lo) (hd : decode cc pc = .ok (.invokevirtual z, len)) (hk : hc_ok oc ini pc (.invokevirtual z) len r1 r2 = true) (hh : hi_invokevirtual hm_pg call r1 r2 pc lc st n h c s = some r) : hc_res G p l e R s0 m args below meth cd nL pc lc st n h c s r := by
  simp only [hc_ok, Bool.and_eq_true] at hk
  have hl : len = 3 := Nat.eq_of_beq_eq_true hk.1
  subst hl
  obtain ⟨-, hk⟩ := hk
  unfold hi_invokevirtual at hh
  split at hh
  · have hk' : (Nat.beq oc 6 && hc_tl r1 z) = true := hk
    simp only [Bool.and_eq_true] at hk'
    have e1 := Nat.eq_of_beq_eq_true hk'.1
    subst e1
    exact hs_str X hT hfr hlo hd hk'.2 hh
  next hne =>
    have hk' : (hc_m5 hl_ML oc z r1 0 && (hc_m2 hl_SE r1 && (hc_m2 hl_IM r1 && hc_mq r1 (fun e => Nat.ble (e.2.2.2.2.1 + 1) 11)))) = true := by
      split at hk
      · exact absurd rfl hne
      · exact hk
    simp only [Bool.and_eq_true] at hk'
    obtain ⟨hk1, hk2, hk3, hk4⟩ := hk'
    obtain ⟨p1, hp1⟩ := hc_m5_ok hk1
    obtain ⟨p2, hp2⟩ := hc_m2_ok hk2
    obtain ⟨p3, hp3⟩ := hc_m2_ok hk3
    unfold hc_inv0 at hh
    split at hh
    · cases hh
    next e0 he0 =>
      obtain ⟨o1, o2, o3, o4, o5, o6, o7, o8, o9⟩ := hpg he0
      have hy := hc_yk he0
      split at hh
      · cases hh
      next as rest hpop =>
        obtain ⟨bs, rfl, hbl, hst⟩ := hc_pop_eq _ _ _ _ _ hpop
        rw [List.append_nil] at hh
        split at hh
        next i rest =>
          split at hh
          · cases hh
          next fs hfs =>
            split at hh
            · cases hh
            next hcat =>
              split at hh
              · cases hh
              next r0 n' h' mc ms hcall =>
                cases hh
                subst hst
                refine ⟨Nat.le_add_right _ _, Nat.le_add_right _ _, rfl, fun q1 q2 Q k => ?_⟩
                have hM := hco _ _ _ _ _ _ _ _ _ _ he0 hcall
                have hcat' : (rest.map fun v => v.category).sum ≤ 8 := by rw [← hc_cat_eq]; exact Nat.le_of_ble_eq_true hcat
                have hoc : e0.2.2.2.2.1 < 11 := by
                  unfold hc_mq at hk4
                  rw [he0] at hk4
                  exact Nat.le_of_ble_eq_true hk4
                have hrn : hc_Rn e0.2.2.2.2.1 = e0.1.cls := (hc_RnO hoc).trans o6
                unfold hc_W at k ⊢
                rw [hc_appE] at k
                have w1 := hl_ML_ok _ hp1
                have w2 := hl_SE_ok _ hp2
                have w3 := hl_IM_ok _ hp3
                dsimp only at w1 w2 w3
                rw [hy] at w1 w2 w3
                exact hw_callV (rc := (hc_Rn e0.2.2.2.2.1, hc_T e0.2.2.2.2.1, hc_nf e0.2.2.2.2.1)) X hM hd hT hc_gw_keep o1 (hT _ o4) (hT _ (hc_in w1 rfl)) (hT _ (hc_in w3 rfl)) (by show Cond.selects (hc_Rn e0.2.2.2.2.1) e0.1 e0.1 ∈ Ts; rw [hrn]; exact hT _ (hc_in w2 rfl)) o3 o5 hbl (hc_fI (hc_obj_ok hfs)) (hc_cl hoc) hfr (by omega) hcat' q1 q2 k
        · cases hh
theorem hs_invokespecial (X : hv_X G p s0 m args cd Ts (hc_own oc) cc nL) (hT : ∀ w ∈ hc_gw, w ∈ Ts) {pc n c s : Nat} {lc st : List Value} {h : hc_H} {r : hc_S ⊕ Option Value} {r1 r2 len z : Nat} {ini : Bool} (hpg : ∀ {k : Nat} {e : hc_M}, hc_get hm_pg k = some e → hc_MOK e) (hco : hc_CO G l fr lo call) (hfr : fr + 1 ≤ R.frames) (hlo : 100 + lo ≤ R.locals ∧ 4 ≤ fr ∧ 200 ≤ lo) (hd : decode cc pc = .ok (.invokespecial z, len)) (hk : hc_ok oc ini pc (.invokespecial z) len r1 r2 = true) (hh : hi_invokespecial hm_pg call r1 r2 pc lc st n h c s = some r) : hc_res G p l e R s0 m args below meth cd nL pc lc st n h c s r := by
  simp only [hc_ok, Bool.and_eq_true] at hk
  have hl : len = 3 := Nat.eq_of_beq_eq_true hk.1
  subst hl
  obtain ⟨-, hk⟩ := hk
  unfold hi_invokespecial at hh
  split at hh
  · have hk' : hc_m3 hl_OI oc z = true := hk
    obtain ⟨p1, hp1⟩ := hc_m3_ok hk'
    split at hh
    next a st =>
      split at hh
      · cases hh
      next hcat =>
        cases hh
        have hcat' : (st.map fun v => v.category).sum ≤ 8 := by rw [← hc_cat_eq]; exact Nat.le_of_ble_eq_true hcat
        exact ⟨Nat.le_refl _, Nat.le_refl _, rfl, fun _ _ Q k => hw_objInit X hd (hT _ (hc_in (hl_OI_ok _ hp1) rfl)) (hT _ hl_oi1) (hT _ hl_oi2) (by omega) (by omega) hcat' k⟩
    · cases hh
  next hne =>
    have hk' : (hc_m5 hl_ML oc z r1 1 && (hc_m2 hl_IM r1 && (decide ((hc_y r1).name = "<init>") && hc_mq r1 (fun e => e.2.2.2.1.isNone)))) = true := by
      split at hk
      · exact absurd rfl hne
      · exact hk
    simp only [Bool.and_eq_true, decide_eq_true_eq] at hk'
    obtain ⟨hk1, hk2, hk3, hk4⟩ := hk'
    obtain ⟨p1, hp1⟩ := hc_m5_ok hk1
    obtain ⟨p2, hp2⟩ := hc_m2_ok hk2
    unfold hc_inv1 at hh
    split at hh
    · cases hh
    next e0 he0 =>
      obtain ⟨o1, o2, o3, o4, o5, o6, o7, o8, o9⟩ := hpg he0
      have hy := hc_yk he0
      split at hh
      · cases hh
      next as rest hpop =>
        obtain ⟨bs, rfl, hbl, hst⟩ := hc_pop_eq _ _ _ _ _ hpop
        rw [List.append_nil] at hh
        split at hh
        next a rest =>
          split at hh
          · cases hh
          next hcat =>
            split at hh
            · cases hh
            next r0 n' h' mc ms hcall =>
              cases hh
              subst hst
              refine ⟨Nat.le_add_right _ _, Nat.le_add_right _ _, rfl, fun q1 q2 Q k => ?_⟩
              have hM := hco _ _ _ _ _ _ _ _ _ _ he0 hcall
              have hcat' : (rest.map fun v => v.category).sum ≤ 8 := by rw [← hc_cat_eq]; exact Nat.le_of_ble_eq_true hcat
              unfold hc_W at k ⊢
              rw [hc_appE] at k
              have w1 := hl_ML_ok _ hp1
              have w2 := hl_IM_ok _ hp2
              dsimp only at w1 w2
              rw [hy] at w1 w2 hk3
              have hret : e0.2.2.2.1 = none := by
                unfold hc_mq at hk4
                rw [he0] at hk4
                exact Option.isNone_iff_eq_none.mp hk4
              rw [hret] at hM o1
              exact hw_callI X hM hd hT hc_gw_keep o1 (hT _ o4) (hT _ (hc_in w1 rfl)) (hT _ (hc_in w2 rfl)) hk3 o3 o5 hbl hfr (by omega) hcat' q1 q2 k
        · cases hh
theorem hs_invokestatic (X : hv_X G p s0 m args cd Ts (hc_own oc) cc nL) (hT : ∀ w ∈ hc_gw, w ∈ Ts) {pc n c s : Nat} {lc st : List Value} {h : hc_H} {r : hc_S ⊕ Option Value} {r1 r2 len z : Nat} {ini : Bool} (hpg : ∀ {k : Nat} {e : hc_M}, hc_get hm_pg k = some e → hc_MOK e) (hco : hc_CO G l fr lo call) (hfr : fr + 1 ≤ R.frames) (hlo : 100 + lo ≤ R.locals ∧ 4 ≤ fr ∧ 200 ≤ lo) (hd : decode cc pc = .ok (.invokestatic z, len)) (hk : hc_ok oc ini pc (.invokestatic z) len r1 r2 = true) (hh : hi_invokestatic hm_pg call r1 r2 pc lc st n h c s = some r) : hc_res G p l e R s0 m args below meth cd nL pc lc st n h c s r := by
  simp only [hc_ok, Bool.and_eq_true] at hk
  have hl : len = 3 := Nat.eq_of_beq_eq_true hk.1
  subst hl
  obtain ⟨-, hk⟩ := hk
  unfold hi_invokestatic at hh
  split at hh
  · have hk' : hc_m3 hl_AC oc z = true := hk
    obtain ⟨p1, hp1⟩ := hc_m3_ok hk'
    split at hh
    next zz dp i1 sp i0 st =>
      split at hh
      · cases hh
      next f hf =>
        split at hh
        · cases hh
        next g hg =>
          split at hh
          · cases hh
          next hc =>
            split at hh
            · cases hh
            next h' hp' =>
              cases hh
              simp only [Bool.and_eq_true, decide_eq_true_eq, Bool.not_eq_true', decide_eq_false_iff_not] at hc
              obtain ⟨c1, c2, c3, c4, c5, c6, c7⟩ := hc
              subst c1 c2
              have c4' := Nat.eq_of_beq_eq_true c4
              have c5' := Nat.eq_of_beq_eq_true c5
              have hcat' : (st.map fun v => v.category).sum ≤ 8 := by rw [← hc_cat_eq]; exact Nat.le_of_ble_eq_true c7
              have z0 : (0 : Int32).toNatClampNeg = 0 := by decide
              refine ⟨Nat.le_refl _, Nat.le_refl _, rfl, fun _ _ Q k => ?_⟩
              have hnw : nativeFrameWords "java/lang/System" "arraycopy" 5 = 7 := by decide +kernel
              refine hw_copy (sp := 0) (dp := 0) (z := zz) (f := fun j => f.getD j .null) (g := fun j => g.getD j .null) X hd (hT _ (hc_in (hl_AC_ok _ hp1) rfl)) (hT _ hl_ac1) (hT _ hl_ac2) (hT _ hl_ac3) (hc_fI (hc_arr_ok hf)) (hc_fI (hc_arr_ok hg)) (by decide) (by decide) c3 (by rw [z0]; show 0 + zz.toNatClampNeg ≤ f.length; omega) (by rw [z0]; show 0 + zz.toNatClampNeg ≤ g.length; omega) ?_ (by omega) (by rw [hnw]; omega) hcat' ?_
              · intro i hi
                have hlt : i < f.length := by omega
                have hm : f.getD (0 + i) .null ∈ f := by
                  rw [Nat.zero_add, List.getD_eq_getElem?_getD, List.getElem?_eq_getElem hlt]
                  exact List.getElem_mem hlt
                have hI := List.all_eq_true.mp c6 _ hm
                rw [z0]
                generalize f.getD (0 + i) Value.null = v at hI
                cases v <;> first | exact ⟨_, rfl⟩ | cases hI
              · unfold hc_W at k
                rw [hc_f_put hp', hc_upL c5'] at k
                refine hc_sim (hv_sim_up (fun j hj => ?_)) k
                have hj' : j < g.length := hj
                rw [z0]
                unfold va_cpy
                rw [if_pos (by omega)]
                congr 1
                omega
    · cases hh
  next hne =>
    unfold hc_inv2 at hh
    split at hh
    · cases hh
    next e0 he0 =>
      obtain ⟨o1, o2, o3, o4, o5, o6, o7, o8, o9⟩ := hpg he0
      have hy := hc_yk he0
      split at hh
      · cases hh
      next as rest hpop =>
        obtain ⟨bs, rfl, hbl, hst⟩ := hc_pop_eq _ _ _ _ _ hpop
        rw [List.append_nil] at hh
        split at hh
        · cases hh
        next hcat =>
          split at hh
          · cases hh
          next r0 n' h' mc ms hcall =>
            cases hh
            subst hst
            refine ⟨Nat.le_add_right _ _, Nat.le_add_right _ _, rfl, fun q1 q2 Q k => ?_⟩
            have hM := hco _ _ _ _ _ _ _ _ _ _ he0 hcall
            have hcat' : (rest.map fun v => v.category).sum ≤ 8 := by rw [← hc_cat_eq]; exact Nat.le_of_ble_eq_true hcat
            unfold hc_W at k ⊢
            rw [hc_appE] at k
            split at hk
            · exact absurd rfl hne
            · simp only [Bool.and_eq_true] at hk
              obtain ⟨p1, hp1⟩ := hc_m4_ok hk.1
              obtain ⟨p2, hp2⟩ := hc_m2_ok hk.2
              have w1 := hl_MN_ok _ hp1
              have w2 := hl_ST_ok _ hp2
              dsimp only at w1 w2
              rw [hy] at w1 w2
              exact hw_callSN X hM hd hT hc_gw_keep o1 (hT _ o4) (hT _ (hc_in w1 rfl)) (hT _ (hc_in w2 rfl)) o3 o5 hbl hfr (by omega) hcat' q1 q2 k
            · simp only [Bool.and_eq_true] at hk
              obtain ⟨p1, hp1⟩ := hc_m5_ok hk.1
              obtain ⟨p2, hp2⟩ := hc_m2_ok hk.2
              have w1 := hl_ML_ok _ hp1
              have w2 := hl_ST_ok _ hp2
              dsimp only at w1 w2
              rw [hy] at w1 w2
              exact hw_callS X hM hd hT hc_gw_keep o1 (hT _ o4) (hT _ (hc_in w1 rfl)) (hT _ (hc_in w2 rfl)) o3 o5 hbl hfr (by omega) hcat' q1 q2 k
theorem hs_return_ (X : hv_X G p s0 m args cd Ts (hc_own oc) cc nL) (hT : ∀ w ∈ hc_gw, w ∈ Ts) {pc n c s : Nat} {lc st : List Value} {h : hc_H} {r : hc_S ⊕ Option Value} {r1 r2 len : Nat} {ini : Bool} {ret : Option FieldType} (hlk : meth.locks = false) (hr : meth.sig.returnType = ret) (hd : decode cc pc = .ok (.return_, len)) (hk : hc_ok oc ini pc .return_ len r1 r2 = true) (hh : hi_return_ ret pc lc st n h c s = some r) : hc_res G p l e R s0 m args below meth cd nL pc lc st n h c s r := by
  simp only [hc_ok] at hk
  have hl : len = 1 := Nat.eq_of_beq_eq_true hk
  subst hl
  unfold hi_return_ at hh
  split at hh
  · split at hh
    · cases hh
      exact hw_vret X hlk hr hd
    · cases hh
  · cases hh
theorem hs_ireturn (X : hv_X G p s0 m args cd Ts (hc_own oc) cc nL) (hT : ∀ w ∈ hc_gw, w ∈ Ts) {pc n c s : Nat} {lc st : List Value} {h : hc_H} {r : hc_S ⊕ Option Value} {r1 r2 len : Nat} {ini : Bool} {ret : Option FieldType} (hlk : meth.locks = false) (hr : meth.sig.returnType = ret) (hd : decode cc pc = .ok (.ireturn, len)) (hk : hc_ok oc ini pc .ireturn len r1 r2 = true) (hh : hi_ireturn ret pc lc st n h c s = some r) : hc_res G p l e R s0 m args below meth cd nL pc lc st n h c s r := by
  simp only [hc_ok] at hk
  have hl : len = 1 := Nat.eq_of_beq_eq_true hk
  subst hl
  unfold hi_ireturn at hh
  split at hh
  next v =>
    split at hh
    next hv =>
      cases hh
      unfold hc_rtv at hv
      split at hv
      · cases v with
        | int x => exact hw_iret X hlk hr (x := x) rfl rfl hd
        | float x => exact hw_iret X hlk hr (x := G.2.1 x.toNat) rfl rfl hd
        | long x => cases hv
        | double x => cases hv
        | null => cases hv
        | ref x => cases hv
        | retAddr x => cases hv
      · split at hv
        next x =>
          rcases Bool.or_eq_true _ _ ▸ hv with q | q
          · have := of_decide_eq_true q
            subst this
            exact hw_iret X hlk hr (x := 0) rfl (by decide) hd
          · have := of_decide_eq_true q
            subst this
            exact hw_iret X hlk hr (x := 1) rfl (by decide) hd
        · cases hv
      · cases hv
    · cases hh
  · cases hh
theorem hs_lreturn (X : hv_X G p s0 m args cd Ts (hc_own oc) cc nL) (hT : ∀ w ∈ hc_gw, w ∈ Ts) {pc n c s : Nat} {lc st : List Value} {h : hc_H} {r : hc_S ⊕ Option Value} {r1 r2 len : Nat} {ini : Bool} {ret : Option FieldType} (hlk : meth.locks = false) (hr : meth.sig.returnType = ret) (hd : decode cc pc = .ok (.lreturn, len)) (hk : hc_ok oc ini pc .lreturn len r1 r2 = true) (hh : hi_lreturn ret pc lc st n h c s = some r) : hc_res G p l e R s0 m args below meth cd nL pc lc st n h c s r := by
  simp only [hc_ok] at hk
  have hl : len = 1 := Nat.eq_of_beq_eq_true hk
  subst hl
  unfold hi_lreturn at hh
  split at hh
  · split at hh
    · cases hh
      exact hw_lret X hlk hr hd
    · cases hh
  · cases hh
theorem hs_areturn (X : hv_X G p s0 m args cd Ts (hc_own oc) cc nL) (hT : ∀ w ∈ hc_gw, w ∈ Ts) {pc n c s : Nat} {lc st : List Value} {h : hc_H} {r : hc_S ⊕ Option Value} {r1 r2 len : Nat} {ini : Bool} {ret : Option FieldType} (hlk : meth.locks = false) (hr : meth.sig.returnType = ret) (hd : decode cc pc = .ok (.areturn, len)) (hk : hc_ok oc ini pc .areturn len r1 r2 = true) (hh : hi_areturn ret pc lc st n h c s = some r) : hc_res G p l e R s0 m args below meth cd nL pc lc st n h c s r := by
  simp only [hc_ok] at hk
  have hl : len = 1 := Nat.eq_of_beq_eq_true hk
  subst hl
  unfold hi_areturn at hh
  split at hh
  · split at hh
    · cases hh
      exact hw_aret X hlk hr (Or.inr ⟨_, rfl⟩) hd
    · cases hh
  · cases hh
end HCZ
end
section
section HCE
variable {G : hv_G} {p : Program} {l : Launch} {e : Env} {R : Room} {s0 : State} {m : MethodId} {args : Array Value} {below : List Frame} {meth : Method} {cd : Code} {nL : Nat} {Q : State → Prop} {Ts : List Cond} {cc : ByteArray} {oc : Nat} {LS : Nat × (Nat → Option Int32)} {call : Nat → hc_M → List Value → Nat → hc_H → Option hc_R} {fr lo : Nat}
set_option maxHeartbeats 4000000 in
theorem hc_step1_ok (X : hv_X G p s0 m args cd Ts (hc_own oc) cc nL) (hT : ∀ w ∈ hc_gw, w ∈ Ts) (hpg : ∀ {k : Nat} {e : hc_M}, hc_get hm_pg k = some e → hc_MOK e) (hco : hc_CO G l fr lo call) (hfr : fr + 1 ≤ R.frames) (hlo : 100 + lo ≤ R.locals ∧ 4 ≤ fr ∧ 200 ≤ lo) (hL : hc_LL G LS) {ret : Option FieldType} (hlk : meth.locks = false) (hr : meth.sig.returnType = ret) {ini : Bool} (hin : ini = true → meth.name = "<init>") {tb : hc_K} (hD : hc_rws (hc_D cc) 0 tb = true) (hO : hc_rws (hc_O oc ini) 0 tb = true) {pc n c s : Nat} {lc st : List Value} {h : hc_H} (hn : lc.length = nL) {r : hc_S ⊕ Option Value} (hh : hc_step1 LS hm_pg call ret tb (pc, lc, st, n, h, c, s) = some r) : hc_res G p l e R s0 m args below meth cd nL pc lc st n h c s r := by
  unfold hc_step1 at hh
  split at hh
  · cases hh
  next I hI =>
    obtain ⟨ii, len, r1, r2⟩ := I
    have hd : decode cc pc = .ok (ii, len) := of_decide_eq_true (hc_tab hD hI)
    have hk : hc_ok oc ini pc ii len r1 r2 = true := hc_tab hO hI
    split at hh
    · cases hh
    next f hf =>
      dsimp only at hf hh
      unfold hc_comp at hf
      split at hf
      · cases hf
        exact hs_iconst X hT hd hk hh
      · cases hf
        exact hs_bipush X hT hd hk hh
      · cases hf
        exact hs_sipush X hT hd hk hh
      · cases hf
        exact hs_ldc X hT hd hk hh
      · cases hf
        exact hs_ldc_w X hT hd hk hh
      · cases hf
        exact hs_lconst X hT hd hk hh
      · cases hf
        exact hs_ldc2_w X hT hd hk hh
      · cases hf
        exact hs_iload_n X hT hd hk hh
      · cases hf
        exact hs_iload X hT hd hk hh
      · cases hf
        exact hs_lload_n X hT hd hk hh
      · cases hf
        exact hs_lload X hT hd hk hh
      · cases hf
        exact hs_aload_n X hT hd hk hh
      · cases hf
        exact hs_aload X hT hd hk hh
      · cases hf
        exact hs_istore_n X hT hn hd hk hh
      · cases hf
        exact hs_istore X hT hn hd hk hh
      · cases hf
        exact hs_lstore_n X hT hn hd hk hh
      · cases hf
        exact hs_lstore X hT hn hd hk hh
      · cases hf
        exact hs_astore_n X hT hn hd hk hh
      · cases hf
        exact hs_astore X hT hn hd hk hh
      · cases hf
        exact hs_iinc X hT hn hd hk hh
      · cases hf
        exact hs_iadd X hT hd hk hh
      · cases hf
        exact hs_isub X hT hd hk hh
      · cases hf
        exact hs_imul X hT hd hk hh
      · cases hf
        exact hs_iand X hT hd hk hh
      · cases hf
        exact hs_ior X hT hd hk hh
      · cases hf
        exact hs_ixor X hT hd hk hh
      · cases hf
        exact hs_ishl X hT hd hk hh
      · cases hf
        exact hs_ishr X hT hL hd hk hh
      · cases hf
        exact hs_iushr X hT hL hd hk hh
      · cases hf
        exact hs_ladd X hT hd hk hh
      · cases hf
        exact hs_lsub X hT hd hk hh
      · cases hf
        exact hs_lmul X hT hd hk hh
      · cases hf
        exact hs_lor X hT hd hk hh
      · cases hf
        exact hs_idiv X hT hd hk hh
      · cases hf
        exact hs_irem X hT hd hk hh
      · cases hf
        exact hs_lshl X hT hd hk hh
      · cases hf
        exact hs_lcmp X hT hd hk hh
      · cases hf
        exact hs_i2l X hT hd hk hh
      · cases hf
        exact hs_l2i X hT hd hk hh
      · cases hf
        exact hs_i2b X hT hL hd hk hh
      · cases hf
        exact hs_i2c X hT hd hk hh
      · cases hf
        exact hs_dup X hT hd hk hh
      · cases hf
        exact hs_pop X hT hd hk hh
      · cases hf
        exact hs_dup2 X hT hd hk hh
      · cases hf
        exact hs_ifCond X hT hL hd hk hh
      · cases hf
        exact hs_if_icmp X hT hd hk hh
      · cases hf
        exact hs_goto X hT hd hk hh
      · cases hf
        exact hs_tableswitch X hT hL hd hk hh
      · cases hf
        exact hs_getfield X hT hd hk hh
      · cases hf
        exact hs_putfield X hT hin hd hk hh
      · cases hf
        exact hs_iaload X hT hL hd hk hh
      · cases hf
        exact hs_baload X hT hd hk hh
      · cases hf
        exact hs_laload X hT hd hk hh
      · cases hf
        exact hs_aaload X hT hd hk hh
      · cases hf
        exact hs_iastore X hT hd hk hh
      · cases hf
        exact hs_bastore X hT hL hd hk hh
      · cases hf
        exact hs_lastore X hT hd hk hh
      · cases hf
        exact hs_aastore X hT hd hk hh
      · cases hf
        exact hs_arraylength X hT hL.1 hd hk hh
      · cases hf
        exact hs_new X hT hd hk hh
      · cases hf
        exact hs_newarray X hT hd hk hh
      · cases hf
        exact hs_anewarray X hT hd hk hh
      · cases hf
        exact hs_multianewarray X hT hd hk hh
      · cases hf
        exact hs_invokevirtual X hT hpg hco hfr hlo hd hk hh
      · cases hf
        exact hs_invokespecial X hT hpg hco hfr hlo hd hk hh
      · cases hf
        exact hs_invokestatic X hT hpg hco hfr hlo hd hk hh
      · cases hf
        exact hs_return_ X hT hlk hr hd hk hh
      · cases hf
        exact hs_ireturn X hT hlk hr hd hk hh
      · cases hf
        exact hs_lreturn X hT hlk hr hd hk hh
      · cases hf
        exact hs_areturn X hT hlk hr hd hk hh
      · cases hf
theorem hc_run_ok (X : hv_X G p s0 m args cd Ts (hc_own oc) cc nL) (hT : ∀ w ∈ hc_gw, w ∈ Ts) (hpg : ∀ {k : Nat} {e : hc_M}, hc_get hm_pg k = some e → hc_MOK e) (hco : hc_CO G l fr lo call) (hfr : fr + 1 ≤ R.frames) (hlo : 100 + lo ≤ R.locals ∧ 4 ≤ fr ∧ 200 ≤ lo) (hL : hc_LL G LS) {ret : Option FieldType} (hlk : meth.locks = false) (hr : meth.sig.returnType = ret) {ini : Bool} (hin : ini = true → meth.name = "<init>") {tb : hc_K} (hD : hc_rws (hc_D cc) 0 tb = true) (hO : hc_rws (hc_O oc ini) 0 tb = true) :
    ∀ (fuel : Nat) (pc n c s : Nat) (lc st : List Value) (h : hc_H) (r : Option Value) (n' : Nat) (h' : hc_H) (c' s' : Nat), lc.length = nL → hc_run LS hm_pg call ret tb fuel (pc, lc, st, n, h, c, s) = some (r, n', h', c', s') → c ≤ c' ∧ s ≤ s' ∧ (c' ≤ R.cells → s' ≤ R.slots → hc_W G p l e R s0 m args below meth cd nL (MQ below (hv_Qc G n' (hc_f h') r) args s0 c' s' (fun q => G.1.1 ≤ q)) pc lc st n h c s)
  | 0, pc, n, c, s, lc, st, h, r, n', h', c', s', hn, hh => by cases hh
  | fuel + 1, pc, n, c, s, lc, st, h, r, n', h', c', s', hn, hh => by
    have hh' : (match hc_step1 LS hm_pg call ret tb (pc, lc, st, n, h, c, s) with
      | none => none
      | some (.inl S') => hc_run LS hm_pg call ret tb fuel S'
      | some (.inr r) => some (r, n, h, c, s)) = some (r, n', h', c', s') := hh
    split at hh'
    · cases hh'
    next S' hS =>
      obtain ⟨pc1, lc1, st1, n1, h1, c1, s1⟩ := S'
      obtain ⟨g1, g2, g3, g4⟩ := hc_step1_ok X hT hpg hco hfr hlo hL hlk hr hin hD hO hn hS
      obtain ⟨k1, k2, k3⟩ := hc_run_ok X hT hpg hco hfr hlo hL hlk hr hin hD hO fuel pc1 n1 c1 s1 lc1 st1 h1 r n' h' c' s' (g3.trans hn) hh'
      exact ⟨Nat.le_trans g1 k1, Nat.le_trans g2 k2, fun q1 q2 => g4 (Nat.le_trans k1 q1) (Nat.le_trans k2 q2) _ (k3 q1 q2)⟩
    next r1 hS =>
      cases hh'
      have := hc_step1_ok (e := e) (below := below) X hT hpg hco hfr hlo hL hlk hr hin hD hO hn hS
      exact ⟨Nat.le_refl _, Nat.le_refl _, fun _ _ => this⟩
theorem hc_steps_ok (X : hv_X G p s0 m args cd Ts (hc_own oc) cc nL) (hT : ∀ w ∈ hc_gw, w ∈ Ts) (hpg : ∀ {k : Nat} {e : hc_M}, hc_get hm_pg k = some e → hc_MOK e) (hco : hc_CO G l fr lo call) (hfr : fr + 1 ≤ R.frames) (hlo : 100 + lo ≤ R.locals ∧ 4 ≤ fr ∧ 200 ≤ lo) (hL : hc_LL G LS) {ret : Option FieldType} (hlk : meth.locks = false) (hr : meth.sig.returnType = ret) {ini : Bool} (hin : ini = true → meth.name = "<init>") {tb : hc_K} (hD : hc_rws (hc_D cc) 0 tb = true) (hO : hc_rws (hc_O oc ini) 0 tb = true) :
    ∀ (fuel : Nat) (pc n c s : Nat) (lc st : List Value) (h : hc_H) (pc' n' c' s' : Nat) (lc' st' : List Value) (h' : hc_H), lc.length = nL → hc_steps LS hm_pg call ret tb fuel (pc, lc, st, n, h, c, s) = some (pc', lc', st', n', h', c', s') → c ≤ c' ∧ s ≤ s' ∧ lc'.length = nL ∧ (c' ≤ R.cells → s' ≤ R.slots → ∀ Q : State → Prop, hc_W G p l e R s0 m args below meth cd nL Q pc' lc' st' n' h' c' s' → hc_W G p l e R s0 m args below meth cd nL Q pc lc st n h c s)
  | 0, pc, n, c, s, lc, st, h, pc', n', c', s', lc', st', h', hn, hh => by
    cases hh
    exact ⟨Nat.le_refl _, Nat.le_refl _, hn, fun _ _ Q k => k⟩
  | fuel + 1, pc, n, c, s, lc, st, h, pc', n', c', s', lc', st', h', hn, hh => by
    have hh' : (match hc_step1 LS hm_pg call ret tb (pc, lc, st, n, h, c, s) with
      | some (.inl S') => hc_steps LS hm_pg call ret tb fuel S'
      | _ => none) = some (pc', lc', st', n', h', c', s') := hh
    split at hh'
    next S' hS =>
      obtain ⟨pc1, lc1, st1, n1, h1, c1, s1⟩ := S'
      obtain ⟨g1, g2, g3, g4⟩ := hc_step1_ok X hT hpg hco hfr hlo hL hlk hr hin hD hO hn hS
      obtain ⟨k1, k2, k3, k4⟩ := hc_steps_ok X hT hpg hco hfr hlo hL hlk hr hin hD hO fuel pc1 n1 c1 s1 lc1 st1 h1 pc' n' c' s' lc' st' h' (g3.trans hn) hh'
      exact ⟨Nat.le_trans g1 k1, Nat.le_trans g2 k2, k3, fun q1 q2 Q k => g4 (Nat.le_trans k1 q1) (Nat.le_trans k2 q2) _ (k4 q1 q2 Q k)⟩
    · cases hh'
theorem hc_till_ok (X : hv_X G p s0 m args cd Ts (hc_own oc) cc nL) (hT : ∀ w ∈ hc_gw, w ∈ Ts) (hpg : ∀ {k : Nat} {e : hc_M}, hc_get hm_pg k = some e → hc_MOK e) (hco : hc_CO G l fr lo call) (hfr : fr + 1 ≤ R.frames) (hlo : 100 + lo ≤ R.locals ∧ 4 ≤ fr ∧ 200 ≤ lo) (hL : hc_LL G LS) {ret : Option FieldType} (hlk : meth.locks = false) (hr : meth.sig.returnType = ret) {ini : Bool} (hin : ini = true → meth.name = "<init>") {tb : hc_K} (hD : hc_rws (hc_D cc) 0 tb = true) (hO : hc_rws (hc_O oc ini) 0 tb = true) (tgt : Nat) :
    ∀ (fuel : Nat) (pc n c s : Nat) (lc st : List Value) (h : hc_H) (pc' n' c' s' : Nat) (lc' st' : List Value) (h' : hc_H), lc.length = nL → hc_till LS hm_pg call ret tb tgt fuel (pc, lc, st, n, h, c, s) = some (pc', lc', st', n', h', c', s') → c ≤ c' ∧ s ≤ s' ∧ lc'.length = nL ∧ pc' = tgt ∧ (c' ≤ R.cells → s' ≤ R.slots → ∀ Q : State → Prop, hc_W G p l e R s0 m args below meth cd nL Q pc' lc' st' n' h' c' s' → hc_W G p l e R s0 m args below meth cd nL Q pc lc st n h c s)
  | 0, pc, n, c, s, lc, st, h, pc', n', c', s', lc', st', h', hn, hh => by cases hh
  | fuel + 1, pc, n, c, s, lc, st, h, pc', n', c', s', lc', st', h', hn, hh => by
    have hh' : (match Nat.beq pc tgt with
      | true => some (pc, lc, st, n, h, c, s)
      | false => match hc_step1 LS hm_pg call ret tb (pc, lc, st, n, h, c, s) with
        | some (.inl S') => hc_till LS hm_pg call ret tb tgt fuel S'
        | _ => none) = some (pc', lc', st', n', h', c', s') := hh
    split at hh'
    next hb =>
      cases hh'
      exact ⟨Nat.le_refl _, Nat.le_refl _, hn, Nat.eq_of_beq_eq_true hb, fun _ _ Q k => k⟩
    · split at hh'
      next S' hS =>
        obtain ⟨pc1, lc1, st1, n1, h1, c1, s1⟩ := S'
        obtain ⟨g1, g2, g3, g4⟩ := hc_step1_ok X hT hpg hco hfr hlo hL hlk hr hin hD hO hn hS
        obtain ⟨k1, k2, k3, k5, k4⟩ := hc_till_ok X hT hpg hco hfr hlo hL hlk hr hin hD hO tgt fuel pc1 n1 c1 s1 lc1 st1 h1 pc' n' c' s' lc' st' h' (g3.trans hn) hh'
        exact ⟨Nat.le_trans g1 k1, Nat.le_trans g2 k2, k3, k5, fun q1 q2 Q k => g4 (Nat.le_trans k1 q1) (Nat.le_trans k2 q2) _ (k4 q1 q2 Q k)⟩
      · cases hh'
theorem hc_ent_len : ∀ (as : List Value) (n : Nat), hv_words as ≤ n → (hc_ent as n).length = n
  | [], n, _ => List.length_replicate
  | a :: as, n, h => by
    have hwa : hv_words (a :: as) = a.category + hv_words as := by simp [hv_words]
    rw [hwa] at h
    cases a with
    | long x =>
      have h2 : 2 + hv_words as ≤ n := h
      show (hc_ent as (n - 2)).length + 1 + 1 = n
      rw [hc_ent_len as (n - 2) (by omega)]
      omega
    | double x =>
      have h2 : 2 + hv_words as ≤ n := h
      show (hc_ent as (n - 2)).length + 1 + 1 = n
      rw [hc_ent_len as (n - 2) (by omega)]
      omega
    | int x =>
      have h2 : 1 + hv_words as ≤ n := h
      show (hc_ent as (n - 1)).length + 1 = n
      rw [hc_ent_len as (n - 1) (by omega)]
      omega
    | float x =>
      have h2 : 1 + hv_words as ≤ n := h
      show (hc_ent as (n - 1)).length + 1 = n
      rw [hc_ent_len as (n - 1) (by omega)]
      omega
    | null =>
      have h2 : 1 + hv_words as ≤ n := h
      show (hc_ent as (n - 1)).length + 1 = n
      rw [hc_ent_len as (n - 1) (by omega)]
      omega
    | ref x =>
      have h2 : 1 + hv_words as ≤ n := h
      show (hc_ent as (n - 1)).length + 1 = n
      rw [hc_ent_len as (n - 1) (by omega)]
      omega
    | retAddr x =>
      have h2 : 1 + hv_words as ≤ n := h
      show (hc_ent as (n - 1)).length + 1 = n
      rw [hc_ent_len as (n - 1) (by omega)]
      omega
/-- what is asked of the oracle: each of its answers is a contract that leaves the world as it is -/
def hc_OR (G : hv_G) (l : Launch) (orc : Nat → List Value → hc_H → Option Value) : Prop := ∀ (k : Nat) (e : hc_M) (as : List Value) (h : hc_H) (v : Value), hc_get hm_pg k = some e → orc k as h = some v → ∀ (n fr lo : Nat), 1 ≤ fr → 100 ≤ lo → hv_C G hc_gw l e.1 e.2.1 e.2.2.1 e.2.2.2.1 fr lo n (hc_f h) as (some v) n (hc_f h) 0 0
theorem hc_ev_ok (hpg : ∀ {k : Nat} {e : hc_M}, hc_get hm_pg k = some e → hc_MOK e) (hL : hc_LL G LS) {orc : Nat → List Value → hc_H → Option Value} (hor : hc_OR G l orc) (fuel : Nat) : ∀ d : Nat, hc_CO G l (d + 4) (100 * d + 200) (hc_ev LS hm_pg orc fuel d)
  | 0 => fun k e as n h r n' h' mc ms _ hc => by cases hc
  | d + 1 => fun k e0 as n h r n' h' mc ms hg hc => by
    have hc' : (match orc k as h with
      | some v => some (some v, n, h, 0, 0)
      | none => match Nat.ble (hc_cat as) e0.2.2.1 with
        | false => none
        | true => hc_run LS hm_pg (hc_ev LS hm_pg orc fuel d) e0.2.2.2.1 e0.2.2.2.2.2.2 fuel (0, hc_ent as e0.2.2.1, [], n, h, 0, 0)) = some (r, n', h', mc, ms) := hc
    split at hc'
    next v hv =>
      cases hc'
      exact hor k e0 as h v hg hv n (d + 1 + 4) (100 * (d + 1) + 200) (by omega) (by omega)
    · split at hc'
      · cases hc'
      next hw =>
        obtain ⟨o1, o2, o3, o4, o5, o6, o7, o8, o9⟩ := hpg hg
        have hw' : hv_words as ≤ e0.2.2.1 := by
          unfold hv_words
          rw [← hc_cat_eq]
          exact Nat.le_of_ble_eq_true hw
        refine hv_C.of o2 hw' ?_
        intro p e s0 m args below meth cd hX hr hlk hnm
        rw [← o6] at hX
        have hrun := hc_run_ok (R := { frames := d + 1 + 4, cells := mc, slots := ms, locals := 100 * (d + 1) + 200 }) (e := e) (below := below) (meth := meth) (fr := d + 4) (lo := 100 * d + 200) hX (fun w h => List.mem_cons_of_mem _ h) hpg (hc_ev_ok hpg hL hor fuel d) (by show d + 4 + 1 ≤ d + 1 + 4; omega) ⟨by show 100 + (100 * d + 200) ≤ 100 * (d + 1) + 200; omega, by omega, by omega⟩ hL hlk hr (ini := hc_isI0 e0.1) (fun q => hnm.trans (of_decide_eq_true q)) o7 o8 fuel 0 n 0 0 (hc_ent as e0.2.2.1) [] h r n' h' mc ms (hc_ent_len as _ hw') hc'
        have hW := hrun.2.2 (Nat.le_refl _) (Nat.le_refl _)
        unfold hc_W at hW
        refine hc_mono ?_ hW
        rintro ⟨i, v⟩ hq
        obtain ⟨g1, g2⟩ := hc_lv_mem.mp hq
        have := hc_ent_at as e0.2.2.1 i v hw' g1 g2 0
        rwa [Nat.zero_add] at this
end HCE
end
