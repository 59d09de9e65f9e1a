section
-- ===== PART A: goes FIRST, ahead of the names: the tables' words, and 'selects' of the private methods out of them =====
/-- a private method of a class that the tables say can be made, by its rows of tables_1 -/
def lw_okq (q : MethodName × Nat) : Prop := (q.1.cls ≠ "java/lang/invoke/MethodHandle" ∧ q.1.cls ≠ "java/lang/invoke/VarHandle") ∧ Cond.instantiable q.1.cls q.2 ∈ tables_1 ∧ Cond.privateMethod q.1 ∈ tables_1 ∧ Cond.instanceMethod q.1 ∈ tables_1
theorem lw_p0 : lw_okq (⟨"Shardmoor$Chart", "beginChunks", "()V"⟩, 13) := ⟨⟨by decide +kernel, by decide +kernel⟩, List.mem_of_getElem? (i := 88) (by decide +kernel), List.mem_of_getElem? (i := 94) (by decide +kernel), List.mem_of_getElem? (i := 95) (by decide +kernel)⟩
theorem lw_p1 : lw_okq (⟨"Shardmoor$Query", "fitsAll", "(LShardmoor$Value;)Z"⟩, 10) := ⟨⟨by decide +kernel, by decide +kernel⟩, List.mem_of_getElem? (i := 213) (by decide +kernel), List.mem_of_getElem? (i := 367) (by decide +kernel), List.mem_of_getElem? (i := 368) (by decide +kernel)⟩
theorem lw_p2 : lw_okq (⟨"Shardmoor$Query", "filterAt", "(I)LShardmoor$Filter;"⟩, 10) := ⟨⟨by decide +kernel, by decide +kernel⟩, List.mem_of_getElem? (i := 213) (by decide +kernel), List.mem_of_getElem? (i := 371) (by decide +kernel), List.mem_of_getElem? (i := 372) (by decide +kernel)⟩
theorem lw_p3 : lw_okq (⟨"Shardmoor$Places", "take", "(LShardmoor$Value;I)V"⟩, 2) := ⟨⟨by decide +kernel, by decide +kernel⟩, List.mem_of_getElem? (i := 178) (by decide +kernel), List.mem_of_getElem? (i := 394) (by decide +kernel), List.mem_of_getElem? (i := 395) (by decide +kernel)⟩
theorem lw_p4 : lw_okq (⟨"Shardmoor$Places", "note", "(I)V"⟩, 2) := ⟨⟨by decide +kernel, by decide +kernel⟩, List.mem_of_getElem? (i := 178) (by decide +kernel), List.mem_of_getElem? (i := 398) (by decide +kernel), List.mem_of_getElem? (i := 399) (by decide +kernel)⟩
theorem lw_p5 : lw_okq (⟨"Shardmoor$Places", "takeOfEach", "(LShardmoor$Value;II)V"⟩, 2) := ⟨⟨by decide +kernel, by decide +kernel⟩, List.mem_of_getElem? (i := 178) (by decide +kernel), List.mem_of_getElem? (i := 408) (by decide +kernel), List.mem_of_getElem? (i := 409) (by decide +kernel)⟩
theorem lw_p6 : lw_okq (⟨"Shardmoor$Filter", "fits", "(LShardmoor$Value;I)Z"⟩, 3) := ⟨⟨by decide +kernel, by decide +kernel⟩, List.mem_of_getElem? (i := 220) (by decide +kernel), List.mem_of_getElem? (i := 424) (by decide +kernel), List.mem_of_getElem? (i := 425) (by decide +kernel)⟩
theorem lw_p7 : lw_okq (⟨"Shardmoor$Filter", "isBeyond", "(I)Z"⟩, 3) := ⟨⟨by decide +kernel, by decide +kernel⟩, List.mem_of_getElem? (i := 220) (by decide +kernel), List.mem_of_getElem? (i := 441) (by decide +kernel), List.mem_of_getElem? (i := 442) (by decide +kernel)⟩
theorem lw_p8 : lw_okq (⟨"Shardmoor", "pileUp", "(I)I"⟩, 10) := ⟨⟨by decide +kernel, by decide +kernel⟩, List.mem_of_getElem? (i := 23) (by decide +kernel), List.mem_of_getElem? (i := 476) (by decide +kernel), List.mem_of_getElem? (i := 477) (by decide +kernel)⟩
theorem lw_p9 : lw_okq (⟨"java/lang/Throwable", "fillInStackTrace", "(I)Ljava/lang/Throwable;"⟩, 6) := ⟨⟨by decide +kernel, by decide +kernel⟩, List.mem_of_getElem? (i := 522) (by decide +kernel), List.mem_of_getElem? (i := 520) (by decide +kernel), List.mem_of_getElem? (i := 521) (by decide +kernel)⟩
theorem lw_p10 : lw_okq (⟨"Shardmoor$Pile", "at", "(I)LShardmoor$Value;"⟩, 3) := ⟨⟨by decide +kernel, by decide +kernel⟩, List.mem_of_getElem? (i := 31) (by decide +kernel), List.mem_of_getElem? (i := 561) (by decide +kernel), List.mem_of_getElem? (i := 562) (by decide +kernel)⟩
theorem lw_p11 : lw_okq (⟨"Shardmoor$Value", "putSign", "(II)V"⟩, 2) := ⟨⟨by decide +kernel, by decide +kernel⟩, List.mem_of_getElem? (i := 38) (by decide +kernel), List.mem_of_getElem? (i := 569) (by decide +kernel), List.mem_of_getElem? (i := 570) (by decide +kernel)⟩
theorem lw_p12 : lw_okq (⟨"Shardmoor$Value", "makeRoom", "(III)V"⟩, 2) := ⟨⟨by decide +kernel, by decide +kernel⟩, List.mem_of_getElem? (i := 38) (by decide +kernel), List.mem_of_getElem? (i := 573) (by decide +kernel), List.mem_of_getElem? (i := 574) (by decide +kernel)⟩
theorem lw_p13 : lw_okq (⟨"Shardmoor$Value", "putValue", "(IILShardmoor$Value;)V"⟩, 2) := ⟨⟨by decide +kernel, by decide +kernel⟩, List.mem_of_getElem? (i := 38) (by decide +kernel), List.mem_of_getElem? (i := 664) (by decide +kernel), List.mem_of_getElem? (i := 665) (by decide +kernel)⟩
theorem lw_p14 : lw_okq (⟨"Shardmoor", "tellChange", "(III)I"⟩, 10) := ⟨⟨by decide +kernel, by decide +kernel⟩, List.mem_of_getElem? (i := 23) (by decide +kernel), List.mem_of_getElem? (i := 722) (by decide +kernel), List.mem_of_getElem? (i := 723) (by decide +kernel)⟩
theorem lw_p15 : lw_okq (⟨"Shardmoor$Chart", "chunkOf", "(LShardmoor$Value;)I"⟩, 13) := ⟨⟨by decide +kernel, by decide +kernel⟩, List.mem_of_getElem? (i := 88) (by decide +kernel), List.mem_of_getElem? (i := 731) (by decide +kernel), List.mem_of_getElem? (i := 732) (by decide +kernel)⟩
def lw_privs_1 : List (MethodName × Nat) := [(⟨"Shardmoor$Chart", "beginChunks", "()V"⟩, 13), (⟨"Shardmoor$Query", "fitsAll", "(LShardmoor$Value;)Z"⟩, 10), (⟨"Shardmoor$Query", "filterAt", "(I)LShardmoor$Filter;"⟩, 10), (⟨"Shardmoor$Places", "take", "(LShardmoor$Value;I)V"⟩, 2), (⟨"Shardmoor$Places", "note", "(I)V"⟩, 2), (⟨"Shardmoor$Places", "takeOfEach", "(LShardmoor$Value;II)V"⟩, 2), (⟨"Shardmoor$Filter", "fits", "(LShardmoor$Value;I)Z"⟩, 3), (⟨"Shardmoor$Filter", "isBeyond", "(I)Z"⟩, 3), (⟨"Shardmoor", "pileUp", "(I)I"⟩, 10), (⟨"java/lang/Throwable", "fillInStackTrace", "(I)Ljava/lang/Throwable;"⟩, 6), (⟨"Shardmoor$Pile", "at", "(I)LShardmoor$Value;"⟩, 3), (⟨"Shardmoor$Value", "putSign", "(II)V"⟩, 2), (⟨"Shardmoor$Value", "makeRoom", "(III)V"⟩, 2), (⟨"Shardmoor$Value", "putValue", "(IILShardmoor$Value;)V"⟩, 2), (⟨"Shardmoor", "tellChange", "(III)I"⟩, 10), (⟨"Shardmoor$Chart", "chunkOf", "(LShardmoor$Value;)I"⟩, 13)]
theorem lw_r1 : ∀ q ∈ lw_privs_1, lw_okq q := List.forall_mem_cons.mpr ⟨lw_p0, List.forall_mem_cons.mpr ⟨lw_p1, List.forall_mem_cons.mpr ⟨lw_p2, List.forall_mem_cons.mpr ⟨lw_p3, List.forall_mem_cons.mpr ⟨lw_p4, List.forall_mem_cons.mpr ⟨lw_p5, List.forall_mem_cons.mpr ⟨lw_p6, List.forall_mem_cons.mpr ⟨lw_p7, List.forall_mem_cons.mpr ⟨lw_p8, List.forall_mem_cons.mpr ⟨lw_p9, List.forall_mem_cons.mpr ⟨lw_p10, List.forall_mem_cons.mpr ⟨lw_p11, List.forall_mem_cons.mpr ⟨lw_p12, List.forall_mem_cons.mpr ⟨lw_p13, List.forall_mem_cons.mpr ⟨lw_p14, List.forall_mem_cons.mpr ⟨lw_p15, fun _ h => absurd h List.not_mem_nil⟩⟩⟩⟩⟩⟩⟩⟩⟩⟩⟩⟩⟩⟩⟩⟩
theorem lw_p16 : lw_okq (⟨"Shardmoor$Editor", "editField", "(IIILShardmoor$Value;)Z"⟩, 2) := ⟨⟨by decide +kernel, by decide +kernel⟩, List.mem_of_getElem? (i := 157) (by decide +kernel), List.mem_of_getElem? (i := 815) (by decide +kernel), List.mem_of_getElem? (i := 816) (by decide +kernel)⟩
theorem lw_p17 : lw_okq (⟨"Shardmoor$Editor", "addTo", "(III)Z"⟩, 2) := ⟨⟨by decide +kernel, by decide +kernel⟩, List.mem_of_getElem? (i := 157) (by decide +kernel), List.mem_of_getElem? (i := 830) (by decide +kernel), List.mem_of_getElem? (i := 831) (by decide +kernel)⟩
theorem lw_p18 : lw_okq (⟨"Shardmoor$Editor", "addAt", "(II)Z"⟩, 2) := ⟨⟨by decide +kernel, by decide +kernel⟩, List.mem_of_getElem? (i := 157) (by decide +kernel), List.mem_of_getElem? (i := 835) (by decide +kernel), List.mem_of_getElem? (i := 836) (by decide +kernel)⟩
theorem lw_p19 : lw_okq (⟨"Shardmoor$Editor", "pushTo", "(IILShardmoor$Value;)Z"⟩, 2) := ⟨⟨by decide +kernel, by decide +kernel⟩, List.mem_of_getElem? (i := 157) (by decide +kernel), List.mem_of_getElem? (i := 841) (by decide +kernel), List.mem_of_getElem? (i := 842) (by decide +kernel)⟩
theorem lw_p20 : lw_okq (⟨"Shardmoor$Editor", "pullFrom", "(ILShardmoor$Value;)Z"⟩, 2) := ⟨⟨by decide +kernel, by decide +kernel⟩, List.mem_of_getElem? (i := 157) (by decide +kernel), List.mem_of_getElem? (i := 846) (by decide +kernel), List.mem_of_getElem? (i := 847) (by decide +kernel)⟩
theorem lw_p21 : lw_okq (⟨"Shardmoor$Editor", "addToEach", "(II)Z"⟩, 2) := ⟨⟨by decide +kernel, by decide +kernel⟩, List.mem_of_getElem? (i := 157) (by decide +kernel), List.mem_of_getElem? (i := 854) (by decide +kernel), List.mem_of_getElem? (i := 855) (by decide +kernel)⟩
theorem lw_p22 : lw_okq (⟨"Shardmoor", "takeAway", "(I)I"⟩, 10) := ⟨⟨by decide +kernel, by decide +kernel⟩, List.mem_of_getElem? (i := 23) (by decide +kernel), List.mem_of_getElem? (i := 873) (by decide +kernel), List.mem_of_getElem? (i := 874) (by decide +kernel)⟩
theorem lw_p23 : lw_okq (⟨"Shardmoor$Query", "shape", "()I"⟩, 10) := ⟨⟨by decide +kernel, by decide +kernel⟩, List.mem_of_getElem? (i := 213) (by decide +kernel), List.mem_of_getElem? (i := 986) (by decide +kernel), List.mem_of_getElem? (i := 987) (by decide +kernel)⟩
theorem lw_p24 : lw_okq (⟨"Shardmoor$Query", "filterFor", "(ILShardmoor$Indexes;)LShardmoor$Filter;"⟩, 10) := ⟨⟨by decide +kernel, by decide +kernel⟩, List.mem_of_getElem? (i := 213) (by decide +kernel), List.mem_of_getElem? (i := 1000) (by decide +kernel), List.mem_of_getElem? (i := 1001) (by decide +kernel)⟩
theorem lw_p25 : lw_okq (⟨"Shardmoor$Indexes", "hasEntryForNone", "(I)Z"⟩, 7) := ⟨⟨by decide +kernel, by decide +kernel⟩, List.mem_of_getElem? (i := 172) (by decide +kernel), List.mem_of_getElem? (i := 1023) (by decide +kernel), List.mem_of_getElem? (i := 1024) (by decide +kernel)⟩
theorem lw_p26 : lw_okq (⟨"Shardmoor$Query", "tryPlans", "(LShardmoor$Store;LShardmoor$Indexes;)V"⟩, 10) := ⟨⟨by decide +kernel, by decide +kernel⟩, List.mem_of_getElem? (i := 213) (by decide +kernel), List.mem_of_getElem? (i := 1036) (by decide +kernel), List.mem_of_getElem? (i := 1037) (by decide +kernel)⟩
theorem lw_p27 : lw_okq (⟨"Shardmoor$Query", "tryPlan", "(II)V"⟩, 10) := ⟨⟨by decide +kernel, by decide +kernel⟩, List.mem_of_getElem? (i := 213) (by decide +kernel), List.mem_of_getElem? (i := 1040) (by decide +kernel), List.mem_of_getElem? (i := 1041) (by decide +kernel)⟩
theorem lw_p28 : lw_okq (⟨"Shardmoor$Groups", "sumOf", "(LShardmoor$Value;I)J"⟩, 7) := ⟨⟨by decide +kernel, by decide +kernel⟩, List.mem_of_getElem? (i := 272) (by decide +kernel), List.mem_of_getElem? (i := 1099) (by decide +kernel), List.mem_of_getElem? (i := 1100) (by decide +kernel)⟩
theorem lw_p29 : lw_okq (⟨"Shardmoor$Groups", "takeIn", "(LShardmoor$Store;IIJ)V"⟩, 7) := ⟨⟨by decide +kernel, by decide +kernel⟩, List.mem_of_getElem? (i := 272) (by decide +kernel), List.mem_of_getElem? (i := 1108) (by decide +kernel), List.mem_of_getElem? (i := 1109) (by decide +kernel)⟩
theorem lw_p30 : lw_okq (⟨"Shardmoor$Groups", "groupFor", "(LShardmoor$Store;II)I"⟩, 7) := ⟨⟨by decide +kernel, by decide +kernel⟩, List.mem_of_getElem? (i := 272) (by decide +kernel), List.mem_of_getElem? (i := 1112) (by decide +kernel), List.mem_of_getElem? (i := 1113) (by decide +kernel)⟩
theorem lw_p31 : lw_okq (⟨"Shardmoor$Groups", "orderTo", "(LShardmoor$Store;ILShardmoor$Value;I)I"⟩, 7) := ⟨⟨by decide +kernel, by decide +kernel⟩, List.mem_of_getElem? (i := 272) (by decide +kernel), List.mem_of_getElem? (i := 1116) (by decide +kernel), List.mem_of_getElem? (i := 1117) (by decide +kernel)⟩
def lw_privs_2 : List (MethodName × Nat) := [(⟨"Shardmoor$Editor", "editField", "(IIILShardmoor$Value;)Z"⟩, 2), (⟨"Shardmoor$Editor", "addTo", "(III)Z"⟩, 2), (⟨"Shardmoor$Editor", "addAt", "(II)Z"⟩, 2), (⟨"Shardmoor$Editor", "pushTo", "(IILShardmoor$Value;)Z"⟩, 2), (⟨"Shardmoor$Editor", "pullFrom", "(ILShardmoor$Value;)Z"⟩, 2), (⟨"Shardmoor$Editor", "addToEach", "(II)Z"⟩, 2), (⟨"Shardmoor", "takeAway", "(I)I"⟩, 10), (⟨"Shardmoor$Query", "shape", "()I"⟩, 10), (⟨"Shardmoor$Query", "filterFor", "(ILShardmoor$Indexes;)LShardmoor$Filter;"⟩, 10), (⟨"Shardmoor$Indexes", "hasEntryForNone", "(I)Z"⟩, 7), (⟨"Shardmoor$Query", "tryPlans", "(LShardmoor$Store;LShardmoor$Indexes;)V"⟩, 10), (⟨"Shardmoor$Query", "tryPlan", "(II)V"⟩, 10), (⟨"Shardmoor$Groups", "sumOf", "(LShardmoor$Value;I)J"⟩, 7), (⟨"Shardmoor$Groups", "takeIn", "(LShardmoor$Store;IIJ)V"⟩, 7), (⟨"Shardmoor$Groups", "groupFor", "(LShardmoor$Store;II)I"⟩, 7), (⟨"Shardmoor$Groups", "orderTo", "(LShardmoor$Store;ILShardmoor$Value;I)I"⟩, 7)]
theorem lw_r2 : ∀ q ∈ lw_privs_2, lw_okq q := List.forall_mem_cons.mpr ⟨lw_p16, List.forall_mem_cons.mpr ⟨lw_p17, List.forall_mem_cons.mpr ⟨lw_p18, List.forall_mem_cons.mpr ⟨lw_p19, List.forall_mem_cons.mpr ⟨lw_p20, List.forall_mem_cons.mpr ⟨lw_p21, List.forall_mem_cons.mpr ⟨lw_p22, List.forall_mem_cons.mpr ⟨lw_p23, List.forall_mem_cons.mpr ⟨lw_p24, List.forall_mem_cons.mpr ⟨lw_p25, List.forall_mem_cons.mpr ⟨lw_p26, List.forall_mem_cons.mpr ⟨lw_p27, List.forall_mem_cons.mpr ⟨lw_p28, List.forall_mem_cons.mpr ⟨lw_p29, List.forall_mem_cons.mpr ⟨lw_p30, List.forall_mem_cons.mpr ⟨lw_p31, fun _ h => absurd h List.not_mem_nil⟩⟩⟩⟩⟩⟩⟩⟩⟩⟩⟩⟩⟩⟩⟩⟩
theorem lw_p32 : lw_okq (⟨"Shardmoor$Groups", "makeGroup", "(III)I"⟩, 7) := ⟨⟨by decide +kernel, by decide +kernel⟩, List.mem_of_getElem? (i := 272) (by decide +kernel), List.mem_of_getElem? (i := 1121) (by decide +kernel), List.mem_of_getElem? (i := 1122) (by decide +kernel)⟩
theorem lw_p33 : lw_okq (⟨"Shardmoor$Value", "printOn", "(JII)J"⟩, 2) := ⟨⟨by decide +kernel, by decide +kernel⟩, List.mem_of_getElem? (i := 38) (by decide +kernel), List.mem_of_getElem? (i := 1130) (by decide +kernel), List.mem_of_getElem? (i := 1131) (by decide +kernel)⟩
theorem lw_p34 : lw_okq (⟨"Shardmoor$Chart", "isLeft", "(LShardmoor$Store;I)Z"⟩, 13) := ⟨⟨by decide +kernel, by decide +kernel⟩, List.mem_of_getElem? (i := 88) (by decide +kernel), List.mem_of_getElem? (i := 1205) (by decide +kernel), List.mem_of_getElem? (i := 1206) (by decide +kernel)⟩
theorem lw_p35 : lw_okq (⟨"Shardmoor", "isExpired", "(I)Z"⟩, 10) := ⟨⟨by decide +kernel, by decide +kernel⟩, List.mem_of_getElem? (i := 23) (by decide +kernel), List.mem_of_getElem? (i := 1294) (by decide +kernel), List.mem_of_getElem? (i := 1295) (by decide +kernel)⟩
theorem lw_p36 : lw_okq (⟨"Shardmoor$Indexes", "entriesFor", "(LShardmoor$Value;I)I"⟩, 7) := ⟨⟨by decide +kernel, by decide +kernel⟩, List.mem_of_getElem? (i := 172) (by decide +kernel), List.mem_of_getElem? (i := 1326) (by decide +kernel), List.mem_of_getElem? (i := 1327) (by decide +kernel)⟩
theorem lw_p37 : lw_okq (⟨"Shardmoor$Indexes", "isFirst", "(LShardmoor$Value;I)Z"⟩, 7) := ⟨⟨by decide +kernel, by decide +kernel⟩, List.mem_of_getElem? (i := 172) (by decide +kernel), List.mem_of_getElem? (i := 1330) (by decide +kernel), List.mem_of_getElem? (i := 1331) (by decide +kernel)⟩
theorem lw_p38 : lw_okq (⟨"ShardmoorModel", "chunksAnew", "()V"⟩, 50) := ⟨⟨by decide +kernel, by decide +kernel⟩, List.mem_of_getElem? (i := 1400) (by decide +kernel), List.mem_of_getElem? (i := 1406) (by decide +kernel), List.mem_of_getElem? (i := 1407) (by decide +kernel)⟩
theorem lw_p39 : lw_okq (⟨"ShardmoorModel", "goes", "(ZZZ)Z"⟩, 50) := ⟨⟨by decide +kernel, by decide +kernel⟩, List.mem_of_getElem? (i := 1400) (by decide +kernel), List.mem_of_getElem? (i := 1569) (by decide +kernel), List.mem_of_getElem? (i := 1570) (by decide +kernel)⟩
theorem lw_p40 : lw_okq (⟨"ShardmoorModel", "puts", "(ZII)I"⟩, 50) := ⟨⟨by decide +kernel, by decide +kernel⟩, List.mem_of_getElem? (i := 1400) (by decide +kernel), List.mem_of_getElem? (i := 1573) (by decide +kernel), List.mem_of_getElem? (i := 1574) (by decide +kernel)⟩
theorem lw_p41 : lw_okq (⟨"ShardmoorModel", "top", "()I"⟩, 50) := ⟨⟨by decide +kernel, by decide +kernel⟩, List.mem_of_getElem? (i := 1400) (by decide +kernel), List.mem_of_getElem? (i := 1606) (by decide +kernel), List.mem_of_getElem? (i := 1607) (by decide +kernel)⟩
theorem lw_p42 : lw_okq (⟨"ShardmoorModel", "parts", "([II)I"⟩, 50) := ⟨⟨by decide +kernel, by decide +kernel⟩, List.mem_of_getElem? (i := 1400) (by decide +kernel), List.mem_of_getElem? (i := 1610) (by decide +kernel), List.mem_of_getElem? (i := 1611) (by decide +kernel)⟩
theorem lw_p43 : lw_okq (⟨"ShardmoorModel", "end", "([II)I"⟩, 50) := ⟨⟨by decide +kernel, by decide +kernel⟩, List.mem_of_getElem? (i := 1400) (by decide +kernel), List.mem_of_getElem? (i := 1621) (by decide +kernel), List.mem_of_getElem? (i := 1622) (by decide +kernel)⟩
theorem lw_p44 : lw_okq (⟨"ShardmoorModel", "adds", "([III)V"⟩, 50) := ⟨⟨by decide +kernel, by decide +kernel⟩, List.mem_of_getElem? (i := 1400) (by decide +kernel), List.mem_of_getElem? (i := 1625) (by decide +kernel), List.mem_of_getElem? (i := 1626) (by decide +kernel)⟩
theorem lw_p45 : lw_okq (⟨"ShardmoorModel", "lays", "(I)V"⟩, 50) := ⟨⟨by decide +kernel, by decide +kernel⟩, List.mem_of_getElem? (i := 1400) (by decide +kernel), List.mem_of_getElem? (i := 1629) (by decide +kernel), List.mem_of_getElem? (i := 1630) (by decide +kernel)⟩
theorem lw_p46 : lw_okq (⟨"ShardmoorModel", "builds", "([IIII[III)V"⟩, 50) := ⟨⟨by decide +kernel, by decide +kernel⟩, List.mem_of_getElem? (i := 1400) (by decide +kernel), List.mem_of_getElem? (i := 1637) (by decide +kernel), List.mem_of_getElem? (i := 1638) (by decide +kernel)⟩
theorem lw_p47 : lw_okq (⟨"ShardmoorModel", "keepsAll", "([II)Z"⟩, 50) := ⟨⟨by decide +kernel, by decide +kernel⟩, List.mem_of_getElem? (i := 1400) (by decide +kernel), List.mem_of_getElem? (i := 1649) (by decide +kernel), List.mem_of_getElem? (i := 1650) (by decide +kernel)⟩
def lw_privs_3 : List (MethodName × Nat) := [(⟨"Shardmoor$Groups", "makeGroup", "(III)I"⟩, 7), (⟨"Shardmoor$Value", "printOn", "(JII)J"⟩, 2), (⟨"Shardmoor$Chart", "isLeft", "(LShardmoor$Store;I)Z"⟩, 13), (⟨"Shardmoor", "isExpired", "(I)Z"⟩, 10), (⟨"Shardmoor$Indexes", "entriesFor", "(LShardmoor$Value;I)I"⟩, 7), (⟨"Shardmoor$Indexes", "isFirst", "(LShardmoor$Value;I)Z"⟩, 7), (⟨"ShardmoorModel", "chunksAnew", "()V"⟩, 50), (⟨"ShardmoorModel", "goes", "(ZZZ)Z"⟩, 50), (⟨"ShardmoorModel", "puts", "(ZII)I"⟩, 50), (⟨"ShardmoorModel", "top", "()I"⟩, 50), (⟨"ShardmoorModel", "parts", "([II)I"⟩, 50), (⟨"ShardmoorModel", "end", "([II)I"⟩, 50), (⟨"ShardmoorModel", "adds", "([III)V"⟩, 50), (⟨"ShardmoorModel", "lays", "(I)V"⟩, 50), (⟨"ShardmoorModel", "builds", "([IIII[III)V"⟩, 50), (⟨"ShardmoorModel", "keepsAll", "([II)Z"⟩, 50)]
theorem lw_r3 : ∀ q ∈ lw_privs_3, lw_okq q := List.forall_mem_cons.mpr ⟨lw_p32, List.forall_mem_cons.mpr ⟨lw_p33, List.forall_mem_cons.mpr ⟨lw_p34, List.forall_mem_cons.mpr ⟨lw_p35, List.forall_mem_cons.mpr ⟨lw_p36, List.forall_mem_cons.mpr ⟨lw_p37, List.forall_mem_cons.mpr ⟨lw_p38, List.forall_mem_cons.mpr ⟨lw_p39, List.forall_mem_cons.mpr ⟨lw_p40, List.forall_mem_cons.mpr ⟨lw_p41, List.forall_mem_cons.mpr ⟨lw_p42, List.forall_mem_cons.mpr ⟨lw_p43, List.forall_mem_cons.mpr ⟨lw_p44, List.forall_mem_cons.mpr ⟨lw_p45, List.forall_mem_cons.mpr ⟨lw_p46, List.forall_mem_cons.mpr ⟨lw_p47, fun _ h => absurd h List.not_mem_nil⟩⟩⟩⟩⟩⟩⟩⟩⟩⟩⟩⟩⟩⟩⟩⟩
theorem lw_p48 : lw_okq (⟨"ShardmoorModel", "fieldOf", "([III)I"⟩, 50) := ⟨⟨by decide +kernel, by decide +kernel⟩, List.mem_of_getElem? (i := 1400) (by decide +kernel), List.mem_of_getElem? (i := 1653) (by decide +kernel), List.mem_of_getElem? (i := 1654) (by decide +kernel)⟩
theorem lw_p49 : lw_okq (⟨"ShardmoorModel", "uses", "(I)V"⟩, 50) := ⟨⟨by decide +kernel, by decide +kernel⟩, List.mem_of_getElem? (i := 1400) (by decide +kernel), List.mem_of_getElem? (i := 1660) (by decide +kernel), List.mem_of_getElem? (i := 1661) (by decide +kernel)⟩
theorem lw_p50 : lw_okq (⟨"ShardmoorModel", "shardOf", "(I)I"⟩, 50) := ⟨⟨by decide +kernel, by decide +kernel⟩, List.mem_of_getElem? (i := 1400) (by decide +kernel), List.mem_of_getElem? (i := 1664) (by decide +kernel), List.mem_of_getElem? (i := 1665) (by decide +kernel)⟩
theorem lw_p51 : lw_okq (⟨"ShardmoorModel", "chunkOf", "(I)I"⟩, 50) := ⟨⟨by decide +kernel, by decide +kernel⟩, List.mem_of_getElem? (i := 1400) (by decide +kernel), List.mem_of_getElem? (i := 1668) (by decide +kernel), List.mem_of_getElem? (i := 1669) (by decide +kernel)⟩
theorem lw_p52 : lw_okq (⟨"ShardmoorModel", "keyOf", "(I)I"⟩, 50) := ⟨⟨by decide +kernel, by decide +kernel⟩, List.mem_of_getElem? (i := 1400) (by decide +kernel), List.mem_of_getElem? (i := 1672) (by decide +kernel), List.mem_of_getElem? (i := 1673) (by decide +kernel)⟩
theorem lw_p53 : lw_okq (⟨"ShardmoorModel", "moving", "()I"⟩, 50) := ⟨⟨by decide +kernel, by decide +kernel⟩, List.mem_of_getElem? (i := 1400) (by decide +kernel), List.mem_of_getElem? (i := 1680) (by decide +kernel), List.mem_of_getElem? (i := 1681) (by decide +kernel)⟩
theorem lw_p54 : lw_okq (⟨"ShardmoorModel", "enters", "(III)V"⟩, 50) := ⟨⟨by decide +kernel, by decide +kernel⟩, List.mem_of_getElem? (i := 1400) (by decide +kernel), List.mem_of_getElem? (i := 1684) (by decide +kernel), List.mem_of_getElem? (i := 1685) (by decide +kernel)⟩
theorem lw_p55 : lw_okq (⟨"ShardmoorModel", "isThere", "(I)Z"⟩, 50) := ⟨⟨by decide +kernel, by decide +kernel⟩, List.mem_of_getElem? (i := 1400) (by decide +kernel), List.mem_of_getElem? (i := 1692) (by decide +kernel), List.mem_of_getElem? (i := 1693) (by decide +kernel)⟩
theorem lw_p56 : lw_okq (⟨"ShardmoorModel", "updates", "(III)Z"⟩, 50) := ⟨⟨by decide +kernel, by decide +kernel⟩, List.mem_of_getElem? (i := 1400) (by decide +kernel), List.mem_of_getElem? (i := 1696) (by decide +kernel), List.mem_of_getElem? (i := 1697) (by decide +kernel)⟩
theorem lw_p57 : lw_okq (⟨"ShardmoorModel", "works", "(II)Z"⟩, 50) := ⟨⟨by decide +kernel, by decide +kernel⟩, List.mem_of_getElem? (i := 1400) (by decide +kernel), List.mem_of_getElem? (i := 1700) (by decide +kernel), List.mem_of_getElem? (i := 1701) (by decide +kernel)⟩
theorem lw_p58 : lw_okq (⟨"ShardmoorModel", "values", "([III)V"⟩, 50) := ⟨⟨by decide +kernel, by decide +kernel⟩, List.mem_of_getElem? (i := 1400) (by decide +kernel), List.mem_of_getElem? (i := 1704) (by decide +kernel), List.mem_of_getElem? (i := 1705) (by decide +kernel)⟩
theorem lw_p59 : lw_okq (⟨"ShardmoorModel", "compare", "([II[II)I"⟩, 50) := ⟨⟨by decide +kernel, by decide +kernel⟩, List.mem_of_getElem? (i := 1400) (by decide +kernel), List.mem_of_getElem? (i := 1708) (by decide +kernel), List.mem_of_getElem? (i := 1709) (by decide +kernel)⟩
theorem lw_p60 : lw_okq (⟨"ShardmoorModel", "removes", "(I)I"⟩, 50) := ⟨⟨by decide +kernel, by decide +kernel⟩, List.mem_of_getElem? (i := 1400) (by decide +kernel), List.mem_of_getElem? (i := 1716) (by decide +kernel), List.mem_of_getElem? (i := 1717) (by decide +kernel)⟩
theorem lw_p61 : lw_okq (⟨"ShardmoorModel", "isIndex", "(I)Z"⟩, 50) := ⟨⟨by decide +kernel, by decide +kernel⟩, List.mem_of_getElem? (i := 1400) (by decide +kernel), List.mem_of_getElem? (i := 1732) (by decide +kernel), List.mem_of_getElem? (i := 1733) (by decide +kernel)⟩
theorem lw_p62 : lw_okq (⟨"ShardmoorModel", "dropPlan", "(I)V"⟩, 50) := ⟨⟨by decide +kernel, by decide +kernel⟩, List.mem_of_getElem? (i := 1400) (by decide +kernel), List.mem_of_getElem? (i := 1736) (by decide +kernel), List.mem_of_getElem? (i := 1737) (by decide +kernel)⟩
theorem lw_p63 : lw_okq (⟨"ShardmoorModel", "filterAt", "(I)I"⟩, 50) := ⟨⟨by decide +kernel, by decide +kernel⟩, List.mem_of_getElem? (i := 1400) (by decide +kernel), List.mem_of_getElem? (i := 1744) (by decide +kernel), List.mem_of_getElem? (i := 1745) (by decide +kernel)⟩
def lw_privs_4 : List (MethodName × Nat) := [(⟨"ShardmoorModel", "fieldOf", "([III)I"⟩, 50), (⟨"ShardmoorModel", "uses", "(I)V"⟩, 50), (⟨"ShardmoorModel", "shardOf", "(I)I"⟩, 50), (⟨"ShardmoorModel", "chunkOf", "(I)I"⟩, 50), (⟨"ShardmoorModel", "keyOf", "(I)I"⟩, 50), (⟨"ShardmoorModel", "moving", "()I"⟩, 50), (⟨"ShardmoorModel", "enters", "(III)V"⟩, 50), (⟨"ShardmoorModel", "isThere", "(I)Z"⟩, 50), (⟨"ShardmoorModel", "updates", "(III)Z"⟩, 50), (⟨"ShardmoorModel", "works", "(II)Z"⟩, 50), (⟨"ShardmoorModel", "values", "([III)V"⟩, 50), (⟨"ShardmoorModel", "compare", "([II[II)I"⟩, 50), (⟨"ShardmoorModel", "removes", "(I)I"⟩, 50), (⟨"ShardmoorModel", "isIndex", "(I)Z"⟩, 50), (⟨"ShardmoorModel", "dropPlan", "(I)V"⟩, 50), (⟨"ShardmoorModel", "filterAt", "(I)I"⟩, 50)]
theorem lw_r4 : ∀ q ∈ lw_privs_4, lw_okq q := List.forall_mem_cons.mpr ⟨lw_p48, List.forall_mem_cons.mpr ⟨lw_p49, List.forall_mem_cons.mpr ⟨lw_p50, List.forall_mem_cons.mpr ⟨lw_p51, List.forall_mem_cons.mpr ⟨lw_p52, List.forall_mem_cons.mpr ⟨lw_p53, List.forall_mem_cons.mpr ⟨lw_p54, List.forall_mem_cons.mpr ⟨lw_p55, List.forall_mem_cons.mpr ⟨lw_p56, List.forall_mem_cons.mpr ⟨lw_p57, List.forall_mem_cons.mpr ⟨lw_p58, List.forall_mem_cons.mpr ⟨lw_p59, List.forall_mem_cons.mpr ⟨lw_p60, List.forall_mem_cons.mpr ⟨lw_p61, List.forall_mem_cons.mpr ⟨lw_p62, List.forall_mem_cons.mpr ⟨lw_p63, fun _ h => absurd h List.not_mem_nil⟩⟩⟩⟩⟩⟩⟩⟩⟩⟩⟩⟩⟩⟩⟩⟩
theorem lw_p64 : lw_okq (⟨"ShardmoorModel", "shape", "()J"⟩, 50) := ⟨⟨by decide +kernel, by decide +kernel⟩, List.mem_of_getElem? (i := 1400) (by decide +kernel), List.mem_of_getElem? (i := 1756) (by decide +kernel), List.mem_of_getElem? (i := 1757) (by decide +kernel)⟩
theorem lw_p65 : lw_okq (⟨"ShardmoorModel", "looked", "(I)I"⟩, 50) := ⟨⟨by decide +kernel, by decide +kernel⟩, List.mem_of_getElem? (i := 1400) (by decide +kernel), List.mem_of_getElem? (i := 1762) (by decide +kernel), List.mem_of_getElem? (i := 1763) (by decide +kernel)⟩
theorem lw_p66 : lw_okq (⟨"ShardmoorModel", "lookFilter", "(I)I"⟩, 50) := ⟨⟨by decide +kernel, by decide +kernel⟩, List.mem_of_getElem? (i := 1400) (by decide +kernel), List.mem_of_getElem? (i := 1766) (by decide +kernel), List.mem_of_getElem? (i := 1767) (by decide +kernel)⟩
theorem lw_p67 : lw_okq (⟨"ShardmoorModel", "looks", "(II)V"⟩, 50) := ⟨⟨by decide +kernel, by decide +kernel⟩, List.mem_of_getElem? (i := 1400) (by decide +kernel), List.mem_of_getElem? (i := 1770) (by decide +kernel), List.mem_of_getElem? (i := 1771) (by decide +kernel)⟩
theorem lw_p68 : lw_okq (⟨"ShardmoorModel", "spotOf", "(II)V"⟩, 50) := ⟨⟨by decide +kernel, by decide +kernel⟩, List.mem_of_getElem? (i := 1400) (by decide +kernel), List.mem_of_getElem? (i := 1774) (by decide +kernel), List.mem_of_getElem? (i := 1775) (by decide +kernel)⟩
theorem lw_p69 : lw_okq (⟨"ShardmoorModel", "spot", "(I)V"⟩, 50) := ⟨⟨by decide +kernel, by decide +kernel⟩, List.mem_of_getElem? (i := 1400) (by decide +kernel), List.mem_of_getElem? (i := 1778) (by decide +kernel), List.mem_of_getElem? (i := 1779) (by decide +kernel)⟩
theorem lw_p70 : lw_okq (⟨"ShardmoorModel", "fitsAt", "(II)Z"⟩, 50) := ⟨⟨by decide +kernel, by decide +kernel⟩, List.mem_of_getElem? (i := 1400) (by decide +kernel), List.mem_of_getElem? (i := 1782) (by decide +kernel), List.mem_of_getElem? (i := 1783) (by decide +kernel)⟩
theorem lw_p71 : lw_okq (⟨"ShardmoorModel", "fitsAll", "(I)Z"⟩, 50) := ⟨⟨by decide +kernel, by decide +kernel⟩, List.mem_of_getElem? (i := 1400) (by decide +kernel), List.mem_of_getElem? (i := 1786) (by decide +kernel), List.mem_of_getElem? (i := 1787) (by decide +kernel)⟩
theorem lw_p72 : lw_okq (⟨"ShardmoorModel", "fits", "(II)Z"⟩, 50) := ⟨⟨by decide +kernel, by decide +kernel⟩, List.mem_of_getElem? (i := 1400) (by decide +kernel), List.mem_of_getElem? (i := 1790) (by decide +kernel), List.mem_of_getElem? (i := 1791) (by decide +kernel)⟩
theorem lw_p73 : lw_okq (⟨"ShardmoorModel", "membersOf", "([II)I"⟩, 50) := ⟨⟨by decide +kernel, by decide +kernel⟩, List.mem_of_getElem? (i := 1400) (by decide +kernel), List.mem_of_getElem? (i := 1794) (by decide +kernel), List.mem_of_getElem? (i := 1795) (by decide +kernel)⟩
theorem lw_p74 : lw_okq (⟨"ShardmoorModel", "groupsAt", "(IJ)V"⟩, 50) := ⟨⟨by decide +kernel, by decide +kernel⟩, List.mem_of_getElem? (i := 1400) (by decide +kernel), List.mem_of_getElem? (i := 1814) (by decide +kernel), List.mem_of_getElem? (i := 1815) (by decide +kernel)⟩
theorem lw_p75 : lw_okq (⟨"ShardmoorModel", "printOf", "([II)J"⟩, 50) := ⟨⟨by decide +kernel, by decide +kernel⟩, List.mem_of_getElem? (i := 1400) (by decide +kernel), List.mem_of_getElem? (i := 1818) (by decide +kernel), List.mem_of_getElem? (i := 1819) (by decide +kernel)⟩
theorem lw_p76 : lw_okq (⟨"ShardmoorModel", "isChunk", "(I)Z"⟩, 50) := ⟨⟨by decide +kernel, by decide +kernel⟩, List.mem_of_getElem? (i := 1400) (by decide +kernel), List.mem_of_getElem? (i := 1832) (by decide +kernel), List.mem_of_getElem? (i := 1833) (by decide +kernel)⟩
theorem lw_p77 : lw_okq (⟨"ShardmoorModel", "forgets", "()V"⟩, 50) := ⟨⟨by decide +kernel, by decide +kernel⟩, List.mem_of_getElem? (i := 1400) (by decide +kernel), List.mem_of_getElem? (i := 1840) (by decide +kernel), List.mem_of_getElem? (i := 1841) (by decide +kernel)⟩
theorem lw_p78 : lw_okq (⟨"ShardmoorModel", "documentsOf", "(I)I"⟩, 50) := ⟨⟨by decide +kernel, by decide +kernel⟩, List.mem_of_getElem? (i := 1400) (by decide +kernel), List.mem_of_getElem? (i := 1844) (by decide +kernel), List.mem_of_getElem? (i := 1845) (by decide +kernel)⟩
theorem lw_p79 : lw_okq (⟨"ShardmoorModel", "copies", "()I"⟩, 50) := ⟨⟨by decide +kernel, by decide +kernel⟩, List.mem_of_getElem? (i := 1400) (by decide +kernel), List.mem_of_getElem? (i := 1852) (by decide +kernel), List.mem_of_getElem? (i := 1853) (by decide +kernel)⟩
def lw_privs_5 : List (MethodName × Nat) := [(⟨"ShardmoorModel", "shape", "()J"⟩, 50), (⟨"ShardmoorModel", "looked", "(I)I"⟩, 50), (⟨"ShardmoorModel", "lookFilter", "(I)I"⟩, 50), (⟨"ShardmoorModel", "looks", "(II)V"⟩, 50), (⟨"ShardmoorModel", "spotOf", "(II)V"⟩, 50), (⟨"ShardmoorModel", "spot", "(I)V"⟩, 50), (⟨"ShardmoorModel", "fitsAt", "(II)Z"⟩, 50), (⟨"ShardmoorModel", "fitsAll", "(I)Z"⟩, 50), (⟨"ShardmoorModel", "fits", "(II)Z"⟩, 50), (⟨"ShardmoorModel", "membersOf", "([II)I"⟩, 50), (⟨"ShardmoorModel", "groupsAt", "(IJ)V"⟩, 50), (⟨"ShardmoorModel", "printOf", "([II)J"⟩, 50), (⟨"ShardmoorModel", "isChunk", "(I)Z"⟩, 50), (⟨"ShardmoorModel", "forgets", "()V"⟩, 50), (⟨"ShardmoorModel", "documentsOf", "(I)I"⟩, 50), (⟨"ShardmoorModel", "copies", "()I"⟩, 50)]
theorem lw_r5 : ∀ q ∈ lw_privs_5, lw_okq q := List.forall_mem_cons.mpr ⟨lw_p64, List.forall_mem_cons.mpr ⟨lw_p65, List.forall_mem_cons.mpr ⟨lw_p66, List.forall_mem_cons.mpr ⟨lw_p67, List.forall_mem_cons.mpr ⟨lw_p68, List.forall_mem_cons.mpr ⟨lw_p69, List.forall_mem_cons.mpr ⟨lw_p70, List.forall_mem_cons.mpr ⟨lw_p71, List.forall_mem_cons.mpr ⟨lw_p72, List.forall_mem_cons.mpr ⟨lw_p73, List.forall_mem_cons.mpr ⟨lw_p74, List.forall_mem_cons.mpr ⟨lw_p75, List.forall_mem_cons.mpr ⟨lw_p76, List.forall_mem_cons.mpr ⟨lw_p77, List.forall_mem_cons.mpr ⟨lw_p78, List.forall_mem_cons.mpr ⟨lw_p79, fun _ h => absurd h List.not_mem_nil⟩⟩⟩⟩⟩⟩⟩⟩⟩⟩⟩⟩⟩⟩⟩⟩
theorem lw_p80 : lw_okq (⟨"ShardmoorModel", "entriesOf", "(I)I"⟩, 50) := ⟨⟨by decide +kernel, by decide +kernel⟩, List.mem_of_getElem? (i := 1400) (by decide +kernel), List.mem_of_getElem? (i := 1896) (by decide +kernel), List.mem_of_getElem? (i := 1897) (by decide +kernel)⟩
def lw_privs_6 : List (MethodName × Nat) := [(⟨"ShardmoorModel", "entriesOf", "(I)I"⟩, 50)]
theorem lw_r6 : ∀ q ∈ lw_privs_6, lw_okq q := List.forall_mem_cons.mpr ⟨lw_p80, fun _ h => absurd h List.not_mem_nil⟩
def lw_privs : List (MethodName × Nat) := lw_privs_1 ++ (lw_privs_2 ++ (lw_privs_3 ++ (lw_privs_4 ++ (lw_privs_5 ++ (lw_privs_6)))))
def lw_tbl : List Cond := k2_sels lw_privs ++ tables_1
theorem lw_privs_ok : ∀ q ∈ lw_privs, lw_okq q := by
  show ∀ q ∈ lw_privs_1 ++ (lw_privs_2 ++ (lw_privs_3 ++ (lw_privs_4 ++ (lw_privs_5 ++ (lw_privs_6))))), lw_okq q
  exact List.forall_mem_append.mpr ⟨lw_r1, List.forall_mem_append.mpr ⟨lw_r2, List.forall_mem_append.mpr ⟨lw_r3, List.forall_mem_append.mpr ⟨lw_r4, List.forall_mem_append.mpr ⟨lw_r5, lw_r6⟩⟩⟩⟩⟩
-- ===== end of PART A; then your names; then what follows =====
end
section
/-! ===== BEGIN words of one list among another's, by their places ===== -/
theorem goodIn_r {big : List Cond} (ws : List Cond) (ps : List Nat) (hp : ws = ps.filterMap (fun i => big[i]?)) (h : ws.all goodWord = true) : GoodIn big ws := by
  intro w hw
  have h1 := List.all_eq_true.mp h w hw
  rw [hp] at hw
  obtain ⟨i, -, hi⟩ := List.mem_filterMap.mp hw
  have hm : w ∈ big := by first | exact List.mem_of_getElem? hi | exact List.getElem?_mem hi
  exact ⟨hm, good_of_word h1⟩
theorem goodIn_app {big a b : List Cond} (ha : GoodIn big a) (hb : GoodIn big b) : GoodIn big (a ++ b) := fun w h => (List.mem_append.mp h).elim (ha w) (hb w)
theorem goodIn_ca {big a b : List Cond} {c : Cond} (ha : GoodIn big (c :: a)) (hb : GoodIn big b) : GoodIn big (c :: (a ++ b)) := fun w h => (List.mem_cons.mp h).elim (fun e => ha w (List.mem_cons.mpr (Or.inl e))) (fun h => (List.mem_append.mp h).elim (fun h => ha w (List.mem_cons.mpr (Or.inr h))) (hb w))
theorem goodIn_sub {big ws : List Cond} (hm : ∀ w ∈ ws, w ∈ big) (h : ws.all goodWord = true) : GoodIn big ws := fun w hw => ⟨hm w hw, good_of_word (List.all_eq_true.mp h w hw)⟩
/-! ===== END ===== -/

/-! ===== BEGIN exceptions that leave a method, and their catching by the caller (launches without stack traces) ===== -/
section VXA
/-! The laws vx_back, vx_callV, vx_callS, vx_callSW, vx_throw0, vx_throwS follow proofs of the library, with one case more: JvmDerived/Free/Laws.lean (Back.of_free), Shelf42/LK1.lean (callV, callS), Shelf/KitTraced.lean (throwNew0V, throwNewS). -/
/-- where a method has thrown q: the class by its name, the cell, what was written, the world -/
def vx_T (XC : String → State → State → Prop) (st : State) (q : Addr) (t : State) (mc ms : Nat) (free : Addr → Prop) : Prop :=
  ∃ (E : String) (ce : Cell) (L : List Loc), XC E st t ∧ t.heap[q]? = some ce ∧ ce.vm = .none ∧ st.vm.findClass E = some ce.cls ∧ st.WarmedH t.vm ∧ st.sameButNew ({ t with vm := st.vm } : State) L mc ms ∧ ∀ z ∈ L, free z.base
def vx_Q (Qc : Array Value → State → Outcome → State → Prop) (XC : String → State → State → Prop) (mc ms : Nat) (free : Addr → Prop) : Array Value → State → Outcome → State → Prop := fun a st o t =>
  (Qc a st o t ∧ ∃ L, FrameEnd st o t L mc ms ∧ ∀ q ∈ L, free q.base) ∨ ∃ q, o = .threw q ∧ vx_T XC st q t mc ms free
/-- a callee that returns or throws -/
def vx_Met (l : Launch) (y : MethodName) (ws : List Cond) (rm : Room) (Pc : Array Value → State → Prop) (Qc : Array Value → State → Outcome → State → Prop) (XC : String → State → State → Prop) (mc ms : Nat) (free : Addr → Prop) : Prop :=
  MetFree l y (headSpec ws rm) Pc (fun _ _ _ _ _ => True) (vx_Q Qc XC mc ms free)
def vx_Post (XC : String → State → State → Prop) (mc ms : Nat) (free : Addr → Prop) : Pt → Array Value → Addr → Pt → Prop := fun A a q B =>
  ∃ (g : JFrame) (mk : MethodId) (t : State) (L : List Loc) (E : String) (ce : Cell), B.U.heap = t.heap ∧ B.U.vm = t.vm ∧ XC E (A.U.calling g mk a) t ∧ t.heap[q]? = some ce ∧ ce.vm = .none ∧ A.U.vm.findClass E = some ce.cls ∧ B.locs = A.locs ++ L ∧ (∀ z ∈ L, free z.base) ∧ B.cells = A.cells + mc ∧ B.slots = A.slots + ms
def vx_Back (l : Launch) (R : Room) (p : Program) (e : Env) (below : List Frame) (s : State) (sargs : Array Value) (y : MethodName) (len W9 : Nat)
    (Pre : Pt → Array Value → Prop) (Post : Pt → Array Value → Option Value → Pt → Prop) (PostX : Pt → Array Value → Addr → Pt → Prop) : Prop :=
  ∀ (m : MethodId) (meth : Method) (c : Code) (A : Pt) (g : JFrame) (ig : Instr) (mk : MethodId) (a : Array Value),
    Stand p l e R s m sargs below meth c A.U A.locs A.cells A.slots → g.method = m → g.locals.size = c.maxLocals → decode c.code g.pc = .ok (ig, len) →
    2 * g.monitorRoom + (g.stack.map fun v => v.category).sum ≤ W9 → A.U.methodNamed? y = some mk → Pre A a →
    (∃ (v : Option Value) (B : Pt), Stand p l e R s m sargs below meth c B.U B.locs B.cells B.slots ∧ Post A a v B ∧
      Steps p.tables e below (doInvoke e (A.U.setTop g) [] mk a).1 (B.U.setTop { g with pc := g.pc + len, stack := v.toList ++ g.stack })) ∨
    (∃ (q : Addr) (B : Pt), Stand p l e R s m sargs below meth c B.U B.locs B.cells B.slots ∧ PostX A a q B ∧
      Steps p.tables e below (doInvoke e (A.U.setTop g) [] mk a).1 ((B.U.setTop g).pushFrame (.throwing q)))
section Payer
variable {l : Launch} {R : Room} {p : Program} {e : Env} {below : List Frame} {s : State} {sargs : Array Value} {y : MethodName} {len W9 : Nat}
theorem vx_back {ws : List Cond} {rm : Room} {Pc : Array Value → State → Prop} {Qc : Array Value → State → Outcome → State → Prop} {XC : String → State → State → Prop} {mc ms : Nat} {free : Addr → Prop} {bytes : ByteArray} {maxL : Nat} {ret : Option FieldType}
    (hM : vx_Met l y ws rm Pc Qc XC mc ms free) (hblind : FrameBlind Pc) (hrc : rm.cells = mc) (hrs : rm.slots = ms)
    (hframes : rm.frames + 1 ≤ R.frames) (hlocals : W9 + (maxL + 11) + rm.locals ≤ R.locals)
    (hws : ∀ w ∈ ws, ∀ a' U, s.WarmedH U.vm → w.before a' U = true) (hcode : Cond.code y bytes maxL ret ∈ ws) (hinit : ∀ a' U, s.WarmedH U.vm → (Cond.initialized y.cls).before a' U = true) :
    vx_Back l R p e below s sargs y len W9 (PreOf R mc ms Pc) (PostOf Qc mc ms free) (vx_Post XC mc ms free) := by
  intro m meth c A g ig mk a X hg hsize hdg hW hn hp
  have h1 : (headSpec ws rm).pre.before a A.U = true := atoms_intro fun w hw => hws w hw _ _ X.warmed
  have h2 : (Cond.code y bytes maxL ret).before a A.U = true := hws _ hcode _ _ X.warmed
  have h3 : (Cond.initialized y.cls).before a A.U = true := hinit _ _ X.warmed
  have h4 : A.cells + (headSpec ws rm).room.cells ≤ R.cells := by rw [show (headSpec ws rm).room.cells = mc from hrc]; exact hp.1
  have h5 : A.slots + (headSpec ws rm).room.slots ≤ R.slots := by rw [show (headSpec ws rm).room.slots = ms from hrs]; exact hp.2.1
  have hPc : Pc a (A.U.calling g mk a) := hblind _ _ _ _ hp.2.2
  obtain ⟨U, Ls, c0, s0⟩ := A
  dsimp only [Pt.U, Pt.locs, Pt.cells, Pt.slots] at h1 h2 h3 h4 h5 X hn hPc ⊢
  obtain ⟨methY, cY, hmY, hcY, -, hlY, -, -, -, -⟩ := Cond.code_spec hn h2
  obtain ⟨kY, hkY, -⟩ := className_of_methodNamed hn
  have hinitY : kY.init = .initialized := Cond.initialized_spec (findClass_of_methodNamed hn) hkY h3
  have h : At U g.method c below := by rw [hg]; exact X.here
  have hlocals9 : W9 + (maxL + 11) + (headSpec ws rm).room.locals ≤ R.locals := hlocals
  have happ : (headSpec ws rm).appliesLoose y e.platform (U.calling g mk a) = true :=
    Spec.appliesLoose_calling (g := g) h hdg hn hkY hinitY
      (X.room_calling (g := g) (R' := (headSpec ws rm).room) hsize hmY hcY hframes (by rw [hlY]; omega) h4 h5) h1
  obtain ⟨mid, hmid⟩ := h.above
  have hfr : (U.setTop g).frames = (.java g :: mid) ++ below := by rw [State.frames_setTop' g h.top, hmid]; rfl
  obtain ⟨o, s₂, hsteps, -, hend, hq⟩ := Steps.callFree hM p X.admits X.cas X.clock (acts := []) hfr happ hPc trivial
  have hq' : vx_Q Qc XC mc ms free a (U.calling g mk a) o s₂ := hq
  rw [State.frames_setTop' g h.top] at hend
  obtain ⟨g₀, hg0⟩ := Option.isSome_iff_exists.mp h.top
  obtain ⟨r, hr⟩ := State.topJava?_eq_some.mp hg0
  have hr' : (({ U with heap := s₂.heap, slotsUsed := s₂.slotsUsed } : State).setVm s₂.vm).frames = .java g₀ :: r := hr
  rcases hq' with ⟨hqc, L, hfe, hL⟩ | ⟨q, rfl, E, ce, L, hx, hce, hcv, hcl, hW₂, hsm, hL⟩
  · obtain ⟨⟨v, rfl⟩, hW₂, e2, q2, q3, q4, q5, q6⟩ := id hfe
    have e3 : s₂ = ({ (U.calling g mk a).setFrames s₂.frames with heap := s₂.heap, slotsUsed := s₂.slotsUsed } : State).setVm s₂.vm := by
      have : s₂ = ({ s₂ with vm := (U.calling g mk a).vm } : State).setVm s₂.vm := rfl
      rw [e2] at this
      exact this
    obtain ⟨c₂, i₂, len₂, hc₂, hd₂, hf₂⟩ := hend
    have hW' : U.WarmedH s₂.vm := hW₂
    have hcc : c₂ = c := by
      have h1 : s₂.code? g.method = U.code? g.method := by
        rw [State.code?_eq, State.code?_eq, hW'.alike.method?]
      exact Option.some.inj (hc₂.symm.trans (h1.trans h.code))
    subst hcc
    have hlen : len₂ = len := by rw [hdg] at hd₂; cases hd₂; rfl
    subst hlen
    have hs₂ : s₂ = (({ U with heap := s₂.heap, slotsUsed := s₂.slotsUsed } : State).setVm s₂.vm).setTop { g with pc := g.pc + len₂, stack := v.toList ++ g.stack } := by
      refine e3.trans ?_
      rw [hf₂, State.calling_eq h.top, State.setFrames_setFrames, State.setTop_of_frames _ hr', hr]
      rfl
    have hsame : U.sameButNew ({ U with heap := s₂.heap, slotsUsed := s₂.slotsUsed } : State) L mc ms := by
      refine ⟨?_, q2, q3, q4, q5, q6⟩
      obtain ⟨t, ht, -⟩ := State.frames_cons hr
      show ({ U with heap := s₂.heap, slotsUsed := s₂.slotsUsed } : State) = { U.setFrames U.frames with heap := s₂.heap, slotsUsed := s₂.slotsUsed }
      rw [State.setFrames_self ht]
    subst hg
    refine Or.inl ⟨v, ⟨(({ U with heap := s₂.heap, slotsUsed := s₂.slotsUsed } : State).setVm s₂.vm), Ls ++ L, c0 + mc, s0 + ms⟩,
      ⟨X.admits, X.cas, X.clock, X.frames, X.room, X.hears, X.method, X.code, (X.here.setHeapUsed s₂.heap s₂.slotsUsed).setVm hW'.alike, X.tail, State.WarmedH.trans X.warmed hW', X.limits, X.bytes, X.same.trans (hsame.setVm s.vm)⟩,
      ⟨g, mk, s₂, L, rfl, rfl, hqc, rfl, hL, rfl, rfl⟩, ?_⟩
    show Steps p.tables e below _ ((({ U with heap := s₂.heap, slotsUsed := s₂.slotsUsed } : State).setVm s₂.vm).setTop { g with pc := g.pc + len₂, stack := v.toList ++ g.stack })
    rw [← hs₂]
    exact hsteps
  · obtain ⟨e2, q2, q3, q4, q5, q6⟩ := id hsm
    have e3 : s₂ = ({ (U.calling g mk a).setFrames s₂.frames with heap := s₂.heap, slotsUsed := s₂.slotsUsed } : State).setVm s₂.vm := by
      have : s₂ = ({ s₂ with vm := (U.calling g mk a).vm } : State).setVm s₂.vm := rfl
      rw [e2] at this
      exact this
    have hf₂ : s₂.frames = .throwing q :: .java g :: U.frames.tail := hend
    have hW' : U.WarmedH s₂.vm := hW₂
    have hs₂ : s₂ = ((({ U with heap := s₂.heap, slotsUsed := s₂.slotsUsed } : State).setVm s₂.vm).setTop g).pushFrame (.throwing q) := by
      refine e3.trans ?_
      rw [hf₂, State.calling_eq h.top, State.setFrames_setFrames, State.pushFrame, State.frames_setTop _ hr', State.setTop_of_frames _ hr', State.setFrames_setFrames, hr]
      rfl
    have hsame : U.sameButNew ({ U with heap := s₂.heap, slotsUsed := s₂.slotsUsed } : State) L mc ms := by
      refine ⟨?_, q2, q3, q4, q5, q6⟩
      obtain ⟨t, ht, -⟩ := State.frames_cons hr
      show ({ U with heap := s₂.heap, slotsUsed := s₂.slotsUsed } : State) = { U.setFrames U.frames with heap := s₂.heap, slotsUsed := s₂.slotsUsed }
      rw [State.setFrames_self ht]
    subst hg
    refine Or.inr ⟨q, ⟨(({ U with heap := s₂.heap, slotsUsed := s₂.slotsUsed } : State).setVm s₂.vm), Ls ++ L, c0 + mc, s0 + ms⟩,
      ⟨X.admits, X.cas, X.clock, X.frames, X.room, X.hears, X.method, X.code, (X.here.setHeapUsed s₂.heap s₂.slotsUsed).setVm hW'.alike, X.tail, State.WarmedH.trans X.warmed hW', X.limits, X.bytes, X.same.trans (hsame.setVm s.vm)⟩,
      ⟨g, mk, s₂, L, E, ce, rfl, rfl, hx, hce, hcv, hcl, rfl, hL, rfl, rfl⟩, ?_⟩
    show Steps p.tables e below _ (((({ U with heap := s₂.heap, slotsUsed := s₂.slotsUsed } : State).setVm s₂.vm).setTop g).pushFrame (.throwing q))
    rw [← hs₂]
    exact hsteps
end Payer
section Calls
variable {p : Program} {l : Launch} {e : Env} {R : Room} {s : State} {m : MethodId} {args : Array Value} {below : List Frame} {meth : Method} {c : Code} {T : State} {locs : List Loc} {cells slots : Nat}
theorem vx_callV (X : Stand p l e R s m args below meth c T locs cells slots) (hexec : p.tables.exec = Jvm.exec) {own C : String} {index : Nat} {y : MethodName} {bytes : ByteArray} {maxL : Nat} {ret : Option FieldType}
    (hown : s.vm.findClass own = some m.cls) (hlink : (Cond.methodLink own index y).before args s = true) (hinst : (Cond.instanceMethod y).before args s = true) (hsel : (Cond.selects C y y).before args s = true)
    (hcode : (Cond.code y bytes maxL ret).before args s = true) (hy : y.cls ≠ "java/lang/invoke/MethodHandle" ∧ y.cls ≠ "java/lang/invoke/VarHandle")
    {W9 : Nat} {Pre : Pt → Array Value → Prop} {Post : Pt → Array Value → Option Value → Pt → Prop} {PostX : Pt → Array Value → Addr → Pt → Prop} (hK : vx_Back l R p e below s args y 3 W9 Pre Post PostX)
    {b : Addr} {cellB : Cell} (hcell : T.heap[b]? = some cellB) (hobj : cellB.vm.isStatics = false) (hcls : s.vm.findClass C = some cellB.cls)
    {g : JFrame} (hg : g.method = m) (hsize : g.locals.size = c.maxLocals) {argsL rest : List Value} (hlen : ∀ sig, parseMethodDescriptor y.desc = some sig → argsL.length = sig.parameters.length)
    (hstack : g.stack = argsL.reverse ++ .ref b :: rest) (hW : 2 * g.monitorRoom + (rest.map fun v => v.category).sum ≤ W9) (hdg : decode c.code g.pc = .ok (.invokevirtual index, 3))
    (hpre : ∀ vm₁, s.WarmedH vm₁ → Pre ⟨T.setVm vm₁, locs, cells, slots⟩ (Value.ref b :: argsL).toArray) :
    (∃ (v : Option Value) (vm₁ : Vm) (B : Pt), s.WarmedH vm₁ ∧ Stand p l e R s m args below meth c B.U B.locs B.cells B.slots ∧ Post ⟨T.setVm vm₁, locs, cells, slots⟩ (Value.ref b :: argsL).toArray v B ∧
      ∀ target, Steps p.tables e below (B.U.setTop { g with pc := g.pc + 3, stack := v.toList ++ rest }) target → Steps p.tables e below (T.setTop g) target) ∨
    (∃ (q : Addr) (vm₁ : Vm) (B : Pt), s.WarmedH vm₁ ∧ Stand p l e R s m args below meth c B.U B.locs B.cells B.slots ∧ PostX ⟨T.setVm vm₁, locs, cells, slots⟩ (Value.ref b :: argsL).toArray q B ∧
      Steps p.tables e below (T.setTop g) ((B.U.setTop { g with stack := rest }).pushFrame (.throwing q))) := by
  obtain ⟨mk, methM, hnamed, hmethM, hstM, habM⟩ := Cond.instanceMethod_spec hinst
  obtain ⟨methM', cM, hmethM', -, -, -, -, -, -, hsigM⟩ := Cond.code_spec hnamed hcode
  cases hmethM.symm.trans hmethM'
  obtain ⟨c2, r2, m2, q1, q2, q3, q4, kP, hkP, hkPi⟩ := Cond.selects_spec hsel
  cases hcls.symm.trans q1
  cases (State.methodFound?_of_named hnamed hy).symm.trans q2
  cases hnamed.symm.trans q3
  have hselP : selectMethod e.platform s.vm cellB.cls mk = .method mk := by rw [Launch.admits_selectMethod X.admits]; exact q4
  obtain ⟨vm₁, X₁, hstep₁⟩ := X.invokevirtual hexec hown hlink hnamed hmethM hstM hkP hkPi hy (a := b) (cell := cellB) hcell
    (fun z h => by rw [h] at hobj; cases hobj) hselP hmethM habM hkP hkPi (g := g) hg (argsL := argsL) (rest := rest) (hlen _ hsigM) hstack hdg
  rcases hK m meth c ⟨T.setVm vm₁, locs, cells, slots⟩ { g with stack := rest } (.invokevirtual index) mk (Value.ref b :: argsL).toArray X₁ hg hsize hdg hW (X₁.named hnamed) (hpre vm₁ X₁.warmed) with ⟨v, B, X', hpost, hsteps⟩ | ⟨q, B, X', hpost, hsteps⟩
  · exact Or.inl ⟨v, vm₁, B, X₁.warmed, X', hpost, fun target h => hstep₁ _ fun acts => by rw [doInvoke_state]; exact hsteps.trans h⟩
  · exact Or.inr ⟨q, vm₁, B, X₁.warmed, X', hpost, hstep₁ _ fun acts => by rw [doInvoke_state]; exact hsteps⟩
theorem vx_callS (X : Stand p l e R s m args below meth c T locs cells slots) (hexec : p.tables.exec = Jvm.exec) {own : String} {index : Nat} {y : MethodName} {bytes : ByteArray} {maxL : Nat} {ret : Option FieldType}
    (hown : s.vm.findClass own = some m.cls) (hlink : (Cond.methodLink own index y).before args s = true) (hstat : (Cond.static y).before args s = true) (hinit : (Cond.initialized y.cls).before args s = true)
    (hcode : (Cond.code y bytes maxL ret).before args s = true) (hy : y.cls ≠ "java/lang/invoke/MethodHandle" ∧ y.cls ≠ "java/lang/invoke/VarHandle")
    {W9 : Nat} {Pre : Pt → Array Value → Prop} {Post : Pt → Array Value → Option Value → Pt → Prop} {PostX : Pt → Array Value → Addr → Pt → Prop} (hK : vx_Back l R p e below s args y 3 W9 Pre Post PostX)
    {g : JFrame} (hg : g.method = m) (hsize : g.locals.size = c.maxLocals) {argsL rest : List Value} (hlen : ∀ sig, parseMethodDescriptor y.desc = some sig → argsL.length = sig.parameters.length)
    (hstack : g.stack = argsL.reverse ++ rest) (hW : 2 * g.monitorRoom + (rest.map fun v => v.category).sum ≤ W9) (hdg : decode c.code g.pc = .ok (.invokestatic index, 3))
    (hpre : ∀ vm₁, s.WarmedH vm₁ → Pre ⟨T.setVm vm₁, locs, cells, slots⟩ argsL.toArray) :
    (∃ (v : Option Value) (vm₁ : Vm) (B : Pt), s.WarmedH vm₁ ∧ Stand p l e R s m args below meth c B.U B.locs B.cells B.slots ∧ Post ⟨T.setVm vm₁, locs, cells, slots⟩ argsL.toArray v B ∧
      ∀ target, Steps p.tables e below (B.U.setTop { g with pc := g.pc + 3, stack := v.toList ++ rest }) target → Steps p.tables e below (T.setTop g) target) ∨
    (∃ (q : Addr) (vm₁ : Vm) (B : Pt), s.WarmedH vm₁ ∧ Stand p l e R s m args below meth c B.U B.locs B.cells B.slots ∧ PostX ⟨T.setVm vm₁, locs, cells, slots⟩ argsL.toArray q B ∧
      Steps p.tables e below (T.setTop g) ((B.U.setTop { g with stack := rest }).pushFrame (.throwing q))) := by
  obtain ⟨mk, hnamed⟩ := Cond.code_named hcode
  obtain ⟨methM, cM, hmethM, -, -, -, -, -, -, hsigM⟩ := Cond.code_spec hnamed hcode
  have hstatic : methM.isStatic = true := Cond.static_spec hnamed hmethM hstat
  obtain ⟨kP, hkP, -⟩ := className_of_methodNamed hnamed
  have hinitP : kP.init = .initialized := Cond.initialized_spec (findClass_of_methodNamed hnamed) hkP hinit
  obtain ⟨vm₁, X₁, hstep₁⟩ := X.invokestatic hexec hown hlink hnamed hmethM hstatic hkP hinitP hy (g := g) hg (argsL := argsL) (rest := rest) (hlen _ hsigM) hstack hdg
  rcases hK m meth c ⟨T.setVm vm₁, locs, cells, slots⟩ { g with stack := rest } (.invokestatic index) mk argsL.toArray X₁ hg hsize hdg hW (X₁.named hnamed) (hpre vm₁ X₁.warmed) with ⟨v, B, X', hpost, hsteps⟩ | ⟨q, B, X', hpost, hsteps⟩
  · exact Or.inl ⟨v, vm₁, B, X₁.warmed, X', hpost, fun target h => hstep₁ _ fun acts => by rw [doInvoke_state]; exact hsteps.trans h⟩
  · exact Or.inr ⟨q, vm₁, B, X₁.warmed, X', hpost, hstep₁ _ fun acts => by rw [doInvoke_state]; exact hsteps⟩
end Calls
theorem vx_cls {s : State} {T : State} {vm₁ : Vm} {E : String} {k : ClassId} (hW : s.WarmedH vm₁) (h : (T.setVm vm₁).vm.findClass E = some k) : s.vm.findClass E = some k := by
  have h1 : vm₁.findClass E = some k := h
  rw [hW.alike.findClass] at h1
  exact h1
/-- the method's frame g, with q thrown over it -/
def vx_W (p : Program) (l : Launch) (e : Env) (R : Room) (s : State) (m : MethodId) (args : Array Value) (below : List Frame) (meth : Method) (c : Code) (H : Heap) (locs : List Loc) (cells slots : Nat) (Q : State → Prop) (g : JFrame) (q : Addr) : Prop :=
  ∀ T : State, T.heap = H → Stand p l e R s m args below meth c T locs cells slots → ∃ t, Steps p.tables e below ((T.setTop g).pushFrame (.throwing q)) t ∧ Q t
def vx_Run (p : Program) (l : Launch) (e : Env) (R : Room) (s : State) (m : MethodId) (args : Array Value) (below : List Frame) (meth : Method) (c : Code) (H : Heap) (locs : List Loc) (cells slots mc ms : Nat) (g : JFrame) (rest : List Value) (Qa : State → Outcome → State → Prop) (XC : String → State → State → Prop) (free : Addr → Prop) : Prop :=
  ∀ T : State, T.heap = H → Stand p l e R s m args below meth c T locs cells slots →
    (∃ (v : Option Value) (st₀ t T' : State) (L : List Loc), st₀.heap = H ∧ Stand p l e R s m args below meth c T' (locs ++ L) (cells + mc) (slots + ms) ∧ (∀ q ∈ L, free q.base) ∧ T'.heap = t.heap ∧ T'.vm = t.vm ∧ Qa st₀ (.returned v) t ∧
      Goes p e below T g T' { g with pc := g.pc + 3, stack := v.toList ++ rest }) ∨
    (∃ (q : Addr) (st₀ t T' : State) (L : List Loc) (E : String) (ce : Cell), st₀.heap = H ∧ Stand p l e R s m args below meth c T' (locs ++ L) (cells + mc) (slots + ms) ∧ (∀ z ∈ L, free z.base) ∧ T'.heap = t.heap ∧ T'.vm = t.vm ∧ XC E st₀ t ∧ t.heap[q]? = some ce ∧ ce.vm = .none ∧ s.vm.findClass E = some ce.cls ∧
      Steps p.tables e below (T.setTop g) ((T'.setTop { g with stack := rest }).pushFrame (.throwing q)))
def vx_X {S : Type} (px : S → Prop) (B : String → S → State → Prop) (A : Nat → Prop) : String → State → State → Prop := fun E st t => ∃ u : S, px u ∧ B E u t ∧ va_F A st t
section Runs
variable {p : Program} {l : Launch} {e : Env} {R : Room} {s : State} {m : MethodId} {args : Array Value} {below : List Frame} {meth : Method} {c : Code} {H : Heap} {locs : List Loc} {cells slots : Nat}
variable {y : MethodName} {bytes cc : ByteArray} {maxL nL mc ms n index : Nat} {ret : Option FieldType} {ws : List Cond} {rm : Room} {Pc : Array Value → State → Prop} {Qc : Array Value → State → Outcome → State → Prop} {XC : String → State → State → Prop} {free : Addr → Prop} {Ts : List Cond} {own C : String} {b : Addr} {As rest : List Value} {g : JFrame}
theorem vx_callBack (cb : CallB R s args own index y bytes maxL ret ws rm mc ms n) (hM : vx_Met l y ws rm Pc Qc XC mc ms free) (hbl : FrameBlind Pc) : vx_Back l R p e below s args y 3 8 (PreOf R mc ms Pc) (PostOf Qc mc ms free) (vx_Post XC mc ms free) := by
  obtain ⟨hrc, hrs, hfr, hlo, hws, hcw, -, hini, -⟩ := cb
  exact vx_back (bytes := bytes) (maxL := maxL) (ret := ret) hM hbl hrc hrs hfr hlo hws hcw (fun a' U hW => word_at hW (Or.inl (by first | rfl | simp [Cond.onTables, Cond.keeps, Cond.steady])) hini)
theorem vx_runV (S : CallFix p m c cc nL s args Ts own) (hM : vx_Met l y ws rm Pc Qc XC mc ms free) (cw : CallW R s args own C index y bytes maxL ret ws rm mc ms n) (hp : PreV s H C b Pc As)
    (hg : g.method = m) (hn : As.length = n) (hsize : g.locals.size = nL) (hstack : g.stack = As.reverse ++ .ref b :: rest) (hW : 2 * g.monitorRoom + (rest.map fun v => v.category).sum ≤ 8) (hdg : decode cc g.pc = .ok (.invokevirtual index, 3)) (hf : cells + mc ≤ R.cells ∧ slots + ms ≤ R.slots) :
    vx_Run p l e R s m args below meth c H locs cells slots mc ms g rest (Qc (Value.ref b :: As).toArray) XC free := by
  have hK : vx_Back l R p e below s args y 3 8 (PreOf R mc ms Pc) (PostOf Qc mc ms free) (vx_Post XC mc ms free) := vx_callBack cw.1 hM hp.1
  obtain ⟨⟨-, -, -, -, -, -, hcode, -, hy, hlen, hl⟩, hin, hse⟩ := cw
  obtain ⟨hx, hb, hml, ho, -⟩ := S
  obtain ⟨-, ⟨cellB, hcB, hoB, hclB⟩, hPc⟩ := hp
  intro T hT X
  rcases vx_callV X hx (C := C) (bytes := bytes) (maxL := maxL) (ret := ret) ho hl hin hse hcode hy hK (by rw [hT]; exact hcB) hoB hclB hg (hsize.trans hml.symm) (argsL := As) (rest := rest) (fun sig h => hn.trans (hlen sig h)) hstack hW (by rw [hb]; exact hdg)
    (fun vm₁ hW₁ => ⟨hf.1, hf.2, hPc (T.setVm vm₁) hT hW₁⟩) with ⟨v, vm₁, ⟨U', l2, c2, s2⟩, hW₁, X', ⟨g', mk, t, L, e1, e2, hq, h1, hL, h2, h3⟩, st⟩ | ⟨q, vm₁, ⟨U', l2, c2, s2⟩, hW₁, X', ⟨g', mk, t, L, E, ce, e1, e2, hq, hce, hcv, hcl, h1, hL, h2, h3⟩, st⟩
  · dsimp only [Pt.U, Pt.locs, Pt.cells, Pt.slots] at X' e1 e2 h1 h2 h3 st
    subst h1; subst h2; subst h3
    exact Or.inl ⟨v, (T.setVm vm₁).calling g' mk (Value.ref b :: As).toArray, t, U', L, hT, X', hL, e1, e2, hq, st⟩
  · dsimp only [Pt.U, Pt.locs, Pt.cells, Pt.slots] at X' e1 e2 h1 h2 h3 st hcl
    subst h1; subst h2; subst h3
    exact Or.inr ⟨q, (T.setVm vm₁).calling g' mk (Value.ref b :: As).toArray, t, U', L, E, ce, hT, X', hL, e1, e2, hq, hce, hcv, vx_cls hW₁ hcl, st⟩
theorem vx_runS (S : CallFix p m c cc nL s args Ts own) (hM : vx_Met l y ws rm Pc Qc XC mc ms free) (cw : CallB R s args own index y bytes maxL ret ws rm mc ms n ∧ (Cond.static y).before args s = true) (hp : PreS s H Pc As)
    (hg : g.method = m) (hn : As.length = n) (hsize : g.locals.size = nL) (hstack : g.stack = As.reverse ++ rest) (hW : 2 * g.monitorRoom + (rest.map fun v => v.category).sum ≤ 8) (hdg : decode cc g.pc = .ok (.invokestatic index, 3)) (hf : cells + mc ≤ R.cells ∧ slots + ms ≤ R.slots) :
    vx_Run p l e R s m args below meth c H locs cells slots mc ms g rest (Qc As.toArray) XC free := by
  have hK : vx_Back l R p e below s args y 3 8 (PreOf R mc ms Pc) (PostOf Qc mc ms free) (vx_Post XC mc ms free) := vx_callBack cw.1 hM hp.1
  obtain ⟨⟨-, -, -, -, -, -, hcode, hini, hy, hlen, hl⟩, hstt⟩ := cw
  obtain ⟨hx, hb, hml, ho, -⟩ := S
  intro T hT X
  rcases vx_callS X hx (bytes := bytes) (maxL := maxL) (ret := ret) ho hl hstt hini hcode hy hK hg (hsize.trans hml.symm) (argsL := As) (rest := rest) (fun sig h => hn.trans (hlen sig h)) hstack hW (by rw [hb]; exact hdg)
    (fun vm₁ hW₁ => ⟨hf.1, hf.2, hp.2 (T.setVm vm₁) hT hW₁⟩) with ⟨v, vm₁, ⟨U', l2, c2, s2⟩, hW₁, X', ⟨g', mk, t, L, e1, e2, hq, h1, hL, h2, h3⟩, st⟩ | ⟨q, vm₁, ⟨U', l2, c2, s2⟩, hW₁, X', ⟨g', mk, t, L, E, ce, e1, e2, hq, hce, hcv, hcl, h1, hL, h2, h3⟩, st⟩
  · dsimp only [Pt.U, Pt.locs, Pt.cells, Pt.slots] at X' e1 e2 h1 h2 h3 st
    subst h1; subst h2; subst h3
    exact Or.inl ⟨v, (T.setVm vm₁).calling g' mk As.toArray, t, U', L, hT, X', hL, e1, e2, hq, st⟩
  · dsimp only [Pt.U, Pt.locs, Pt.cells, Pt.slots] at X' e1 e2 h1 h2 h3 st hcl
    subst h1; subst h2; subst h3
    exact Or.inr ⟨q, (T.setVm vm₁).calling g' mk As.toArray, t, U', L, E, ce, hT, X', hL, e1, e2, hq, hce, hcv, vx_cls hW₁ hcl, st⟩
end Runs
section Rows
variable {p : Program} {l : Launch} {e : Env} {R : Room} {s : State} {m : MethodId} {args : Array Value} {below : List Frame} {meth : Method} {c : Code} {H : Heap} {locs : List Loc} {cells slots : Nat} {Q : State → Prop}
variable {mc ms : Nat} {free : Addr → Prop} {A0 A1 : Nat → Prop} {H0 : Heap} {a : Array Value} {pc : Nat} {ls : Array Slot} {st0 rest : List Value}
theorem vx_keep {st₀ t T' : State} {L : List Loc} (h0 : st₀.heap = H) (e1 : T'.heap = t.heap) (hS : va_S A0 H0 H locs) (hA : ∀ q, q < H.size → A1 q → A0 q) (hf : ∀ q, free q → A0 q) (hL : ∀ q ∈ L, free q.base) (hF : va_F A1 st₀ t) :
    H.size ≤ T'.heap.size ∧ (∀ q : Nat, q < H.size → ¬ A1 q → T'.heap[q]? = H[q]?) ∧ va_S A0 H0 T'.heap (locs ++ L) := by
  obtain ⟨hz, hk⟩ := hF
  rw [h0] at hz hk
  exact ⟨by rw [e1]; exact hz, fun q h1 h2 => by rw [e1]; exact hk q h1 h2,
    ⟨Nat.le_trans hS.1 (by rw [e1]; exact hz), fun q h1 h2 => by rw [e1, hk q (Nat.lt_of_lt_of_le h1 hS.1) (fun z => h2 (hA q (Nat.lt_of_lt_of_le h1 hS.1) z))]; exact hS.2.1 q h1 h2, fun q hq => by
      rcases List.mem_append.mp hq with h | h
      · exact hS.2.2 q h
      · exact hf _ (hL q h)⟩⟩
theorem vx_calli {S SX : Type} {post : Int32 → S → Prop} {px : SX → Prop} {B : S → State → Prop} {BX : String → SX → State → Prop} {AX : Nat → Prop} (hr : vx_Run p l e R s m args below meth c H locs cells slots mc ms (F0 m pc ls st0) rest (va_Qi post B A1 a) (vx_X px BX AX) free) (hS : va_S A0 H0 H locs) (hA : ∀ q, q < H.size → A1 q → A0 q) (hf : ∀ q, free q → A0 q) (hAX : ∀ q, q < H.size → AX q → A0 q)
    (kx : ∀ (E : String) (ce : Cell) (q9 : Addr) (u : SX) (t : State) (H1 : Heap) (locs1 : List Loc), t.heap = H1 → s.vm.Alike t.vm → px u → BX E u t → H.size ≤ H1.size → (∀ q : Nat, q < H.size → ¬ AX q → H1[q]? = H[q]?) → va_S A0 H0 H1 locs1 → H1[q9]? = some ce → ce.vm = .none → s.vm.findClass E = some ce.cls → vx_W p l e R s m args below meth c H1 locs1 (cells + mc) (slots + ms) Q (F0 m pc ls rest) q9)
    (kk : ∀ (r : Int32) (u : S) (t : State) (H1 : Heap) (locs1 : List Loc), t.heap = H1 → s.vm.Alike t.vm → post r u → B u t → H.size ≤ H1.size → (∀ q : Nat, q < H.size → ¬ A1 q → H1[q]? = H[q]?) → va_S A0 H0 H1 locs1 → W p l e R s m args below meth c H1 locs1 (cells + mc) (slots + ms) Q (F0 m (pc + 3) ls (.int r :: rest))) : W p l e R s m args below meth c H locs cells slots Q (F0 m pc ls st0) := by
  intro T hT X
  rcases hr T hT X with ⟨v, st₀, t, T', L, h0, X', hL, e1, e2, ⟨⟨r, u, hv, hp, hb⟩, hF⟩, st⟩ | ⟨q, st₀, t, T', L, E, ce, h0, X', hL, e1, e2, ⟨u, hp, hb, hF⟩, hce, hcv, hcl, st⟩
  · cases hv
    obtain ⟨k1, k2, k3⟩ := vx_keep h0 e1 hS hA hf hL hF
    obtain ⟨t2, a1, b1⟩ := kk r u t T'.heap (locs ++ L) e1.symm (by rw [← e2]; exact X'.warmed.alike) hp hb k1 k2 k3 T' rfl X'
    exact ⟨t2, st t2 a1, b1⟩
  · obtain ⟨k1, k2, k3⟩ := vx_keep h0 e1 hS hAX hf hL hF
    obtain ⟨t2, a1, b1⟩ := kx E ce q u t T'.heap (locs ++ L) e1.symm (by rw [← e2]; exact X'.warmed.alike) hp hb k1 k2 k3 (by rw [e1]; exact hce) hcv hcl T' rfl X'
    exact ⟨t2, st.trans a1, b1⟩
theorem vx_calll {S SX : Type} {post : Int64 → S → Prop} {px : SX → Prop} {B : S → State → Prop} {BX : String → SX → State → Prop} {AX : Nat → Prop} (hr : vx_Run p l e R s m args below meth c H locs cells slots mc ms (F0 m pc ls st0) rest (va_Ql post B A1 a) (vx_X px BX AX) free) (hS : va_S A0 H0 H locs) (hA : ∀ q, q < H.size → A1 q → A0 q) (hf : ∀ q, free q → A0 q) (hAX : ∀ q, q < H.size → AX q → A0 q)
    (kx : ∀ (E : String) (ce : Cell) (q9 : Addr) (u : SX) (t : State) (H1 : Heap) (locs1 : List Loc), t.heap = H1 → s.vm.Alike t.vm → px u → BX E u t → H.size ≤ H1.size → (∀ q : Nat, q < H.size → ¬ AX q → H1[q]? = H[q]?) → va_S A0 H0 H1 locs1 → H1[q9]? = some ce → ce.vm = .none → s.vm.findClass E = some ce.cls → vx_W p l e R s m args below meth c H1 locs1 (cells + mc) (slots + ms) Q (F0 m pc ls rest) q9)
    (kk : ∀ (r : Int64) (u : S) (t : State) (H1 : Heap) (locs1 : List Loc), t.heap = H1 → s.vm.Alike t.vm → post r u → B u t → H.size ≤ H1.size → (∀ q : Nat, q < H.size → ¬ A1 q → H1[q]? = H[q]?) → va_S A0 H0 H1 locs1 → W p l e R s m args below meth c H1 locs1 (cells + mc) (slots + ms) Q (F0 m (pc + 3) ls (.long r :: rest))) : W p l e R s m args below meth c H locs cells slots Q (F0 m pc ls st0) := by
  intro T hT X
  rcases hr T hT X with ⟨v, st₀, t, T', L, h0, X', hL, e1, e2, ⟨⟨r, u, hv, hp, hb⟩, hF⟩, st⟩ | ⟨q, st₀, t, T', L, E, ce, h0, X', hL, e1, e2, ⟨u, hp, hb, hF⟩, hce, hcv, hcl, st⟩
  · cases hv
    obtain ⟨k1, k2, k3⟩ := vx_keep h0 e1 hS hA hf hL hF
    obtain ⟨t2, a1, b1⟩ := kk r u t T'.heap (locs ++ L) e1.symm (by rw [← e2]; exact X'.warmed.alike) hp hb k1 k2 k3 T' rfl X'
    exact ⟨t2, st t2 a1, b1⟩
  · obtain ⟨k1, k2, k3⟩ := vx_keep h0 e1 hS hAX hf hL hF
    obtain ⟨t2, a1, b1⟩ := kx E ce q u t T'.heap (locs ++ L) e1.symm (by rw [← e2]; exact X'.warmed.alike) hp hb k1 k2 k3 (by rw [e1]; exact hce) hcv hcl T' rfl X'
    exact ⟨t2, st.trans a1, b1⟩
theorem vx_callf {S SX : Type} {post : UInt32 → S → Prop} {px : SX → Prop} {B : S → State → Prop} {BX : String → SX → State → Prop} {AX : Nat → Prop} (hr : vx_Run p l e R s m args below meth c H locs cells slots mc ms (F0 m pc ls st0) rest (va_Qf post B A1 a) (vx_X px BX AX) free) (hS : va_S A0 H0 H locs) (hA : ∀ q, q < H.size → A1 q → A0 q) (hf : ∀ q, free q → A0 q) (hAX : ∀ q, q < H.size → AX q → A0 q)
    (kx : ∀ (E : String) (ce : Cell) (q9 : Addr) (u : SX) (t : State) (H1 : Heap) (locs1 : List Loc), t.heap = H1 → s.vm.Alike t.vm → px u → BX E u t → H.size ≤ H1.size → (∀ q : Nat, q < H.size → ¬ AX q → H1[q]? = H[q]?) → va_S A0 H0 H1 locs1 → H1[q9]? = some ce → ce.vm = .none → s.vm.findClass E = some ce.cls → vx_W p l e R s m args below meth c H1 locs1 (cells + mc) (slots + ms) Q (F0 m pc ls rest) q9)
    (kk : ∀ (r : UInt32) (u : S) (t : State) (H1 : Heap) (locs1 : List Loc), t.heap = H1 → s.vm.Alike t.vm → post r u → B u t → H.size ≤ H1.size → (∀ q : Nat, q < H.size → ¬ A1 q → H1[q]? = H[q]?) → va_S A0 H0 H1 locs1 → W p l e R s m args below meth c H1 locs1 (cells + mc) (slots + ms) Q (F0 m (pc + 3) ls (.float r :: rest))) : W p l e R s m args below meth c H locs cells slots Q (F0 m pc ls st0) := by
  intro T hT X
  rcases hr T hT X with ⟨v, st₀, t, T', L, h0, X', hL, e1, e2, ⟨⟨r, u, hv, hp, hb⟩, hF⟩, st⟩ | ⟨q, st₀, t, T', L, E, ce, h0, X', hL, e1, e2, ⟨u, hp, hb, hF⟩, hce, hcv, hcl, st⟩
  · cases hv
    obtain ⟨k1, k2, k3⟩ := vx_keep h0 e1 hS hA hf hL hF
    obtain ⟨t2, a1, b1⟩ := kk r u t T'.heap (locs ++ L) e1.symm (by rw [← e2]; exact X'.warmed.alike) hp hb k1 k2 k3 T' rfl X'
    exact ⟨t2, st t2 a1, b1⟩
  · obtain ⟨k1, k2, k3⟩ := vx_keep h0 e1 hS hAX hf hL hF
    obtain ⟨t2, a1, b1⟩ := kx E ce q u t T'.heap (locs ++ L) e1.symm (by rw [← e2]; exact X'.warmed.alike) hp hb k1 k2 k3 (by rw [e1]; exact hce) hcv hcl T' rfl X'
    exact ⟨t2, st.trans a1, b1⟩
theorem vx_calld {S SX : Type} {post : UInt64 → S → Prop} {px : SX → Prop} {B : S → State → Prop} {BX : String → SX → State → Prop} {AX : Nat → Prop} (hr : vx_Run p l e R s m args below meth c H locs cells slots mc ms (F0 m pc ls st0) rest (va_Qd post B A1 a) (vx_X px BX AX) free) (hS : va_S A0 H0 H locs) (hA : ∀ q, q < H.size → A1 q → A0 q) (hf : ∀ q, free q → A0 q) (hAX : ∀ q, q < H.size → AX q → A0 q)
    (kx : ∀ (E : String) (ce : Cell) (q9 : Addr) (u : SX) (t : State) (H1 : Heap) (locs1 : List Loc), t.heap = H1 → s.vm.Alike t.vm → px u → BX E u t → H.size ≤ H1.size → (∀ q : Nat, q < H.size → ¬ AX q → H1[q]? = H[q]?) → va_S A0 H0 H1 locs1 → H1[q9]? = some ce → ce.vm = .none → s.vm.findClass E = some ce.cls → vx_W p l e R s m args below meth c H1 locs1 (cells + mc) (slots + ms) Q (F0 m pc ls rest) q9)
    (kk : ∀ (r : UInt64) (u : S) (t : State) (H1 : Heap) (locs1 : List Loc), t.heap = H1 → s.vm.Alike t.vm → post r u → B u t → H.size ≤ H1.size → (∀ q : Nat, q < H.size → ¬ A1 q → H1[q]? = H[q]?) → va_S A0 H0 H1 locs1 → W p l e R s m args below meth c H1 locs1 (cells + mc) (slots + ms) Q (F0 m (pc + 3) ls (.double r :: rest))) : W p l e R s m args below meth c H locs cells slots Q (F0 m pc ls st0) := by
  intro T hT X
  rcases hr T hT X with ⟨v, st₀, t, T', L, h0, X', hL, e1, e2, ⟨⟨r, u, hv, hp, hb⟩, hF⟩, st⟩ | ⟨q, st₀, t, T', L, E, ce, h0, X', hL, e1, e2, ⟨u, hp, hb, hF⟩, hce, hcv, hcl, st⟩
  · cases hv
    obtain ⟨k1, k2, k3⟩ := vx_keep h0 e1 hS hA hf hL hF
    obtain ⟨t2, a1, b1⟩ := kk r u t T'.heap (locs ++ L) e1.symm (by rw [← e2]; exact X'.warmed.alike) hp hb k1 k2 k3 T' rfl X'
    exact ⟨t2, st t2 a1, b1⟩
  · obtain ⟨k1, k2, k3⟩ := vx_keep h0 e1 hS hAX hf hL hF
    obtain ⟨t2, a1, b1⟩ := kx E ce q u t T'.heap (locs ++ L) e1.symm (by rw [← e2]; exact X'.warmed.alike) hp hb k1 k2 k3 (by rw [e1]; exact hce) hcv hcl T' rfl X'
    exact ⟨t2, st.trans a1, b1⟩
theorem vx_callv {S SX : Type} {post : S → Prop} {px : SX → Prop} {B : S → State → Prop} {BX : String → SX → State → Prop} {AX : Nat → Prop} (hr : vx_Run p l e R s m args below meth c H locs cells slots mc ms (F0 m pc ls st0) rest (va_Qv post B A1 a) (vx_X px BX AX) free) (hS : va_S A0 H0 H locs) (hA : ∀ q, q < H.size → A1 q → A0 q) (hf : ∀ q, free q → A0 q) (hAX : ∀ q, q < H.size → AX q → A0 q)
    (kx : ∀ (E : String) (ce : Cell) (q9 : Addr) (u : SX) (t : State) (H1 : Heap) (locs1 : List Loc), t.heap = H1 → s.vm.Alike t.vm → px u → BX E u t → H.size ≤ H1.size → (∀ q : Nat, q < H.size → ¬ AX q → H1[q]? = H[q]?) → va_S A0 H0 H1 locs1 → H1[q9]? = some ce → ce.vm = .none → s.vm.findClass E = some ce.cls → vx_W p l e R s m args below meth c H1 locs1 (cells + mc) (slots + ms) Q (F0 m pc ls rest) q9)
    (kk : ∀ (u : S) (t : State) (H1 : Heap) (locs1 : List Loc), t.heap = H1 → s.vm.Alike t.vm → post u → B u t → H.size ≤ H1.size → (∀ q : Nat, q < H.size → ¬ A1 q → H1[q]? = H[q]?) → va_S A0 H0 H1 locs1 → W p l e R s m args below meth c H1 locs1 (cells + mc) (slots + ms) Q (F0 m (pc + 3) ls (rest))) : W p l e R s m args below meth c H locs cells slots Q (F0 m pc ls st0) := by
  intro T hT X
  rcases hr T hT X with ⟨v, st₀, t, T', L, h0, X', hL, e1, e2, ⟨⟨u, hv, hp, hb⟩, hF⟩, st⟩ | ⟨q, st₀, t, T', L, E, ce, h0, X', hL, e1, e2, ⟨u, hp, hb, hF⟩, hce, hcv, hcl, st⟩
  · cases hv
    obtain ⟨k1, k2, k3⟩ := vx_keep h0 e1 hS hA hf hL hF
    obtain ⟨t2, a1, b1⟩ := kk u t T'.heap (locs ++ L) e1.symm (by rw [← e2]; exact X'.warmed.alike) hp hb k1 k2 k3 T' rfl X'
    exact ⟨t2, st t2 a1, b1⟩
  · obtain ⟨k1, k2, k3⟩ := vx_keep h0 e1 hS hAX hf hL hF
    obtain ⟨t2, a1, b1⟩ := kx E ce q u t T'.heap (locs ++ L) e1.symm (by rw [← e2]; exact X'.warmed.alike) hp hb k1 k2 k3 (by rw [e1]; exact hce) hcv hcl T' rfl X'
    exact ⟨t2, st.trans a1, b1⟩
/-- caught by the row x of this method's table; the rows ahead don't take it -/
theorem vx_catch {own name : String} {E : String} {ce : Cell} {q : Addr} (hown : s.vm.findClass own = some m.cls) (pre : List ExceptionTableEntry) (x : ExceptionTableEntry) (suf : List ExceptionTableEntry) (hsplit : c.exceptionTable.toList = pre ++ x :: suf)
    (hpass : ∀ z ∈ pre, covers z pc = false ∨ (z.catchType ≠ 0 ∧ ∃ nm : String, (Cond.classLink own z.catchType nm).before args s = true ∧ va_Nc E nm s)) (hx : covers x pc = true) (h0 : x.catchType ≠ 0)
    (hlink : (Cond.classLink own x.catchType name).before args s = true) (hcast : (Cond.castable E name).before args s = true) (hcell : H[q]? = some ce) (hv : ce.vm = .none) (hcl : s.vm.findClass E = some ce.cls)
    (kk : W p l e R s m args below meth c H locs cells slots Q (F0 m x.handlerPc ls [.ref q])) : vx_W p l e R s m args below meth c H locs cells slots Q (F0 m pc ls rest) q := by
  intro T hT X
  have hpl : e.platform.magicAccessors = ({} : Platform).magicAccessors := by rw [X.admits.platform]
  obtain ⟨c3, c4, hc3, hc4, hasg⟩ := Cond.castable_spec hcast
  cases Option.some.inj (hc3.symm.trans hcl)
  obtain ⟨c5, hc5, hcl5⟩ := Cond.classLink_spec hown hlink e.platform hpl
  cases Option.some.inj (hc4.symm.trans hc5)
  obtain ⟨vm', X', st⟩ := X.thenCaughtThrough q (g := F0 m pc ls rest) rfl (Steps.refl _) (by rw [hT]; exact hcell) (by rw [hv]; rfl) (by obtain ⟨k9, h9, -⟩ := Vm.findClass_spec hcl; exact ⟨k9, h9⟩) pre x suf hsplit
    (fun z hz => by
      rcases hpass z hz with h | ⟨hz0, nm, hl1, hn1⟩
      · exact Or.inl h
      · obtain ⟨c6, hc6, hcl6⟩ := Cond.classLink_spec hown hl1 e.platform hpl
        obtain ⟨a8, b8, h1, h2, h3⟩ := hn1
        cases Option.some.inj (h1.symm.trans hcl)
        cases Option.some.inj (h2.symm.trans hc6)
        exact Or.inr ⟨hz0, _, hcl6, h3⟩) hx (Or.inr ⟨h0, c4, hcl5, hasg⟩)
  obtain ⟨t, a1, b1⟩ := kk (T.setVm vm') hT X'
  exact ⟨t, st.trans a1, b1⟩
end Rows
section Ends
variable {p : Program} {l : Launch} {e : Env} {R : Room} {s : State} {m : MethodId} {args : Array Value} {below : List Frame} {meth : Method} {c : Code} {H : Heap} {locs : List Loc} {cells slots : Nat} {Q : State → Prop}
variable {mc ms : Nat} {free : Addr → Prop} {A0 A1 : Nat → Prop} {H0 : Heap} {a : Array Value} {ls : Array Slot} {st0 rest : List Value}
variable {Qc : Array Value → State → Outcome → State → Prop} {XC : String → State → State → Prop}
/-- what a body that may throw owes at its end -/
def vx_MQ (below : List Frame) (Qc : Array Value → State → Outcome → State → Prop) (XC : String → State → State → Prop) (a : Array Value) (s : State) (mc ms : Nat) (free : Addr → Prop) : State → Prop := fun t =>
  ∃ o, t.status = .running ∧ Ended t below o ∧ vx_Q Qc XC mc ms free a s o t
theorem vx_ret {g : JFrame} {mc ms : Nat} (k : W p l e R s m args below meth c H locs cells slots (MQ below Qc args s mc ms free) g) : W p l e R s m args below meth c H locs cells slots (vx_MQ below Qc XC args s mc ms free) g := by
  intro T hT X
  obtain ⟨t, a1, o, b1, b2, b3, b4⟩ := k T hT X
  exact ⟨t, a1, o, b1, b2, Or.inl ⟨b3, b4⟩⟩
/-- not caught here: it goes on to the caller -/
theorem vx_widen {g : JFrame} {q : Addr} {k n : Nat} (h1 : cells ≤ k) (h2 : slots ≤ n) (kk : vx_W p l e R s m args below meth c H locs k n Q g q) : vx_W p l e R s m args below meth c H locs cells slots Q g q := fun T hT X => kk T hT (stand_widen X h1 h2)
theorem vx_out {pc : Nat} {E : String} {ce : Cell} {q : Addr} {mc ms : Nat} (hout : ∀ x ∈ c.exceptionTable.toList, covers x pc = false) (hlocks : meth.locks = false) (hcell : H[q]? = some ce) (hv : ce.vm = .none) (hcl : s.vm.findClass E = some ce.cls)
    (hx : ∀ t : State, t.heap = H → s.vm.Alike t.vm → XC E s t) (hf : ∀ z ∈ locs, free z.base) (hc : cells ≤ mc) (hs : slots ≤ ms) :
    vx_W p l e R s m args below meth c H locs cells slots (vx_MQ below Qc XC args s mc ms free) (F0 m pc ls rest) q := by
  intro T hT X
  obtain ⟨st1, hrun, hend, hW, hsm⟩ := X.leaveThrown q (g := F0 m pc ls rest) rfl rfl rfl hout hlocks
  have hcell9 : (T.setFrames (.throwing q :: below)).heap[q]? = some ce := by
    show T.heap[q]? = some ce
    rw [hT]; exact hcell
  exact ⟨_, st1, .threw q, hrun, hend, Or.inr ⟨q, rfl, E, ce, locs, hx _ hT hW.alike, hcell9, hv, hcl, hW, hsm.mono hc hs, hf⟩⟩
theorem vx_frame {U : State} {k n : Nat} (h : s.sameButNew ({ U with vm := s.vm } : State) locs k n) : s.heap.size ≤ U.heap.size ∧ ∀ q : Nat, q < s.heap.size → (∀ z ∈ locs, z.base ≠ q) → U.heap[q]? = s.heap[q]? := by
  obtain ⟨-, h2, -, -, -, h6⟩ := h
  refine ⟨h2, fun q hq hz => ?_⟩
  obtain ⟨c9, e1, e2, e3, e4⟩ := h6 q _ (Array.getElem?_eq_getElem hq)
  have hs : c9.slots = (s.heap[q]).slots := Array.ext_getElem? fun i => e4 i fun hm => hz _ hm rfl
  have h9 : c9 = s.heap[q] := by
    rw [hs] at e2
    exact e2
  have e5 : U.heap[q]? = some c9 := e1
  rw [e5, h9, Array.getElem?_eq_getElem hq]
/-- the words of a throw but the four that speak of the heap -/
def vx_no (w : Cond) : Bool := decide (w ≠ .isRef (.static Bundle.tN "UNASSIGNED_STACK" Bundle.steD)) && decide (w ≠ .isRef (.static Bundle.tN "SUPPRESSED_SENTINEL" Bundle.listD)) && decide (w ≠ .laysStatic Bundle.tN "UNASSIGNED_STACK" Bundle.steD) && decide (w ≠ .laysStatic Bundle.tN "SUPPRESSED_SENTINEL" Bundle.listD)
def vx_at0 (own : String) (ic : Nat) (X : String) (names : List String) : List Cond := (Bundle.ownAtoms0 own ic X names).filter vx_no
def vx_atS (own : String) (ic : Nat) (X : String) (names : List String) : List Cond := (Bundle.ownAtoms own ic X names).filter vx_no
/-- a word that the tables alone decide, or a good one -/
def vx_ot (w : Cond) : Bool := w.onTables || goodWord w
theorem vx_ot_at {args a' : Array Value} {s U : State} {w : Cond} (hW : s.WarmedH U.vm) (hvm : s.vm = U.vm) (hg : vx_ot w = true) (h : w.before args s = true) : w.before a' U = true := by
  simp only [vx_ot, Bool.or_eq_true] at hg
  rcases hg with hg | hg
  · exact va_tabs hg hvm h
  · exact word_at hW (good_of_word hg) h
/-- a list's words: the good ones out of the method's own list, the others by premises of their own -/
theorem vx_hat {args : Array Value} {s : State} {L B : List Cond} (h1 : ∀ w ∈ L.filter goodWord, w.before args s = true) (h2 : ∀ w ∈ L.filter (fun w => !goodWord w), w ∈ B) (h3 : ∀ w ∈ B, w.before args s = true) : ∀ w ∈ L, w.before args s = true := by
  intro w hw
  by_cases g : goodWord w = true
  · exact h1 w (List.mem_filter.mpr ⟨hw, g⟩)
  · refine h3 w (h2 w (List.mem_filter.mpr ⟨hw, ?_⟩))
    show (!goodWord w) = true
    cases hgw : goodWord w
    · rfl
    · exact absurd hgw g
theorem vx_c {args : Array Value} {s : State} {w : Cond} {B : List Cond} (h : w.before args s = true) (t : ∀ w ∈ B, w.before args s = true) : ∀ w' ∈ w :: B, w'.before args s = true := fun w' h' => (List.mem_cons.mp h').elim (fun e => by rw [e]; exact h) (t w')
theorem vx_n {args : Array Value} {s : State} : ∀ w ∈ ([] : List Cond), w.before args s = true := fun _ h => nomatch h
theorem vx_own {args : Array Value} {s : State} {L : List Cond} (h1 : ∀ w ∈ L.filter vx_no, w.before args s = true)
    (hU : (Cond.isRef (.static Bundle.tN "UNASSIGNED_STACK" Bundle.steD)).before args s = true) (hN : (Cond.isRef (.static Bundle.tN "SUPPRESSED_SENTINEL" Bundle.listD)).before args s = true)
    (lU : (Cond.laysStatic Bundle.tN "UNASSIGNED_STACK" Bundle.steD).before args s = true) (lN : (Cond.laysStatic Bundle.tN "SUPPRESSED_SENTINEL" Bundle.listD).before args s = true) : ∀ w ∈ L, w.before args s = true := by
  intro w hw
  by_cases e1 : w = .isRef (.static Bundle.tN "UNASSIGNED_STACK" Bundle.steD)
  · rw [e1]; exact hU
  · by_cases e2 : w = .isRef (.static Bundle.tN "SUPPRESSED_SENTINEL" Bundle.listD)
    · rw [e2]; exact hN
    · by_cases e3 : w = .laysStatic Bundle.tN "UNASSIGNED_STACK" Bundle.steD
      · rw [e3]; exact lU
      · by_cases e4 : w = .laysStatic Bundle.tN "SUPPRESSED_SENTINEL" Bundle.listD
        · rw [e4]; exact lN
        · exact h1 w (List.mem_filter.mpr ⟨hw, by unfold vx_no; rw [decide_eq_true e1, decide_eq_true e2, decide_eq_true e3, decide_eq_true e4]; rfl⟩)
/-- where a static field lies, its class's statics cell in H -/
def vx_L (C n d : String) (A : Nat → Prop) (U : State) (H : Heap) : Prop := ∃ (c : ClassId) (k : Class) (i : Nat) (f : Field) (a : Nat) (cell : Cell), U.vm.findClass C = some c ∧ U.fieldFound? C n d = some (c, k, i, f) ∧ f.isStatic = true ∧ k.statics = some a ∧ H[a]? = some cell ∧ cell.vm.isStatics = true ∧ cell.cls = c ∧ f.slot < cell.slots.size ∧ k.staticTypes[f.slot]? = some f.type ∧ ¬ A a
theorem vx_L.moved {C n d : String} {A : Nat → Prop} {u U : State} {H : Heap} (hvm : u.vm.Alike U.vm) (h : vx_L C n d A u H) : vx_L C n d A U H := by
  obtain ⟨c, k, i, f, a, cell, h1, h2, h3, h4, h5, h6, h7, h8, h9, h10⟩ := h
  obtain ⟨k', hi', he⟩ := State.fieldFound?_setVm hvm h2
  exact ⟨c, k', i, f, a, cell, by rw [hvm.findClass]; exact h1, hi', h3, by rw [he]; exact h4, h5, h6, h7, h8, by rw [he]; exact h9, h10⟩
theorem vx_L.kept {C n d : String} {A : Nat → Prop} {U : State} {H H1 : Heap} (h : vx_L C n d A U H) (hq : ∀ a : Nat, a < H.size → ¬ A a → H1[a]? = H[a]?) : vx_L C n d A U H1 := by
  obtain ⟨c, k, i, f, a, cell, h1, h2, h3, h4, h5, h6, h7, h8, h9, h10⟩ := h
  exact ⟨c, k, i, f, a, cell, h1, h2, h3, h4, by rw [hq a (Array.getElem?_eq_some_iff.mp h5).1 h10]; exact h5, h6, h7, h8, h9, h10⟩
theorem vx_L.narrow {C n d : String} {A B : Nat → Prop} {U : State} {H : Heap} (h : vx_L C n d A U H) (hAB : ∀ q, B q → A q) : vx_L C n d B U H := by
  obtain ⟨c, k, i, f, a, cell, h1, h2, h3, h4, h5, h6, h7, h8, h9, h10⟩ := h
  exact ⟨c, k, i, f, a, cell, h1, h2, h3, h4, h5, h6, h7, h8, h9, fun z => h10 (hAB _ z)⟩
theorem vx_L.word {C n d : String} {A : Nat → Prop} {s : State} {args : Array Value} (h : vx_L C n d A s s.heap) : (Cond.laysStatic C n d).before args s = true := by
  obtain ⟨c, k, i, f, a, cell, h1, h2, h3, h4, h5, h6, h7, h8, h9, -⟩ := h
  show (Cond.laysStatic C n d).holds args s none s [] = true
  exact Cond.laysStatic_of h1 h2 h3 h4 h5 h6 h7 h8 h9
/-- .. and what it holds: null or some reference -/
def vx_Zq (C n d : String) (A : Nat → Prop) (U : State) (H : Heap) : Prop := va_Zq C n d A U H ∧ vx_L C n d A U H
theorem vx_Zq.moved {C n d : String} {A : Nat → Prop} {u U : State} {H : Heap} (hvm : u.vm.Alike U.vm) (h : vx_Zq C n d A u H) : vx_Zq C n d A U H := ⟨va_Zq.moved hvm h.1, vx_L.moved hvm h.2⟩
theorem vx_Zq.kept {C n d : String} {A : Nat → Prop} {U : State} {H H1 : Heap} (h : vx_Zq C n d A U H) (hq : ∀ a : Nat, a < H.size → ¬ A a → H1[a]? = H[a]?) : vx_Zq C n d A U H1 := ⟨va_Zq.kept h.1 hq, vx_L.kept h.2 hq⟩
theorem vx_Zq.narrow {C n d : String} {A B : Nat → Prop} {U : State} {H : Heap} (h : vx_Zq C n d A U H) (hAB : ∀ q, B q → A q) : vx_Zq C n d B U H := ⟨va_Zq.narrow h.1 hAB, vx_L.narrow h.2 hAB⟩
theorem vx_Zqof {args : Array Value} {s : State} {C n d : String} {A : Nat → Prop} (hl : (Cond.laysStatic C n d).before args s = true) (hini : (Cond.initialized C).before args s = true) (h : (Cond.isRef (.static C n d)).before args s = true) (hA : ∀ a : Nat, a < s.heap.size → ¬ A a) : vx_Zq C n d A s s.heap := by
  refine ⟨va_Zqof hl hini h hA, ?_⟩
  obtain ⟨c, k, i, f, a, cell, h1, h2, h3, h4, h5, h6, h7, h8, h9⟩ := Cond.laysStatic_spec hl
  exact ⟨c, k, i, f, a, cell, h1, h2, h3, h4, h5, h6, h7, h8, h9, hA a (Array.getElem?_eq_some_iff.mp h5).1⟩
theorem vx_isRef {C n d : String} {v : Value} {A : Nat → Prop} {s : State} {args : Array Value} (h : va_Z C n d v A s s.heap) (hv : v.isRef = true) : (Cond.isRef (.static C n d)).before args s = true := by
  obtain ⟨cf, kf, fi, f, a, cell, h1, h2, h3, h4, h5, h6, h7, -⟩ := h
  have he : (Term.static C n d).eval args s none [] s = some v := by
    simp [Term.eval, State.fieldNamed?, h1, h2, h4, h5, h6, h7]
  simp only [Cond.before, Cond.holds, Cond.value, he]
  cases v <;> simp_all [Value.isRef]
theorem vx_isRefq {C n d : String} {A : Nat → Prop} {s : State} {args : Array Value} (h : va_Zq C n d A s s.heap) : (Cond.isRef (.static C n d)).before args s = true := by
  rcases h with h | ⟨t, h⟩
  · exact vx_isRef h rfl
  · exact vx_isRef h rfl
/-- the same frame, seen from here: as if the method were called anew in this heap -/
theorem vx_rebase {T : State} (X : Stand p l e R s m args below meth c T locs cells slots) {R' : Room} (hf : R'.frames ≤ R.frames) (hl : R'.locals ≤ R.locals) (hc : cells + R'.cells ≤ R.cells) (hs : slots + R'.slots ≤ R.slots) :
    Stand p l e R' ((T.setVm s.vm).setFrames (.invoking m args :: below)) m args below meth c T [] 0 0 := by
  have htop : (T.setVm s.vm).topJava?.isSome := X.here.top
  have hF : ((T.setVm s.vm).setFrames (.invoking m args :: below)).frames = .invoking m args :: below := State.frames_setFrames _ (State.cur_lt_of_top htop)
  obtain ⟨g₀, hg0⟩ := Option.isSome_iff_exists.mp htop
  obtain ⟨r, hr⟩ := State.topJava?_eq_some.mp hg0
  have hl9 : e.platform.stackLimits (T.setVm s.vm).me = e.platform.stackLimits s.me := X.limits
  have hb9 : (T.setVm s.vm).me.stackBytes = s.me.stackBytes := X.bytes
  refine ⟨X.admits, X.cas, X.clock, hF, ?_, X.hears, X.method, X.code, X.here, X.tail, X.warmed, ?_, ?_, ?_⟩
  · have h := X.room
    have hU : ((T.setVm s.vm).setFrames (.invoking m args :: below)).localsInUse = s.localsInUse := by
      rw [State.localsInUse_invoking hF (meth := meth) (c := c) X.method X.code, State.localsInUse_invoking X.frames X.method X.code]
    simp only [State.hasRoom, Bool.and_eq_true, decide_eq_true_eq] at h ⊢
    obtain ⟨⟨⟨⟨h1, h2, h3, h4, h5, h6⟩, h7⟩, h8⟩, h9⟩ := h
    rw [X.frames, List.length_cons] at h2 h3
    have q1 := X.heapSize
    have q2 := X.used
    simp only [hF, hU, List.length_cons, State.stackLimits_setFrames, State.stackBytes_setFrames, hl9, hb9]
    refine ⟨⟨⟨⟨by omega, by omega, by omega, by omega, by omega, h6⟩, ?_⟩, ?_⟩, X.book⟩
    · show T.heap.size + R'.cells ≤ e.platform.maxCells
      omega
    · show T.slotsUsed + R'.slots ≤ e.platform.maxSlots
      omega
  · rw [State.stackLimits_setFrames]; rfl
  · rw [State.stackBytes_setFrames]; rfl
  · refine ⟨?_, Nat.le_refl _, Nat.le_refl _, ?_, ?_, fun a c9 h9 => ⟨c9, h9, rfl, rfl, fun _ _ => rfl⟩⟩
    · obtain ⟨t, ht, -⟩ := State.frames_cons hr
      show T.setVm s.vm = { ((T.setVm s.vm).setFrames (.invoking m args :: below)).setFrames (T.setVm s.vm).frames with heap := T.heap, slotsUsed := T.slotsUsed }
      rw [State.setFrames_setFrames, State.setFrames_self ht]
      rfl
    · show T.slotsUsed = T.slotsUsed + ((T.heap.toList.drop T.heap.size).map (·.slots.size)).sum
      rw [List.drop_eq_nil_of_le (Nat.le_of_eq Array.length_toList)]
      rfl
    · show ((T.heap.toList.drop T.heap.size).map (·.slots.size)).sum ≤ 0
      rw [List.drop_eq_nil_of_le (Nat.le_of_eq Array.length_toList)]
      exact Nat.le_refl _
/-- 'throw new E()': new; dup; invokespecial; athrow -/
theorem vx_throw0 {cc : ByteArray} {pc : Nat} (hexec : p.tables.exec = Jvm.exec) (hb : c.code = cc) (hl : l.stackTraces = false) {own cls : String} {names : List String} {ik ic mc ms : Nat} {A : Nat → Prop}
    (hown : s.vm.findClass own = some m.cls) (hcls : Bundle.fit cls = true) (hnames : ∀ n ∈ names, Bundle.fit n = true)
    (hk : (Cond.classLink own ik cls).before args s = true) (hini : (Cond.initialized cls).before args s = true) (hat : ∀ w ∈ vx_at0 own ic cls names, w.before args s = true)
    (hgood : ∀ w ∈ Cond.classLink own ik cls :: Cond.initialized cls :: vx_at0 own ic cls names, vx_ot w = true)
    (hU : vx_Zq Bundle.tN "UNASSIGNED_STACK" Bundle.steD A s s.heap) (hN : vx_Zq Bundle.tN "SUPPRESSED_SENTINEL" Bundle.listD A s s.heap) (hS : va_S A s.heap H locs) (hsize : ls.size = c.maxLocals)
    (d0 : decode cc pc = .ok (.new ik, 3)) (d3 : decode cc (pc + 3) = .ok (.dup, 1)) (d4 : decode cc (pc + 4) = .ok (.invokespecial ic, 3)) (d7 : decode cc (pc + 7) = .ok (.athrow, 1))
    (hout : ∀ x ∈ c.exceptionTable.toList, covers x (pc + 7) = false)
    (hRframes : names.length + 3 < R.frames) (hRlocals : (rest.map fun v => v.category).sum + (13 * (names.length + 1) + 42) ≤ R.locals) (hRcells : cells + 1 ≤ R.cells) (hRslots : slots + 6 ≤ R.slots) (hlocks : meth.locks = false)
    (hx : ∀ t : State, s.vm.Alike t.vm → H.size ≤ t.heap.size → (∀ q : Nat, q < H.size → t.heap[q]? = H[q]?) → XC cls s t)
    (hf : ∀ z ∈ locs, free z.base) (hc : cells + 1 ≤ mc) (hs : slots + 6 ≤ ms) :
    W p l e R s m args below meth c H locs cells slots (vx_MQ below Qc XC args s mc ms free) (F0 m pc ls rest) := by
  intro T hT X
  have htr : e.platform.stackTraces = false := (show e.platform.stackTraces = l.stackTraces by rw [X.admits.platform]).trans hl
  have Y := vx_rebase X (R' := { frames := R.frames, locals := R.locals, cells := 1, slots := 6 }) (Nat.le_refl _) (Nat.le_refl _) hRcells hRslots
  obtain ⟨s', hA⟩ : ∃ z, z = (T.setVm s.vm).setFrames (.invoking m args :: below) := ⟨_, rfl⟩
  rw [← hA] at Y
  have hvm : s'.vm = s.vm := by rw [hA]; rfl
  have hhp : s'.heap = H := by rw [hA]; exact hT
  have hW0 : s.WarmedH s'.vm := by rw [hvm]; exact State.WarmedH.refl s
  have hat' : ∀ w ∈ vx_at0 own ic cls names, w.before args s' = true := fun w hw => vx_ot_at hW0 hvm.symm (hgood w (List.mem_cons_of_mem _ (List.mem_cons_of_mem _ hw))) (hat w hw)
  have hk' : (Cond.classLink own ik cls).before args s' = true := vx_ot_at hW0 hvm.symm (hgood _ List.mem_cons_self) hk
  have hini' : (Cond.initialized cls).before args s' = true := vx_ot_at hW0 hvm.symm (hgood _ (List.mem_cons_of_mem _ List.mem_cons_self)) hini
  have hU' : vx_Zq Bundle.tN "UNASSIGNED_STACK" Bundle.steD A s' s'.heap := by rw [hhp]; exact vx_Zq.moved hW0.alike (hU.kept hS.2.1)
  have hN' : vx_Zq Bundle.tN "SUPPRESSED_SENTINEL" Bundle.listD A s' s'.heap := by rw [hhp]; exact vx_Zq.moved hW0.alike (hN.kept hS.2.1)
  have h : ∀ w ∈ Bundle.ownAtoms0 own ic cls names, w.before args s' = true := vx_own hat' (vx_isRefq hU'.1) (vx_isRefq hN'.1) hU'.2.word hN'.2.word
  have hown' : s'.vm.findClass own = some m.cls := by rw [hvm]; exact hown
  have hins : (Cond.instantiable cls 6).before args s' = true := h _ (by simp [Bundle.ownAtoms0])
  obtain ⟨vm₁, cX, kX, hfX, hkX, -, -, X₁, st1⟩ := Y.newCold hexec (own := own) (C := cls) (index := ik) (n := 6) hown' hk' hins hini'
    (g := F0 m pc ls rest) rfl (by rw [hb]; exact d0) (Nat.le_refl _) (Nat.le_refl _)
  generalize hT1 : (T.setVm vm₁).pushCell { cls := cX, slots := kX.instanceTypes.map defaultValue, vm := .none } = T1 at X₁ st1
  have hcat : (Value.ref T.heap.size).category = 1 := rfl
  have hcellA : T1.heap[T.heap.size]? = some (freshCell cX kX) := by rw [← hT1]; exact State.heap_pushCell_size _ _
  have d3' : decode c.code (pc + 3) = .ok (.dup, 1) := by rw [hb]; exact d3
  obtain ⟨U, hsteps, hrun, hend, hW, hsame, ce, hce, hO⟩ := X₁.ctorThrow0 hexec htr (own := own) (cls := cls) (names := names) (ic := ic) hown' hcls hnames h (fun x hx => nomatch hx) hfX hkX hcellA (by rw [hhp, hT]; exact Nat.le_refl _)
    (g := { method := m, pc := pc + 4, locals := ls, stack := .ref T.heap.size :: .ref T.heap.size :: rest, locked := none }) rfl hsize rfl rfl (rest := rest) rfl
    (by rw [hb]; exact d4) (by rw [hb]; exact d7) hout hRframes (by simp only [List.map_cons, List.sum_cons, hcat]; omega) hlocks
  obtain ⟨f1, f2⟩ := vx_frame hsame
  rw [hhp] at f1 f2
  have hWs : s.WarmedH U.vm := State.WarmedH.trans hW0 hW
  have hcl : s.vm.findClass cls = some ce.cls := by
    have h9 := hO.cls
    rw [hvm] at h9
    exact h9
  have hall : s.sameButNew ({ U with vm := s.vm } : State) locs mc ms := by
    subst hA
    obtain ⟨e1, e2⟩ := hsame
    rw [State.setFrames_setFrames] at e1
    have h2 : (T.setVm s.vm).sameButNew ({ U with vm := s.vm } : State) [] (0 + 1) (0 + 6) := ⟨e1, e2⟩
    have h3 := X.same.trans h2
    rw [List.append_nil] at h3
    exact h3.mono hc hs
  refine ⟨U, ?_, .threw T.heap.size, hrun, hend, Or.inr ⟨T.heap.size, rfl, cls, ce, locs, hx U hWs.alike f1 (fun q hq => f2 q hq (fun z hz => nomatch hz)), hce, hO.vm, hcl, hWs, hall, hf⟩⟩
  refine st1 _ ?_
  show Steps p.tables e below (T1.setTop { method := m, pc := pc + 3, locals := ls, stack := .ref T.heap.size :: rest, locked := none }) _
  jvm_step X₁.here [X₁.here.top, hexec, d3', Value.category]
  exact hsteps
/-- 'throw new E("text")': new; dup; ldc; invokespecial; athrow -/
theorem vx_throwS {cc : ByteArray} {pc : Nat} (hexec : p.tables.exec = Jvm.exec) (hb : c.code = cc) (hl : l.stackTraces = false) {own cls text : String} {names : List String} {ik is ic mc ms sa : Nat} {A : Nat → Prop}
    (hown : s.vm.findClass own = some m.cls) (hcls : Bundle.fit cls = true) (hnames : ∀ n ∈ names, Bundle.fit n = true)
    (hk : (Cond.classLink own ik cls).before args s = true) (hini : (Cond.initialized cls).before args s = true) (hstr : vk_R own is text sa s) (hat : ∀ w ∈ vx_atS own ic cls names, w.before args s = true)
    (hgood : ∀ w ∈ Cond.classLink own ik cls :: Cond.initialized cls :: vx_atS own ic cls names, vx_ot w = true)
    (hU : vx_Zq Bundle.tN "UNASSIGNED_STACK" Bundle.steD A s s.heap) (hN : vx_Zq Bundle.tN "SUPPRESSED_SENTINEL" Bundle.listD A s s.heap) (hS : va_S A s.heap H locs) (hsize : ls.size = c.maxLocals)
    (d0 : decode cc pc = .ok (.new ik, 3)) (d3 : decode cc (pc + 3) = .ok (.dup, 1)) (d4 : decode cc (pc + 4) = .ok (.ldc is, 2)) (d6 : decode cc (pc + 6) = .ok (.invokespecial ic, 3)) (d9 : decode cc (pc + 9) = .ok (.athrow, 1))
    (hout : ∀ x ∈ c.exceptionTable.toList, covers x (pc + 9) = false)
    (hRframes : names.length + 3 < R.frames) (hRlocals : (rest.map fun v => v.category).sum + (13 * (names.length + 1) + 43) ≤ R.locals) (hRcells : cells + 1 ≤ R.cells) (hRslots : slots + 6 ≤ R.slots) (hlocks : meth.locks = false)
    (hx : ∀ t : State, s.vm.Alike t.vm → H.size ≤ t.heap.size → (∀ q : Nat, q < H.size → t.heap[q]? = H[q]?) → XC cls s t)
    (hf : ∀ z ∈ locs, free z.base) (hc : cells + 1 ≤ mc) (hs : slots + 6 ≤ ms) :
    W p l e R s m args below meth c H locs cells slots (vx_MQ below Qc XC args s mc ms free) (F0 m pc ls rest) := by
  intro T hT X
  have htr : e.platform.stackTraces = false := (show e.platform.stackTraces = l.stackTraces by rw [X.admits.platform]).trans hl
  have Y := vx_rebase X (R' := { frames := R.frames, locals := R.locals, cells := 1, slots := 6 }) (Nat.le_refl _) (Nat.le_refl _) hRcells hRslots
  obtain ⟨s', hA⟩ : ∃ z, z = (T.setVm s.vm).setFrames (.invoking m args :: below) := ⟨_, rfl⟩
  rw [← hA] at Y
  have hvm : s'.vm = s.vm := by rw [hA]; rfl
  have hhp : s'.heap = H := by rw [hA]; exact hT
  have hW0 : s.WarmedH s'.vm := by rw [hvm]; exact State.WarmedH.refl s
  have hat' : ∀ w ∈ vx_atS own ic cls names, w.before args s' = true := fun w hw => vx_ot_at hW0 hvm.symm (hgood w (List.mem_cons_of_mem _ (List.mem_cons_of_mem _ hw))) (hat w hw)
  have hk' : (Cond.classLink own ik cls).before args s' = true := vx_ot_at hW0 hvm.symm (hgood _ List.mem_cons_self) hk
  have hini' : (Cond.initialized cls).before args s' = true := vx_ot_at hW0 hvm.symm (hgood _ (List.mem_cons_of_mem _ List.mem_cons_self)) hini
  have hU' : vx_Zq Bundle.tN "UNASSIGNED_STACK" Bundle.steD A s' s'.heap := by rw [hhp]; exact vx_Zq.moved hW0.alike (hU.kept hS.2.1)
  have hN' : vx_Zq Bundle.tN "SUPPRESSED_SENTINEL" Bundle.listD A s' s'.heap := by rw [hhp]; exact vx_Zq.moved hW0.alike (hN.kept hS.2.1)
  have h : ∀ w ∈ Bundle.ownAtoms own ic cls names, w.before args s' = true := vx_own hat' (vx_isRefq hU'.1) (vx_isRefq hN'.1) hU'.2.word hN'.2.word
  have hown' : s'.vm.findClass own = some m.cls := by rw [hvm]; exact hown
  have hins : (Cond.instantiable cls 6).before args s' = true := h _ (by simp [Bundle.ownAtoms])
  obtain ⟨vm₁, cX, kX, hfX, hkX, -, -, X₁, st1⟩ := Y.newCold hexec (own := own) (C := cls) (index := ik) (n := 6) hown' hk' hins hini'
    (g := F0 m pc ls rest) rfl (by rw [hb]; exact d0) (Nat.le_refl _) (Nat.le_refl _)
  generalize hT1 : (T.setVm vm₁).pushCell { cls := cX, slots := kX.instanceTypes.map defaultValue, vm := .none } = T1 at X₁ st1
  have hcat : (Value.ref T.heap.size).category = 1 := rfl
  have hcellA : T1.heap[T.heap.size]? = some (freshCell cX kX) := by rw [← hT1]; exact State.heap_pushCell_size _ _
  have d3' : decode c.code (pc + 3) = .ok (.dup, 1) := by rw [hb]; exact d3
  have d4' : decode c.code (pc + 4) = .ok (.ldc is, 2) := by rw [hb]; exact d4
  have hstr' : vk_R own is text sa s' := vk_R.warm hW0 hstr
  obtain ⟨U, hsteps, hrun, hend, hW, hsame, ce, hce, hO⟩ := X₁.ctorThrowS hexec htr (own := own) (cls := cls) (names := names) (ic := ic) hown' hcls hnames h (fun x hx => nomatch hx) hfX hkX hcellA (by rw [hhp, hT]; exact Nat.le_refl _) (msg := .ref sa) rfl
    (g := { method := m, pc := pc + 6, locals := ls, stack := .ref sa :: .ref T.heap.size :: .ref T.heap.size :: rest, locked := none }) rfl hsize rfl rfl (rest := rest) rfl
    (by rw [hb]; exact d6) (by rw [hb]; exact d9) hout hRframes (by simp only [List.map_cons, List.sum_cons, hcat]; omega) hlocks
  obtain ⟨f1, f2⟩ := vx_frame hsame
  rw [hhp] at f1 f2
  have hWs : s.WarmedH U.vm := State.WarmedH.trans hW0 hW
  have hcl : s.vm.findClass cls = some ce.cls := by
    have h9 := hO.cls
    rw [hvm] at h9
    exact h9
  have hall : s.sameButNew ({ U with vm := s.vm } : State) locs mc ms := by
    subst hA
    obtain ⟨e1, e2⟩ := hsame
    rw [State.setFrames_setFrames] at e1
    have h2 : (T.setVm s.vm).sameButNew ({ U with vm := s.vm } : State) [] (0 + 1) (0 + 6) := ⟨e1, e2⟩
    have h3 := X.same.trans h2
    rw [List.append_nil] at h3
    exact h3.mono hc hs
  refine ⟨U, ?_, .threw T.heap.size, hrun, hend, Or.inr ⟨T.heap.size, rfl, cls, ce, locs, hx U hWs.alike f1 (fun q hq => f2 q hq (fun z hz => nomatch hz)), hce, hO.vm, hcl, hWs, hall, hf⟩⟩
  refine st1 _ ?_
  show Steps p.tables e below (T1.setTop { method := m, pc := pc + 3, locals := ls, stack := .ref T.heap.size :: rest, locked := none }) _
  jvm_step X₁.here [X₁.here.top, hexec, d3', Value.category]
  exact X₁.ldcString hexec (own := own) (text := text) (index := is) (a := sa) hown' hstr'.1 hstr'.2
    (g := { method := m, pc := pc + 4, locals := ls, stack := .ref T.heap.size :: .ref T.heap.size :: rest, locked := none }) rfl d4' _ hsteps
/-- 'throw new E("text")', the text by a wide index -/
theorem vx_throwSW {cc : ByteArray} {pc : Nat} (hexec : p.tables.exec = Jvm.exec) (hb : c.code = cc) (hl : l.stackTraces = false) {own cls text : String} {names : List String} {ik is ic mc ms sa : Nat} {A : Nat → Prop}
    (hown : s.vm.findClass own = some m.cls) (hcls : Bundle.fit cls = true) (hnames : ∀ n ∈ names, Bundle.fit n = true)
    (hk : (Cond.classLink own ik cls).before args s = true) (hini : (Cond.initialized cls).before args s = true) (hstr : vk_R own is text sa s) (hat : ∀ w ∈ vx_atS own ic cls names, w.before args s = true)
    (hgood : ∀ w ∈ Cond.classLink own ik cls :: Cond.initialized cls :: vx_atS own ic cls names, vx_ot w = true)
    (hU : vx_Zq Bundle.tN "UNASSIGNED_STACK" Bundle.steD A s s.heap) (hN : vx_Zq Bundle.tN "SUPPRESSED_SENTINEL" Bundle.listD A s s.heap) (hS : va_S A s.heap H locs) (hsize : ls.size = c.maxLocals)
    (d0 : decode cc pc = .ok (.new ik, 3)) (d3 : decode cc (pc + 3) = .ok (.dup, 1)) (d4 : decode cc (pc + 4) = .ok (.ldc_w is, 3)) (d7 : decode cc (pc + 7) = .ok (.invokespecial ic, 3)) (d10 : decode cc (pc + 10) = .ok (.athrow, 1))
    (hout : ∀ x ∈ c.exceptionTable.toList, covers x (pc + 10) = false)
    (hRframes : names.length + 3 < R.frames) (hRlocals : (rest.map fun v => v.category).sum + (13 * (names.length + 1) + 43) ≤ R.locals) (hRcells : cells + 1 ≤ R.cells) (hRslots : slots + 6 ≤ R.slots) (hlocks : meth.locks = false)
    (hx : ∀ t : State, s.vm.Alike t.vm → H.size ≤ t.heap.size → (∀ q : Nat, q < H.size → t.heap[q]? = H[q]?) → XC cls s t)
    (hf : ∀ z ∈ locs, free z.base) (hc : cells + 1 ≤ mc) (hs : slots + 6 ≤ ms) :
    W p l e R s m args below meth c H locs cells slots (vx_MQ below Qc XC args s mc ms free) (F0 m pc ls rest) := by
  intro T hT X
  have htr : e.platform.stackTraces = false := (show e.platform.stackTraces = l.stackTraces by rw [X.admits.platform]).trans hl
  have Y := vx_rebase X (R' := { frames := R.frames, locals := R.locals, cells := 1, slots := 6 }) (Nat.le_refl _) (Nat.le_refl _) hRcells hRslots
  obtain ⟨s', hA⟩ : ∃ z, z = (T.setVm s.vm).setFrames (.invoking m args :: below) := ⟨_, rfl⟩
  rw [← hA] at Y
  have hvm : s'.vm = s.vm := by rw [hA]; rfl
  have hhp : s'.heap = H := by rw [hA]; exact hT
  have hW0 : s.WarmedH s'.vm := by rw [hvm]; exact State.WarmedH.refl s
  have hat' : ∀ w ∈ vx_atS own ic cls names, w.before args s' = true := fun w hw => vx_ot_at hW0 hvm.symm (hgood w (List.mem_cons_of_mem _ (List.mem_cons_of_mem _ hw))) (hat w hw)
  have hk' : (Cond.classLink own ik cls).before args s' = true := vx_ot_at hW0 hvm.symm (hgood _ List.mem_cons_self) hk
  have hini' : (Cond.initialized cls).before args s' = true := vx_ot_at hW0 hvm.symm (hgood _ (List.mem_cons_of_mem _ List.mem_cons_self)) hini
  have hU' : vx_Zq Bundle.tN "UNASSIGNED_STACK" Bundle.steD A s' s'.heap := by rw [hhp]; exact vx_Zq.moved hW0.alike (hU.kept hS.2.1)
  have hN' : vx_Zq Bundle.tN "SUPPRESSED_SENTINEL" Bundle.listD A s' s'.heap := by rw [hhp]; exact vx_Zq.moved hW0.alike (hN.kept hS.2.1)
  have h : ∀ w ∈ Bundle.ownAtoms own ic cls names, w.before args s' = true := vx_own hat' (vx_isRefq hU'.1) (vx_isRefq hN'.1) hU'.2.word hN'.2.word
  have hown' : s'.vm.findClass own = some m.cls := by rw [hvm]; exact hown
  have hins : (Cond.instantiable cls 6).before args s' = true := h _ (by simp [Bundle.ownAtoms])
  obtain ⟨vm₁, cX, kX, hfX, hkX, -, -, X₁, st1⟩ := Y.newCold hexec (own := own) (C := cls) (index := ik) (n := 6) hown' hk' hins hini'
    (g := F0 m pc ls rest) rfl (by rw [hb]; exact d0) (Nat.le_refl _) (Nat.le_refl _)
  generalize hT1 : (T.setVm vm₁).pushCell { cls := cX, slots := kX.instanceTypes.map defaultValue, vm := .none } = T1 at X₁ st1
  have hcat : (Value.ref T.heap.size).category = 1 := rfl
  have hcellA : T1.heap[T.heap.size]? = some (freshCell cX kX) := by rw [← hT1]; exact State.heap_pushCell_size _ _
  have d3' : decode c.code (pc + 3) = .ok (.dup, 1) := by rw [hb]; exact d3
  have d4' : decode c.code (pc + 4) = .ok (.ldc_w is, 3) := by rw [hb]; exact d4
  have hstr' : vk_R own is text sa s' := vk_R.warm hW0 hstr
  obtain ⟨U, hsteps, hrun, hend, hW, hsame, ce, hce, hO⟩ := X₁.ctorThrowS hexec htr (own := own) (cls := cls) (names := names) (ic := ic) hown' hcls hnames h (fun x hx => nomatch hx) hfX hkX hcellA (by rw [hhp, hT]; exact Nat.le_refl _) (msg := .ref sa) rfl
    (g := { method := m, pc := pc + 7, locals := ls, stack := .ref sa :: .ref T.heap.size :: .ref T.heap.size :: rest, locked := none }) rfl hsize rfl rfl (rest := rest) rfl
    (by rw [hb]; exact d7) (by rw [hb]; exact d10) hout hRframes (by simp only [List.map_cons, List.sum_cons, hcat]; omega) hlocks
  obtain ⟨f1, f2⟩ := vx_frame hsame
  rw [hhp] at f1 f2
  have hWs : s.WarmedH U.vm := State.WarmedH.trans hW0 hW
  have hcl : s.vm.findClass cls = some ce.cls := by
    have h9 := hO.cls
    rw [hvm] at h9
    exact h9
  have hall : s.sameButNew ({ U with vm := s.vm } : State) locs mc ms := by
    subst hA
    obtain ⟨e1, e2⟩ := hsame
    rw [State.setFrames_setFrames] at e1
    have h2 : (T.setVm s.vm).sameButNew ({ U with vm := s.vm } : State) [] (0 + 1) (0 + 6) := ⟨e1, e2⟩
    have h3 := X.same.trans h2
    rw [List.append_nil] at h3
    exact h3.mono hc hs
  refine ⟨U, ?_, .threw T.heap.size, hrun, hend, Or.inr ⟨T.heap.size, rfl, cls, ce, locs, hx U hWs.alike f1 (fun q hq => f2 q hq (fun z hz => nomatch hz)), hce, hO.vm, hcl, hWs, hall, hf⟩⟩
  refine st1 _ ?_
  show Steps p.tables e below (T1.setTop { method := m, pc := pc + 3, locals := ls, stack := .ref T.heap.size :: rest, locked := none }) _
  jvm_step X₁.here [X₁.here.top, hexec, d3', Value.category]
  exact X₁.ldcStringW hexec (own := own) (text := text) (index := is) (a := sa) hown' hstr'.1 hstr'.2
    (g := { method := m, pc := pc + 4, locals := ls, stack := .ref T.heap.size :: .ref T.heap.size :: rest, locked := none }) rfl d4' _ hsteps
end Ends
section Bodies
variable {l : Launch}
theorem vx_ofW {y : MethodName} {ws ws' : List Cond} {rm : Room} {Pc : Array Value → State → Prop} {Qc : Array Value → State → Outcome → State → Prop} {XC : String → State → State → Prop} {mc ms : Nat} {free : Addr → Prop} {cc : ByteArray} {maxL : Nat} {ret : Option FieldType}
    (hy : plainName y.cls = true) (hw : ws = Cond.code y cc maxL ret :: ws')
    (body : ∀ p e s m args below meth c s₁, BodyLoose p l y (headSpec ws rm) cc maxL ret e s m args below meth c s₁ → c.maxLocals = maxL → (∀ x ∈ c.exceptionTable.toList, False) → Pc args s →
      W p l e (headSpec ws rm).room s m args below meth c s.heap [] 0 0 (vx_MQ below Qc XC args s mc ms free) (entryFrame m args maxL)) : vx_Met l y ws rm Pc Qc XC mc ms free := by
  refine MetFree.of_bodyS (code := cc) (maxLocals := maxL) (ret := ret) hy ?_ ?_
  · intro args s m h hn
    obtain ⟨meth, c, h1, h2, h3, h4, h5, h6, -, -⟩ := Cond.code_spec hn (atoms_spec (ws := ws) h _ (by rw [hw]; exact List.mem_cons_self))
    exact ⟨meth, c, h1, h2, h3, h4, h5, h6⟩
  · intro p e s m args below meth c s₁ B hml hP _
    have hh0 : s₁.heap = s.heap := by rw [B.state]; rfl
    have ht : ∀ x ∈ c.exceptionTable.toList, False := by
      obtain ⟨meth9, c9, h1, h2, -, -, -, -, h7, -⟩ := Cond.code_spec B.named (atoms_spec (ws := ws) B.pre _ (by rw [hw]; exact List.mem_cons_self))
      cases Option.some.inj (h1.symm.trans B.method)
      cases Option.some.inj (h2.symm.trans (Stand.of_body B).code)
      intro x hx
      rw [Array.isEmpty_iff.mp h7] at hx
      cases hx
    obtain ⟨t, a1, o, b1, b2, b3⟩ := body p e s m args below meth c s₁ B hml ht hP s₁ hh0 (Stand.of_body B)
    exact ⟨t, o, a1, b1, b2, b3⟩
/-- the table of a body with handlers -/
theorem vx_table {p : Program} {x y : MethodName} {S : Spec} {cc bytes : ByteArray} {maxL maxL' : Nat} {ret ret' : Option FieldType} {e : Env} {s s₁ : State} {m : MethodId} {args : Array Value} {below : List Frame} {meth : Method} {c : Code} {hh : List (Nat × Nat × Nat × Nat)}
    (B : BodyLoose p l y S cc maxL ret e s m args below meth c s₁) (h : (Cond.codeWith y bytes maxL' ret' hh).before args s = true) : c.exceptionTable.toList = tableOf hh := by
  obtain ⟨m9, meth9, c9, hn9, h1, h2, -, -, h6, -⟩ := Cond.codeWith_spec h
  cases Option.some.inj (hn9.symm.trans B.named)
  cases Option.some.inj (h1.symm.trans B.method)
  cases Option.some.inj (h2.symm.trans (Stand.of_body B).code)
  rw [← h6, table_eq]
end Bodies
end VXA
/-! ===== END ===== -/
/-! ===== BEGIN a static call of a method with an exception table ===== -/
section VXS
variable {p : Program} {l : Launch} {e : Env} {R : Room} {s : State} {m : MethodId} {args : Array Value} {below : List Frame} {meth : Method} {c : Code} {T : State} {H : Heap} {locs : List Loc} {cells slots : Nat}
abbrev vx_CSW (R : Room) (s : State) (args : Array Value) (own : String) (index : Nat) (y : MethodName) (bytes : ByteArray) (maxL : Nat) (ret : Option FieldType) (hh : List (Nat × Nat × Nat × Nat)) (ws : List Cond) (rm : Room) (mc ms n : Nat) : Prop :=
  (rm.cells = mc ∧ rm.slots = ms ∧ rm.frames + 1 ≤ R.frames ∧ 8 + (maxL + 11) + rm.locals ≤ R.locals ∧ (∀ w ∈ ws, ∀ (a' : Array Value) (U : State), s.WarmedH U.vm → w.before a' U = true) ∧ Cond.codeWith y bytes maxL ret hh ∈ ws) ∧
  (Cond.codeWith y bytes maxL ret hh).before args s = true ∧ (Cond.initialized y.cls).before args s = true ∧ (y.cls ≠ "java/lang/invoke/MethodHandle" ∧ y.cls ≠ "java/lang/invoke/VarHandle") ∧
  (∀ sig, parseMethodDescriptor y.desc = some sig → n = sig.parameters.length) ∧ (Cond.methodLink own index y).before args s = true ∧ (Cond.static y).before args s = true
theorem vx_cwSW {own : String} {index maxL mc ms : Nat} {y : MethodName} {bytes : ByteArray} {ret : Option FieldType} {hh : List (Nat × Nat × Nat × Nat)} {Ts ws ws' : List Cond} {rm : Room} (n : Nat) (ht : ∀ w ∈ Ts, w.before args s = true) (hT : GoodIn Ts (va_wsS own index y ws)) (hw : ws = Cond.codeWith y bytes maxL ret hh :: ws') (hrc : rm.cells = mc) (hrs : rm.slots = ms)
    (hd : y.cls ≠ "java/lang/invoke/MethodHandle" ∧ y.cls ≠ "java/lang/invoke/VarHandle" ∧ (parseMethodDescriptor y.desc).map (fun d => d.parameters.length) = some n) (hR : rm.frames + 1 ≤ R.frames ∧ 8 + (maxL + 11) + rm.locals ≤ R.locals) :
    vx_CSW R s args own index y bytes maxL ret hh ws rm mc ms n := by
  have ok : ∀ w ∈ va_wsS own index y ws, w.before args s = true := fun w h => ht w (hT w h).1
  have hG : GoodIn Ts ws := fun w h => hT w (by unfold va_wsS; exact List.mem_append_right _ h)
  have hc : Cond.codeWith y bytes maxL ret hh ∈ ws := by rw [hw]; exact List.mem_cons_self
  refine ⟨⟨hrc, hrs, hR.1, hR.2, pay_in ht hG, hc⟩, ht _ (hG _ hc).1, ok _ (by simp [va_wsS]), ⟨hd.1, hd.2.1⟩, fun sig h => ?_, ok _ (by simp [va_wsS]), ok _ (by simp [va_wsS])⟩
  have h2 := hd.2.2
  rw [h] at h2
  exact (Option.some.inj h2).symm
theorem vx_callSW (X : Stand p l e R s m args below meth c T locs cells slots) (hexec : p.tables.exec = Jvm.exec) {own : String} {index : Nat} {y : MethodName} {bytes : ByteArray} {maxL : Nat} {ret : Option FieldType} {hh : List (Nat × Nat × Nat × Nat)}
    (hown : s.vm.findClass own = some m.cls) (hlink : (Cond.methodLink own index y).before args s = true) (hstat : (Cond.static y).before args s = true) (hinit : (Cond.initialized y.cls).before args s = true)
    (hcode : (Cond.codeWith y bytes maxL ret hh).before args s = true) (hy : y.cls ≠ "java/lang/invoke/MethodHandle" ∧ y.cls ≠ "java/lang/invoke/VarHandle")
    {W9 : Nat} {Pre : Pt → Array Value → Prop} {Post : Pt → Array Value → Option Value → Pt → Prop} (hK : Back l R p e below s args y 3 W9 Pre Post)
    {g : JFrame} (hg : g.method = m) (hsize : g.locals.size = c.maxLocals) {argsL rest : List Value} (hlen : ∀ sig, parseMethodDescriptor y.desc = some sig → argsL.length = sig.parameters.length)
    (hstack : g.stack = argsL.reverse ++ rest) (hW : 2 * g.monitorRoom + (rest.map fun v => v.category).sum ≤ W9) (hdg : decode c.code g.pc = .ok (.invokestatic index, 3))
    (hpre : ∀ vm₁, s.WarmedH vm₁ → Pre ⟨T.setVm vm₁, locs, cells, slots⟩ argsL.toArray) :
    ∃ (v : Option Value) (vm₁ : Vm) (B : Pt), s.WarmedH vm₁ ∧ Stand p l e R s m args below meth c B.U B.locs B.cells B.slots ∧ Post ⟨T.setVm vm₁, locs, cells, slots⟩ argsL.toArray v B ∧
      ∀ target, Steps p.tables e below (B.U.setTop { g with pc := g.pc + 3, stack := v.toList ++ rest }) target → Steps p.tables e below (T.setTop g) target := by
  obtain ⟨mk, methM, cM, hnamed, hmethM, -, -, -, -, -, -, hsigM⟩ := Cond.codeWith_spec hcode
  have hstatic : methM.isStatic = true := Cond.static_spec hnamed hmethM hstat
  obtain ⟨kP, hkP, -⟩ := className_of_methodNamed hnamed
  have hinitP : kP.init = .initialized := Cond.initialized_spec (findClass_of_methodNamed hnamed) hkP hinit
  obtain ⟨vm₁, X₁, hstep₁⟩ := X.invokestatic hexec hown hlink hnamed hmethM hstatic hkP hinitP hy (g := g) hg (argsL := argsL) (rest := rest) (hlen _ hsigM) hstack hdg
  obtain ⟨v, B, X', hpost, hsteps⟩ := hK m meth c ⟨T.setVm vm₁, locs, cells, slots⟩ { g with stack := rest } (.invokestatic index) mk argsL.toArray X₁ hg hsize hdg hW (X₁.named hnamed) (hpre vm₁ X₁.warmed)
  exact ⟨v, vm₁, B, X₁.warmed, X', hpost, fun target h => hstep₁ _ fun acts => by rw [doInvoke_state]; exact hsteps.trans h⟩
theorem vx_runSW {y : MethodName} {bytes cc : ByteArray} {maxL nL mc ms n index : Nat} {ret : Option FieldType} {hh : List (Nat × Nat × Nat × Nat)} {ws : List Cond} {rm : Room} {Pc : Array Value → State → Prop} {Qc : Array Value → State → Outcome → State → Prop} {free : Addr → Prop} {Ts : List Cond} {own : String} {As rest : List Value} {g : JFrame}
    (S : CallFix p m c cc nL s args Ts own) (hM : Met l y ws rm Pc Qc mc ms free) (cw : vx_CSW R s args own index y bytes maxL ret hh ws rm mc ms n) (hp : PreS s H Pc As)
    (hg : g.method = m) (hn : As.length = n) (hsize : g.locals.size = nL) (hstack : g.stack = As.reverse ++ rest) (hW : 2 * g.monitorRoom + (rest.map fun v => v.category).sum ≤ 8) (hdg : decode cc g.pc = .ok (.invokestatic index, 3)) (hf : cells + mc ≤ R.cells ∧ slots + ms ≤ R.slots) :
    va_Run p l e R s m args below meth c H locs cells slots mc ms g rest (Qc As.toArray) (free) := by
  obtain ⟨⟨hrc, hrs, hfr, hlo, hws, hcw⟩, hcode, hini, hy, hlen, hl, hstt⟩ := cw
  have hK : Back l R p e below s args y 3 8 (PreOf R mc ms Pc) (PostOf Qc mc ms free) := va_backW (hh := hh) (bytes := bytes) (maxL := maxL) (ret := ret) hM hp.1 hrc hrs hfr hlo hws hcw (fun a' U hW => word_at hW (Or.inl (by first | rfl | simp [Cond.onTables, Cond.keeps, Cond.steady])) hini)
  obtain ⟨hx, hb, hml, ho, -⟩ := S
  intro T hT X
  obtain ⟨v, vm₁, ⟨U', l2, c2, s2⟩, hW₁, X', ⟨g', mk, t, L, e1, e2, hq, h1, hL, h2, h3⟩, st⟩ := vx_callSW X hx (hh := hh) (bytes := bytes) (maxL := maxL) (ret := ret) ho hl hstt hini hcode hy hK hg (hsize.trans hml.symm) (argsL := As) (rest := rest) (fun sig h => hn.trans (hlen sig h)) hstack hW (by rw [hb]; exact hdg)
    (fun vm₁ hW₁ => ⟨hf.1, hf.2, hp.2 (T.setVm vm₁) hT hW₁⟩)
  dsimp only [Pt.U, Pt.locs, Pt.cells, Pt.slots] at X' e1 e2 h1 h2 h3 st
  subst h1; subst h2; subst h3
  exact ⟨v, (T.setVm vm₁).calling g' mk As.toArray, t, U', L, hT, X', hL, e1, e2, hq, st⟩
/-- not caught here, past rows that name other classes: it goes on to the caller -/
theorem vx_outP {p : Program} {l : Launch} {e : Env} {R : Room} {s : State} {m : MethodId} {args : Array Value} {below : List Frame} {meth : Method} {c : Code} {H : Heap} {locs : List Loc} {cells slots : Nat} {free : Addr → Prop} {ls : Array Slot} {rest : List Value} {Qc : Array Value → State → Outcome → State → Prop} {XC : String → State → State → Prop}
    {pc : Nat} {own E : String} {ce : Cell} {q : Addr} {mc ms : Nat} (hown : s.vm.findClass own = some m.cls) (hlocks : meth.locks = false)
    (hpass : ∀ z ∈ c.exceptionTable.toList, covers z pc = false ∨ (z.catchType ≠ 0 ∧ ∃ nm : String, (Cond.classLink own z.catchType nm).before args s = true ∧ va_Nc E nm s)) (hcell : H[q]? = some ce) (hv : ce.vm = .none) (hcl : s.vm.findClass E = some ce.cls)
    (hx : ∀ t : State, t.heap = H → s.vm.Alike t.vm → XC E s t) (hf : ∀ z ∈ locs, free z.base) (hc : cells ≤ mc) (hs : slots ≤ ms) :
    vx_W p l e R s m args below meth c H locs cells slots (vx_MQ below Qc XC args s mc ms free) (F0 m pc ls rest) q := by
  intro T hT X
  have hpl : e.platform.magicAccessors = ({} : Platform).magicAccessors := by rw [X.admits.platform]
  obtain ⟨vm', hW', X', st⟩ := X.outThrough hlocks q (g := F0 m pc ls rest) rfl rfl rfl (cell := ce) (by rw [hT]; exact hcell) (by rw [hv]; rfl)
    (by obtain ⟨k9, h9, -⟩ := Vm.findClass_spec hcl; exact ⟨k9, h9⟩) (fun z hz => by
      rcases hpass z hz with h | ⟨hz0, nm, hl1, hn1⟩
      · exact Or.inl h
      · obtain ⟨c6, hc6, hcl6⟩ := Cond.classLink_spec hown hl1 e.platform hpl
        obtain ⟨a8, b8, h1, h2, h3⟩ := hn1
        cases Option.some.inj (h1.symm.trans hcl)
        cases Option.some.inj (h2.symm.trans hc6)
        exact Or.inr ⟨hz0, _, hcl6, h3⟩)
  obtain ⟨g₀, hfr⟩ := X'.frames_eq
  have hcell9 : ((T.setVm vm').setFrames (.throwing q :: below)).heap[q]? = some ce := by
    show T.heap[q]? = some ce
    rw [hT]; exact hcell
  have hend : Ended ((T.setVm vm').setFrames (.throwing q :: below)) below (.threw q) := State.frames_setFrames _ (State.cur_lt_of_frames hfr)
  refine ⟨(T.setVm vm').setFrames (.throwing q :: below), ?_, .threw q, X'.here.running, hend, Or.inr ⟨q, rfl, E, ce, locs, hx _ hT (X'.ends _).1.alike, hcell9, hv, hcl, (X'.ends _).1, (X'.ends _).2.mono hc hs, hf⟩⟩
  rw [X.pushThrowing_eq]
  exact st
/-- a thing of a world lies in the heap -/
theorem vx_lt {D : va_G} {cl : List vw_C} {ws : va_W} {H1 : Heap} (h : va_P D cl ws H1) {k : Nat} {q : Nat × va_E} (hk : ws[k]? = some q) : q.1 < H1.size := (h k q hk).lt
end VXS
/-! ===== END ===== -/
/-! ===== BEGIN methods with a table of their own: called by a name, returning or throwing ===== -/
section VXH
/-! vx_backW, vx_callVX, vx_callSX, vx_callVW, vx_runVW, vx_runVX, vx_runSX, vx_ofWH follow the same proofs as their sisters above (Free/Laws.lean, Shelf42/LK1.lean); vx_outP calls Shelf42/NT130.lean (outThrough). -/
section
variable {l : Launch} {R : Room} {p : Program} {e : Env} {below : List Frame} {s : State} {sargs : Array Value} {y : MethodName} {len W9 : Nat}
theorem vx_backW {ws : List Cond} {rm : Room} {Pc : Array Value → State → Prop} {Qc : Array Value → State → Outcome → State → Prop} {XC : String → State → State → Prop} {mc ms : Nat} {free : Addr → Prop} {bytes : ByteArray} {maxL : Nat} {ret : Option FieldType} {hh : List (Nat × Nat × Nat × Nat)}
    (hM : vx_Met l y ws rm Pc Qc XC mc ms free) (hblind : FrameBlind Pc) (hrc : rm.cells = mc) (hrs : rm.slots = ms)
    (hframes : rm.frames + 1 ≤ R.frames) (hlocals : W9 + (maxL + 11) + rm.locals ≤ R.locals)
    (hws : ∀ w ∈ ws, ∀ a' U, s.WarmedH U.vm → w.before a' U = true) (hcode : Cond.codeWith y bytes maxL ret hh ∈ ws) (hinit : ∀ a' U, s.WarmedH U.vm → (Cond.initialized y.cls).before a' U = true) :
    vx_Back l R p e below s sargs y len W9 (PreOf R mc ms Pc) (PostOf Qc mc ms free) (vx_Post XC mc ms free) := by
  intro m meth c A g ig mk a X hg hsize hdg hW hn hp
  have h1 : (headSpec ws rm).pre.before a A.U = true := atoms_intro fun w hw => hws w hw _ _ X.warmed
  have h2 : (Cond.codeWith y bytes maxL ret hh).before a A.U = true := hws _ hcode _ _ X.warmed
  have h3 : (Cond.initialized y.cls).before a A.U = true := hinit _ _ X.warmed
  have h4 : A.cells + (headSpec ws rm).room.cells ≤ R.cells := by rw [show (headSpec ws rm).room.cells = mc from hrc]; exact hp.1
  have h5 : A.slots + (headSpec ws rm).room.slots ≤ R.slots := by rw [show (headSpec ws rm).room.slots = ms from hrs]; exact hp.2.1
  have hPc : Pc a (A.U.calling g mk a) := hblind _ _ _ _ hp.2.2
  obtain ⟨U, Ls, c0, s0⟩ := A
  dsimp only [Pt.U, Pt.locs, Pt.cells, Pt.slots] at h1 h2 h3 h4 h5 X hn hPc ⊢
  obtain ⟨m9, methY, cY, hn9, hmY, hcY, -, hlY, -⟩ := Cond.codeWith_spec h2
  cases Option.some.inj (hn9.symm.trans hn)
  obtain ⟨kY, hkY, -⟩ := className_of_methodNamed hn
  have hinitY : kY.init = .initialized := Cond.initialized_spec (findClass_of_methodNamed hn) hkY h3
  have h : At U g.method c below := by rw [hg]; exact X.here
  have hlocals9 : W9 + (maxL + 11) + (headSpec ws rm).room.locals ≤ R.locals := hlocals
  have happ : (headSpec ws rm).appliesLoose y e.platform (U.calling g mk a) = true :=
    Spec.appliesLoose_calling (g := g) h hdg hn hkY hinitY
      (X.room_calling (g := g) (R' := (headSpec ws rm).room) hsize hmY hcY hframes (by rw [hlY]; omega) h4 h5) h1
  obtain ⟨mid, hmid⟩ := h.above
  have hfr : (U.setTop g).frames = (.java g :: mid) ++ below := by rw [State.frames_setTop' g h.top, hmid]; rfl
  obtain ⟨o, s₂, hsteps, -, hend, hq⟩ := Steps.callFree hM p X.admits X.cas X.clock (acts := []) hfr happ hPc trivial
  have hq' : vx_Q Qc XC mc ms free a (U.calling g mk a) o s₂ := hq
  rw [State.frames_setTop' g h.top] at hend
  obtain ⟨g₀, hg0⟩ := Option.isSome_iff_exists.mp h.top
  obtain ⟨r, hr⟩ := State.topJava?_eq_some.mp hg0
  have hr' : (({ U with heap := s₂.heap, slotsUsed := s₂.slotsUsed } : State).setVm s₂.vm).frames = .java g₀ :: r := hr
  rcases hq' with ⟨hqc, L, hfe, hL⟩ | ⟨q, rfl, E, ce, L, hx, hce, hcv, hcl, hW₂, hsm, hL⟩
  · obtain ⟨⟨v, rfl⟩, hW₂, e2, q2, q3, q4, q5, q6⟩ := id hfe
    have e3 : s₂ = ({ (U.calling g mk a).setFrames s₂.frames with heap := s₂.heap, slotsUsed := s₂.slotsUsed } : State).setVm s₂.vm := by
      have : s₂ = ({ s₂ with vm := (U.calling g mk a).vm } : State).setVm s₂.vm := rfl
      rw [e2] at this
      exact this
    obtain ⟨c₂, i₂, len₂, hc₂, hd₂, hf₂⟩ := hend
    have hW' : U.WarmedH s₂.vm := hW₂
    have hcc : c₂ = c := by
      have h1 : s₂.code? g.method = U.code? g.method := by
        rw [State.code?_eq, State.code?_eq, hW'.alike.method?]
      exact Option.some.inj (hc₂.symm.trans (h1.trans h.code))
    subst hcc
    have hlen : len₂ = len := by rw [hdg] at hd₂; cases hd₂; rfl
    subst hlen
    have hs₂ : s₂ = (({ U with heap := s₂.heap, slotsUsed := s₂.slotsUsed } : State).setVm s₂.vm).setTop { g with pc := g.pc + len₂, stack := v.toList ++ g.stack } := by
      refine e3.trans ?_
      rw [hf₂, State.calling_eq h.top, State.setFrames_setFrames, State.setTop_of_frames _ hr', hr]
      rfl
    have hsame : U.sameButNew ({ U with heap := s₂.heap, slotsUsed := s₂.slotsUsed } : State) L mc ms := by
      refine ⟨?_, q2, q3, q4, q5, q6⟩
      obtain ⟨t, ht, -⟩ := State.frames_cons hr
      show ({ U with heap := s₂.heap, slotsUsed := s₂.slotsUsed } : State) = { U.setFrames U.frames with heap := s₂.heap, slotsUsed := s₂.slotsUsed }
      rw [State.setFrames_self ht]
    subst hg
    refine Or.inl ⟨v, ⟨(({ U with heap := s₂.heap, slotsUsed := s₂.slotsUsed } : State).setVm s₂.vm), Ls ++ L, c0 + mc, s0 + ms⟩,
      ⟨X.admits, X.cas, X.clock, X.frames, X.room, X.hears, X.method, X.code, (X.here.setHeapUsed s₂.heap s₂.slotsUsed).setVm hW'.alike, X.tail, State.WarmedH.trans X.warmed hW', X.limits, X.bytes, X.same.trans (hsame.setVm s.vm)⟩,
      ⟨g, mk, s₂, L, rfl, rfl, hqc, rfl, hL, rfl, rfl⟩, ?_⟩
    show Steps p.tables e below _ ((({ U with heap := s₂.heap, slotsUsed := s₂.slotsUsed } : State).setVm s₂.vm).setTop { g with pc := g.pc + len₂, stack := v.toList ++ g.stack })
    rw [← hs₂]
    exact hsteps
  · obtain ⟨e2, q2, q3, q4, q5, q6⟩ := id hsm
    have e3 : s₂ = ({ (U.calling g mk a).setFrames s₂.frames with heap := s₂.heap, slotsUsed := s₂.slotsUsed } : State).setVm s₂.vm := by
      have : s₂ = ({ s₂ with vm := (U.calling g mk a).vm } : State).setVm s₂.vm := rfl
      rw [e2] at this
      exact this
    have hf₂ : s₂.frames = .throwing q :: .java g :: U.frames.tail := hend
    have hW' : U.WarmedH s₂.vm := hW₂
    have hs₂ : s₂ = ((({ U with heap := s₂.heap, slotsUsed := s₂.slotsUsed } : State).setVm s₂.vm).setTop g).pushFrame (.throwing q) := by
      refine e3.trans ?_
      rw [hf₂, State.calling_eq h.top, State.setFrames_setFrames, State.pushFrame, State.frames_setTop _ hr', State.setTop_of_frames _ hr', State.setFrames_setFrames, hr]
      rfl
    have hsame : U.sameButNew ({ U with heap := s₂.heap, slotsUsed := s₂.slotsUsed } : State) L mc ms := by
      refine ⟨?_, q2, q3, q4, q5, q6⟩
      obtain ⟨t, ht, -⟩ := State.frames_cons hr
      show ({ U with heap := s₂.heap, slotsUsed := s₂.slotsUsed } : State) = { U.setFrames U.frames with heap := s₂.heap, slotsUsed := s₂.slotsUsed }
      rw [State.setFrames_self ht]
    subst hg
    refine Or.inr ⟨q, ⟨(({ U with heap := s₂.heap, slotsUsed := s₂.slotsUsed } : State).setVm s₂.vm), Ls ++ L, c0 + mc, s0 + ms⟩,
      ⟨X.admits, X.cas, X.clock, X.frames, X.room, X.hears, X.method, X.code, (X.here.setHeapUsed s₂.heap s₂.slotsUsed).setVm hW'.alike, X.tail, State.WarmedH.trans X.warmed hW', X.limits, X.bytes, X.same.trans (hsame.setVm s.vm)⟩,
      ⟨g, mk, s₂, L, E, ce, rfl, rfl, hx, hce, hcv, hcl, rfl, hL, rfl, rfl⟩, ?_⟩
    show Steps p.tables e below _ (((({ U with heap := s₂.heap, slotsUsed := s₂.slotsUsed } : State).setVm s₂.vm).setTop g).pushFrame (.throwing q))
    rw [← hs₂]
    exact hsteps
end
variable {p : Program} {l : Launch} {e : Env} {R : Room} {s : State} {m : MethodId} {args : Array Value} {below : List Frame} {meth : Method} {c : Code} {T : State} {H : Heap} {locs : List Loc} {cells slots : Nat}
theorem vx_callVX (X : Stand p l e R s m args below meth c T locs cells slots) (hexec : p.tables.exec = Jvm.exec) {own C : String} {index : Nat} {y : MethodName} {bytes : ByteArray} {maxL : Nat} {ret : Option FieldType} {hh : List (Nat × Nat × Nat × Nat)}
    (hown : s.vm.findClass own = some m.cls) (hlink : (Cond.methodLink own index y).before args s = true) (hinst : (Cond.instanceMethod y).before args s = true) (hsel : (Cond.selects C y y).before args s = true)
    (hcode : (Cond.codeWith y bytes maxL ret hh).before args s = true) (hy : y.cls ≠ "java/lang/invoke/MethodHandle" ∧ y.cls ≠ "java/lang/invoke/VarHandle")
    {W9 : Nat} {Pre : Pt → Array Value → Prop} {Post : Pt → Array Value → Option Value → Pt → Prop} {PostX : Pt → Array Value → Addr → Pt → Prop} (hK : vx_Back l R p e below s args y 3 W9 Pre Post PostX)
    {b : Addr} {cellB : Cell} (hcell : T.heap[b]? = some cellB) (hobj : cellB.vm.isStatics = false) (hcls : s.vm.findClass C = some cellB.cls)
    {g : JFrame} (hg : g.method = m) (hsize : g.locals.size = c.maxLocals) {argsL rest : List Value} (hlen : ∀ sig, parseMethodDescriptor y.desc = some sig → argsL.length = sig.parameters.length)
    (hstack : g.stack = argsL.reverse ++ .ref b :: rest) (hW : 2 * g.monitorRoom + (rest.map fun v => v.category).sum ≤ W9) (hdg : decode c.code g.pc = .ok (.invokevirtual index, 3))
    (hpre : ∀ vm₁, s.WarmedH vm₁ → Pre ⟨T.setVm vm₁, locs, cells, slots⟩ (Value.ref b :: argsL).toArray) :
    (∃ (v : Option Value) (vm₁ : Vm) (B : Pt), s.WarmedH vm₁ ∧ Stand p l e R s m args below meth c B.U B.locs B.cells B.slots ∧ Post ⟨T.setVm vm₁, locs, cells, slots⟩ (Value.ref b :: argsL).toArray v B ∧
      ∀ target, Steps p.tables e below (B.U.setTop { g with pc := g.pc + 3, stack := v.toList ++ rest }) target → Steps p.tables e below (T.setTop g) target) ∨
    (∃ (q : Addr) (vm₁ : Vm) (B : Pt), s.WarmedH vm₁ ∧ Stand p l e R s m args below meth c B.U B.locs B.cells B.slots ∧ PostX ⟨T.setVm vm₁, locs, cells, slots⟩ (Value.ref b :: argsL).toArray q B ∧
      Steps p.tables e below (T.setTop g) ((B.U.setTop { g with stack := rest }).pushFrame (.throwing q))) := by
  obtain ⟨mk, methM, hnamed, hmethM, hstM, habM⟩ := Cond.instanceMethod_spec hinst
  obtain ⟨m8, methM', cM, hn8, hmethM', -, -, -, -, -, -, hsigM⟩ := Cond.codeWith_spec hcode
  cases Option.some.inj (hn8.symm.trans hnamed)
  cases hmethM.symm.trans hmethM'
  obtain ⟨c2, r2, m2, q1, q2, q3, q4, kP, hkP, hkPi⟩ := Cond.selects_spec hsel
  cases hcls.symm.trans q1
  cases (State.methodFound?_of_named hnamed hy).symm.trans q2
  cases hnamed.symm.trans q3
  have hselP : selectMethod e.platform s.vm cellB.cls mk = .method mk := by rw [Launch.admits_selectMethod X.admits]; exact q4
  obtain ⟨vm₁, X₁, hstep₁⟩ := X.invokevirtual hexec hown hlink hnamed hmethM hstM hkP hkPi hy (a := b) (cell := cellB) hcell
    (fun z h => by rw [h] at hobj; cases hobj) hselP hmethM habM hkP hkPi (g := g) hg (argsL := argsL) (rest := rest) (hlen _ hsigM) hstack hdg
  rcases hK m meth c ⟨T.setVm vm₁, locs, cells, slots⟩ { g with stack := rest } (.invokevirtual index) mk (Value.ref b :: argsL).toArray X₁ hg hsize hdg hW (X₁.named hnamed) (hpre vm₁ X₁.warmed) with ⟨v, B, X', hpost, hsteps⟩ | ⟨q, B, X', hpost, hsteps⟩
  · exact Or.inl ⟨v, vm₁, B, X₁.warmed, X', hpost, fun target h => hstep₁ _ fun acts => by rw [doInvoke_state]; exact hsteps.trans h⟩
  · exact Or.inr ⟨q, vm₁, B, X₁.warmed, X', hpost, hstep₁ _ fun acts => by rw [doInvoke_state]; exact hsteps⟩
theorem vx_callSX (X : Stand p l e R s m args below meth c T locs cells slots) (hexec : p.tables.exec = Jvm.exec) {own : String} {index : Nat} {y : MethodName} {bytes : ByteArray} {maxL : Nat} {ret : Option FieldType} {hh : List (Nat × Nat × Nat × Nat)}
    (hown : s.vm.findClass own = some m.cls) (hlink : (Cond.methodLink own index y).before args s = true) (hstat : (Cond.static y).before args s = true) (hinit : (Cond.initialized y.cls).before args s = true)
    (hcode : (Cond.codeWith y bytes maxL ret hh).before args s = true) (hy : y.cls ≠ "java/lang/invoke/MethodHandle" ∧ y.cls ≠ "java/lang/invoke/VarHandle")
    {W9 : Nat} {Pre : Pt → Array Value → Prop} {Post : Pt → Array Value → Option Value → Pt → Prop} {PostX : Pt → Array Value → Addr → Pt → Prop} (hK : vx_Back l R p e below s args y 3 W9 Pre Post PostX)
    {g : JFrame} (hg : g.method = m) (hsize : g.locals.size = c.maxLocals) {argsL rest : List Value} (hlen : ∀ sig, parseMethodDescriptor y.desc = some sig → argsL.length = sig.parameters.length)
    (hstack : g.stack = argsL.reverse ++ rest) (hW : 2 * g.monitorRoom + (rest.map fun v => v.category).sum ≤ W9) (hdg : decode c.code g.pc = .ok (.invokestatic index, 3))
    (hpre : ∀ vm₁, s.WarmedH vm₁ → Pre ⟨T.setVm vm₁, locs, cells, slots⟩ argsL.toArray) :
    (∃ (v : Option Value) (vm₁ : Vm) (B : Pt), s.WarmedH vm₁ ∧ Stand p l e R s m args below meth c B.U B.locs B.cells B.slots ∧ Post ⟨T.setVm vm₁, locs, cells, slots⟩ argsL.toArray v B ∧
      ∀ target, Steps p.tables e below (B.U.setTop { g with pc := g.pc + 3, stack := v.toList ++ rest }) target → Steps p.tables e below (T.setTop g) target) ∨
    (∃ (q : Addr) (vm₁ : Vm) (B : Pt), s.WarmedH vm₁ ∧ Stand p l e R s m args below meth c B.U B.locs B.cells B.slots ∧ PostX ⟨T.setVm vm₁, locs, cells, slots⟩ argsL.toArray q B ∧
      Steps p.tables e below (T.setTop g) ((B.U.setTop { g with stack := rest }).pushFrame (.throwing q))) := by
  obtain ⟨mk, methM, cM, hnamed, hmethM, -, -, -, -, -, -, hsigM⟩ := Cond.codeWith_spec hcode
  have hstatic : methM.isStatic = true := Cond.static_spec hnamed hmethM hstat
  obtain ⟨kP, hkP, -⟩ := className_of_methodNamed hnamed
  have hinitP : kP.init = .initialized := Cond.initialized_spec (findClass_of_methodNamed hnamed) hkP hinit
  obtain ⟨vm₁, X₁, hstep₁⟩ := X.invokestatic hexec hown hlink hnamed hmethM hstatic hkP hinitP hy (g := g) hg (argsL := argsL) (rest := rest) (hlen _ hsigM) hstack hdg
  rcases hK m meth c ⟨T.setVm vm₁, locs, cells, slots⟩ { g with stack := rest } (.invokestatic index) mk argsL.toArray X₁ hg hsize hdg hW (X₁.named hnamed) (hpre vm₁ X₁.warmed) with ⟨v, B, X', hpost, hsteps⟩ | ⟨q, B, X', hpost, hsteps⟩
  · exact Or.inl ⟨v, vm₁, B, X₁.warmed, X', hpost, fun target h => hstep₁ _ fun acts => by rw [doInvoke_state]; exact hsteps.trans h⟩
  · exact Or.inr ⟨q, vm₁, B, X₁.warmed, X', hpost, hstep₁ _ fun acts => by rw [doInvoke_state]; exact hsteps⟩
theorem vx_callVW (X : Stand p l e R s m args below meth c T locs cells slots) (hexec : p.tables.exec = Jvm.exec) {own C : String} {index : Nat} {y : MethodName} {bytes : ByteArray} {maxL : Nat} {ret : Option FieldType} {hh : List (Nat × Nat × Nat × Nat)}
    (hown : s.vm.findClass own = some m.cls) (hlink : (Cond.methodLink own index y).before args s = true) (hinst : (Cond.instanceMethod y).before args s = true) (hsel : (Cond.selects C y y).before args s = true)
    (hcode : (Cond.codeWith y bytes maxL ret hh).before args s = true) (hy : y.cls ≠ "java/lang/invoke/MethodHandle" ∧ y.cls ≠ "java/lang/invoke/VarHandle")
    {W9 : Nat} {Pre : Pt → Array Value → Prop} {Post : Pt → Array Value → Option Value → Pt → Prop} (hK : Back l R p e below s args y 3 W9 Pre Post)
    {b : Addr} {cellB : Cell} (hcell : T.heap[b]? = some cellB) (hobj : cellB.vm.isStatics = false) (hcls : s.vm.findClass C = some cellB.cls)
    {g : JFrame} (hg : g.method = m) (hsize : g.locals.size = c.maxLocals) {argsL rest : List Value} (hlen : ∀ sig, parseMethodDescriptor y.desc = some sig → argsL.length = sig.parameters.length)
    (hstack : g.stack = argsL.reverse ++ .ref b :: rest) (hW : 2 * g.monitorRoom + (rest.map fun v => v.category).sum ≤ W9) (hdg : decode c.code g.pc = .ok (.invokevirtual index, 3))
    (hpre : ∀ vm₁, s.WarmedH vm₁ → Pre ⟨T.setVm vm₁, locs, cells, slots⟩ (Value.ref b :: argsL).toArray) :
    ∃ (v : Option Value) (vm₁ : Vm) (B : Pt), s.WarmedH vm₁ ∧ Stand p l e R s m args below meth c B.U B.locs B.cells B.slots ∧ Post ⟨T.setVm vm₁, locs, cells, slots⟩ (Value.ref b :: argsL).toArray v B ∧
      ∀ target, Steps p.tables e below (B.U.setTop { g with pc := g.pc + 3, stack := v.toList ++ rest }) target → Steps p.tables e below (T.setTop g) target := by
  obtain ⟨mk, methM, hnamed, hmethM, hstM, habM⟩ := Cond.instanceMethod_spec hinst
  obtain ⟨m8, methM', cM, hn8, hmethM', -, -, -, -, -, -, hsigM⟩ := Cond.codeWith_spec hcode
  cases Option.some.inj (hn8.symm.trans hnamed)
  cases hmethM.symm.trans hmethM'
  obtain ⟨c2, r2, m2, q1, q2, q3, q4, kP, hkP, hkPi⟩ := Cond.selects_spec hsel
  cases hcls.symm.trans q1
  cases (State.methodFound?_of_named hnamed hy).symm.trans q2
  cases hnamed.symm.trans q3
  have hselP : selectMethod e.platform s.vm cellB.cls mk = .method mk := by rw [Launch.admits_selectMethod X.admits]; exact q4
  obtain ⟨vm₁, X₁, hstep₁⟩ := X.invokevirtual hexec hown hlink hnamed hmethM hstM hkP hkPi hy (a := b) (cell := cellB) hcell
    (fun z h => by rw [h] at hobj; cases hobj) hselP hmethM habM hkP hkPi (g := g) hg (argsL := argsL) (rest := rest) (hlen _ hsigM) hstack hdg
  obtain ⟨v, B, X', hpost, hsteps⟩ := hK m meth c ⟨T.setVm vm₁, locs, cells, slots⟩ { g with stack := rest } (.invokevirtual index) mk (Value.ref b :: argsL).toArray X₁ hg hsize hdg hW (X₁.named hnamed) (hpre vm₁ X₁.warmed)
  exact ⟨v, vm₁, B, X₁.warmed, X', hpost, fun target h => hstep₁ _ fun acts => by rw [doInvoke_state]; exact hsteps.trans h⟩
abbrev vx_CVW (R : Room) (s : State) (args : Array Value) (own C : String) (index : Nat) (y : MethodName) (bytes : ByteArray) (maxL : Nat) (ret : Option FieldType) (hh : List (Nat × Nat × Nat × Nat)) (ws : List Cond) (rm : Room) (mc ms n : Nat) : Prop :=
  (rm.cells = mc ∧ rm.slots = ms ∧ rm.frames + 1 ≤ R.frames ∧ 8 + (maxL + 11) + rm.locals ≤ R.locals ∧ (∀ w ∈ ws, ∀ (a' : Array Value) (U : State), s.WarmedH U.vm → w.before a' U = true) ∧ Cond.codeWith y bytes maxL ret hh ∈ ws) ∧
  (Cond.codeWith y bytes maxL ret hh).before args s = true ∧ (Cond.initialized y.cls).before args s = true ∧ (y.cls ≠ "java/lang/invoke/MethodHandle" ∧ y.cls ≠ "java/lang/invoke/VarHandle") ∧
  (∀ sig, parseMethodDescriptor y.desc = some sig → n = sig.parameters.length) ∧ (Cond.methodLink own index y).before args s = true ∧ (Cond.instanceMethod y).before args s = true ∧ (Cond.selects C y y).before args s = true
theorem vx_cwVW {own C : String} {index maxL mc ms : Nat} {y : MethodName} {bytes : ByteArray} {ret : Option FieldType} {hh : List (Nat × Nat × Nat × Nat)} {Ts ws ws' : List Cond} {rm : Room} (n : Nat) (ht : ∀ w ∈ Ts, w.before args s = true) (hT : GoodIn Ts (wsV own index C y ws)) (hw : ws = Cond.codeWith y bytes maxL ret hh :: ws') (hrc : rm.cells = mc) (hrs : rm.slots = ms)
    (hd : y.cls = C ∧ y.cls ≠ "java/lang/invoke/MethodHandle" ∧ y.cls ≠ "java/lang/invoke/VarHandle" ∧ (parseMethodDescriptor y.desc).map (fun d => d.parameters.length) = some n) (hR : rm.frames + 1 ≤ R.frames ∧ 8 + (maxL + 11) + rm.locals ≤ R.locals) :
    vx_CVW R s args own C index y bytes maxL ret hh ws rm mc ms n := by
  obtain ⟨hC, hd⟩ := hd
  subst hC
  have ok : ∀ w ∈ wsV own index y.cls y ws, w.before args s = true := fun w h => ht w (hT w h).1
  have hG : GoodIn Ts ws := fun w h => hT w (by unfold wsV; exact List.mem_append_right _ h)
  have hc : Cond.codeWith y bytes maxL ret hh ∈ ws := by rw [hw]; exact List.mem_cons_self
  refine ⟨⟨hrc, hrs, hR.1, hR.2, pay_in ht hG, hc⟩, ht _ (hG _ hc).1, ok _ (by simp [wsV]), ⟨hd.1, hd.2.1⟩, fun sig h => ?_, ok _ (by simp [wsV]), ok _ (by simp [wsV]), ok _ (by simp [wsV])⟩
  have h2 := hd.2.2
  rw [h] at h2
  exact (Option.some.inj h2).symm
theorem vx_runVW {y : MethodName} {bytes cc : ByteArray} {maxL nL mc ms n index : Nat} {ret : Option FieldType} {hh : List (Nat × Nat × Nat × Nat)} {ws : List Cond} {rm : Room} {Pc : Array Value → State → Prop} {Qc : Array Value → State → Outcome → State → Prop} {free : Addr → Prop} {Ts : List Cond} {own C : String} {b : Addr} {As rest : List Value} {g : JFrame}
    (S : CallFix p m c cc nL s args Ts own) (hM : Met l y ws rm Pc Qc mc ms free) (cw : vx_CVW R s args own C index y bytes maxL ret hh ws rm mc ms n) (hp : PreV s H C b Pc As)
    (hg : g.method = m) (hn : As.length = n) (hsize : g.locals.size = nL) (hstack : g.stack = As.reverse ++ .ref b :: rest) (hW : 2 * g.monitorRoom + (rest.map fun v => v.category).sum ≤ 8) (hdg : decode cc g.pc = .ok (.invokevirtual index, 3)) (hf : cells + mc ≤ R.cells ∧ slots + ms ≤ R.slots) :
    va_Run p l e R s m args below meth c H locs cells slots mc ms g rest (Qc (Value.ref b :: As).toArray) free := by
  obtain ⟨⟨hrc, hrs, hfr, hlo, hws, hcw⟩, hcode, hini, hy, hlen, hl, hin, hse⟩ := cw
  have hK : Back l R p e below s args y 3 8 (PreOf R mc ms Pc) (PostOf Qc mc ms free) := va_backW (hh := hh) (bytes := bytes) (maxL := maxL) (ret := ret) hM hp.1 hrc hrs hfr hlo hws hcw (fun a' U hW => word_at hW (Or.inl (by first | rfl | simp [Cond.onTables, Cond.keeps, Cond.steady])) hini)
  obtain ⟨hx, hb, hml, ho, -⟩ := S
  obtain ⟨-, ⟨cellB, hcB, hoB, hclB⟩, hPc⟩ := hp
  intro T hT X
  obtain ⟨v, vm₁, ⟨U', l2, c2, s2⟩, hW₁, X', ⟨g', mk, t, L, e1, e2, hq, h1, hL, h2, h3⟩, st⟩ := vx_callVW X hx (C := C) (hh := hh) (bytes := bytes) (maxL := maxL) (ret := ret) ho hl hin hse hcode hy hK (by rw [hT]; exact hcB) hoB hclB hg (hsize.trans hml.symm) (argsL := As) (rest := rest) (fun sig h => hn.trans (hlen sig h)) hstack hW (by rw [hb]; exact hdg)
    (fun vm₁ hW₁ => ⟨hf.1, hf.2, hPc (T.setVm vm₁) hT hW₁⟩)
  dsimp only [Pt.U, Pt.locs, Pt.cells, Pt.slots] at X' e1 e2 h1 h2 h3 st
  subst h1; subst h2; subst h3
  exact ⟨v, (T.setVm vm₁).calling g' mk (Value.ref b :: As).toArray, t, U', L, hT, X', hL, e1, e2, hq, st⟩
section
variable {y : MethodName} {bytes cc : ByteArray} {maxL nL mc ms n index : Nat} {ret : Option FieldType} {ws : List Cond} {rm : Room} {Pc : Array Value → State → Prop} {Qc : Array Value → State → Outcome → State → Prop} {XC : String → State → State → Prop} {free : Addr → Prop} {Ts : List Cond} {own C : String} {b : Addr} {As rest : List Value} {g : JFrame}
theorem vx_runVX {hh : List (Nat × Nat × Nat × Nat)} (S : CallFix p m c cc nL s args Ts own) (hM : vx_Met l y ws rm Pc Qc XC mc ms free) (cw : vx_CVW R s args own C index y bytes maxL ret hh ws rm mc ms n) (hp : PreV s H C b Pc As)
    (hg : g.method = m) (hn : As.length = n) (hsize : g.locals.size = nL) (hstack : g.stack = As.reverse ++ .ref b :: rest) (hW : 2 * g.monitorRoom + (rest.map fun v => v.category).sum ≤ 8) (hdg : decode cc g.pc = .ok (.invokevirtual index, 3)) (hf : cells + mc ≤ R.cells ∧ slots + ms ≤ R.slots) :
    vx_Run p l e R s m args below meth c H locs cells slots mc ms g rest (Qc (Value.ref b :: As).toArray) XC free := by
  obtain ⟨⟨hrc, hrs, hfr, hlo, hws, hcw⟩, hcode, hini, hy, hlen, hl, hin, hse⟩ := cw
  have hK : vx_Back l R p e below s args y 3 8 (PreOf R mc ms Pc) (PostOf Qc mc ms free) (vx_Post XC mc ms free) := vx_backW (hh := hh) (bytes := bytes) (maxL := maxL) (ret := ret) hM hp.1 hrc hrs hfr hlo hws hcw (fun a' U hW => word_at hW (Or.inl (by first | rfl | simp [Cond.onTables, Cond.keeps, Cond.steady])) hini)
  obtain ⟨hx, hb, hml, ho, -⟩ := S
  obtain ⟨-, ⟨cellB, hcB, hoB, hclB⟩, hPc⟩ := hp
  intro T hT X
  rcases vx_callVX X hx (C := C) (hh := hh) (bytes := bytes) (maxL := maxL) (ret := ret) ho hl hin hse hcode hy hK (by rw [hT]; exact hcB) hoB hclB hg (hsize.trans hml.symm) (argsL := As) (rest := rest) (fun sig h => hn.trans (hlen sig h)) hstack hW (by rw [hb]; exact hdg)
    (fun vm₁ hW₁ => ⟨hf.1, hf.2, hPc (T.setVm vm₁) hT hW₁⟩) with ⟨v, vm₁, ⟨U', l2, c2, s2⟩, hW₁, X', ⟨g', mk, t, L, e1, e2, hq, h1, hL, h2, h3⟩, st⟩ | ⟨q, vm₁, ⟨U', l2, c2, s2⟩, hW₁, X', ⟨g', mk, t, L, E, ce, e1, e2, hq, hce, hcv, hcl, h1, hL, h2, h3⟩, st⟩
  · dsimp only [Pt.U, Pt.locs, Pt.cells, Pt.slots] at X' e1 e2 h1 h2 h3 st
    subst h1; subst h2; subst h3
    exact Or.inl ⟨v, (T.setVm vm₁).calling g' mk (Value.ref b :: As).toArray, t, U', L, hT, X', hL, e1, e2, hq, st⟩
  · dsimp only [Pt.U, Pt.locs, Pt.cells, Pt.slots] at X' e1 e2 h1 h2 h3 st hcl
    subst h1; subst h2; subst h3
    exact Or.inr ⟨q, (T.setVm vm₁).calling g' mk (Value.ref b :: As).toArray, t, U', L, E, ce, hT, X', hL, e1, e2, hq, hce, hcv, vx_cls hW₁ hcl, st⟩
theorem vx_runSX {hh : List (Nat × Nat × Nat × Nat)} (S : CallFix p m c cc nL s args Ts own) (hM : vx_Met l y ws rm Pc Qc XC mc ms free) (cw : vx_CSW R s args own index y bytes maxL ret hh ws rm mc ms n) (hp : PreS s H Pc As)
    (hg : g.method = m) (hn : As.length = n) (hsize : g.locals.size = nL) (hstack : g.stack = As.reverse ++ rest) (hW : 2 * g.monitorRoom + (rest.map fun v => v.category).sum ≤ 8) (hdg : decode cc g.pc = .ok (.invokestatic index, 3)) (hf : cells + mc ≤ R.cells ∧ slots + ms ≤ R.slots) :
    vx_Run p l e R s m args below meth c H locs cells slots mc ms g rest (Qc As.toArray) XC free := by
  obtain ⟨⟨hrc, hrs, hfr, hlo, hws, hcw⟩, hcode, hini, hy, hlen, hl, hstt⟩ := cw
  have hK : vx_Back l R p e below s args y 3 8 (PreOf R mc ms Pc) (PostOf Qc mc ms free) (vx_Post XC mc ms free) := vx_backW (hh := hh) (bytes := bytes) (maxL := maxL) (ret := ret) hM hp.1 hrc hrs hfr hlo hws hcw (fun a' U hW => word_at hW (Or.inl (by first | rfl | simp [Cond.onTables, Cond.keeps, Cond.steady])) hini)
  obtain ⟨hx, hb, hml, ho, -⟩ := S
  intro T hT X
  rcases vx_callSX X hx (hh := hh) (bytes := bytes) (maxL := maxL) (ret := ret) ho hl hstt hini hcode hy hK hg (hsize.trans hml.symm) (argsL := As) (rest := rest) (fun sig h => hn.trans (hlen sig h)) hstack hW (by rw [hb]; exact hdg)
    (fun vm₁ hW₁ => ⟨hf.1, hf.2, hp.2 (T.setVm vm₁) hT hW₁⟩) with ⟨v, vm₁, ⟨U', l2, c2, s2⟩, hW₁, X', ⟨g', mk, t, L, e1, e2, hq, h1, hL, h2, h3⟩, st⟩ | ⟨q, vm₁, ⟨U', l2, c2, s2⟩, hW₁, X', ⟨g', mk, t, L, E, ce, e1, e2, hq, hce, hcv, hcl, h1, hL, h2, h3⟩, st⟩
  · dsimp only [Pt.U, Pt.locs, Pt.cells, Pt.slots] at X' e1 e2 h1 h2 h3 st
    subst h1; subst h2; subst h3
    exact Or.inl ⟨v, (T.setVm vm₁).calling g' mk As.toArray, t, U', L, hT, X', hL, e1, e2, hq, st⟩
  · dsimp only [Pt.U, Pt.locs, Pt.cells, Pt.slots] at X' e1 e2 h1 h2 h3 st hcl
    subst h1; subst h2; subst h3
    exact Or.inr ⟨q, (T.setVm vm₁).calling g' mk As.toArray, t, U', L, E, ce, hT, X', hL, e1, e2, hq, hce, hcv, vx_cls hW₁ hcl, st⟩
end
end VXH
theorem vx_ofWH {l : Launch} {y : MethodName} {ws ws' : List Cond} {rm : Room} {Pc : Array Value → State → Prop} {Qc : Array Value → State → Outcome → State → Prop} {XC : String → State → State → Prop} {mc ms : Nat} {free : Addr → Prop} {cc : ByteArray} {maxL : Nat} {ret : Option FieldType} {hh : List (Nat × Nat × Nat × Nat)}
    (hy : plainName y.cls = true) (hw : ws = Cond.codeWith y cc maxL ret hh :: ws')
    (body : ∀ p e s m args below meth c s₁, BodyLoose p l y (headSpec ws rm) cc maxL ret e s m args below meth c s₁ → c.maxLocals = maxL → Pc args s →
      W p l e (headSpec ws rm).room s m args below meth c s.heap [] 0 0 (vx_MQ below Qc XC args s mc ms free) (entryFrame m args maxL)) : vx_Met l y ws rm Pc Qc XC mc ms free := by
  refine MetFree.of_bodyS (code := cc) (maxLocals := maxL) (ret := ret) hy ?_ ?_
  · intro args s m h hn
    obtain ⟨m9, meth, c, hn9, h1, h2, h3, h4, -, h5, h6, -⟩ := Cond.codeWith_spec (atoms_spec (ws := ws) h _ (by rw [hw]; exact List.mem_cons_self))
    cases hn.symm.trans hn9
    exact ⟨meth, c, h1, h2, h3, h4, h5, h6⟩
  · intro p e s m args below meth c s₁ B hml hP _
    have hh0 : s₁.heap = s.heap := by rw [B.state]; rfl
    obtain ⟨t, a1, o, b1, b2, b3⟩ := body p e s m args below meth c s₁ B hml hP s₁ hh0 (Stand.of_body B)
    exact ⟨t, o, a1, b1, b2, b3⟩
/-! ===== END ===== -/
end
section
-- names of classes, fields, methods as TURN printed them; the words; what a method is here
def RX0 : String := "Shardmoor$Chart"
def TX0 : u_T := fun k => match k with
  | 0 => ("Shardmoor$Chart", "firsts", "[I", true)
  | 1 => ("Shardmoor$Chart", "owners", "[I", true)
  | 2 => ("Shardmoor$Chart", "orphans", "[I", true)
  | 3 => ("Shardmoor$Chart", "isCopied", "[Z", true)
  | 4 => ("Shardmoor$Chart", "routerVersions", "[I", true)
  | 5 => ("Shardmoor$Chart", "routerStales", "[I", true)
  | 6 => ("Shardmoor$Chart", "shardsBefore", "[I", true)
  | 7 => ("Shardmoor$Chart", "count", "I", false)
  | 8 => ("Shardmoor$Chart", "version", "I", false)
  | 9 => ("Shardmoor$Chart", "keyField", "I", false)
  | 10 => ("Shardmoor$Chart", "isHashed", "Z", false)
  | 11 => ("Shardmoor$Chart", "moving", "I", false)
  | _ => ("Shardmoor$Chart", "target", "I", false)
def tyX0 : Nat → FieldType := fun k => match k with
  | 0 => .array .int
  | 1 => .array .int
  | 2 => .array .int
  | 3 => .array .boolean
  | 4 => .array .int
  | 5 => .array .int
  | 6 => .array .int
  | 7 => .int
  | 8 => .int
  | 9 => .int
  | 10 => .boolean
  | 11 => .int
  | _ => .int
abbrev wsX00 : List Cond := u_ws RX0 TX0 13
theorem nmX0 : ∀ a, a < 13 → ∀ b, b < 13 → a ≠ b → (TX0 a).2.1 ≠ (TX0 b).2.1 := by decide +kernel
theorem tyX0_ok : ∀ k, k < 13 → parseFieldDescriptor (TX0 k).2.2.1 = some (tyX0 k) := by decide +kernel
abbrev cX0_init : ByteArray := prog_2_method_1_code
def yX0_init : MethodName := ⟨RX0, "<init>", "()V"⟩
abbrev cX0_beginChunks : ByteArray := prog_2_method_2_code
def yX0_beginChunks : MethodName := ⟨RX0, "beginChunks", "()V"⟩
abbrev cX0_size : ByteArray := prog_2_method_3_code
def yX0_size : MethodName := ⟨RX0, "size", "()I"⟩
abbrev cX0_has : ByteArray := prog_2_method_4_code
def yX0_has : MethodName := ⟨RX0, "has", "(I)Z"⟩
abbrev cX0_firstOf : ByteArray := prog_2_method_5_code
def yX0_firstOf : MethodName := ⟨RX0, "firstOf", "(I)I"⟩
abbrev cX0_endOf : ByteArray := prog_2_method_6_code
def yX0_endOf : MethodName := ⟨RX0, "endOf", "(I)I"⟩
abbrev cX0_ownerOf : ByteArray := prog_2_method_7_code
def yX0_ownerOf : MethodName := ⟨RX0, "ownerOf", "(I)I"⟩
abbrev cX0_keyOf : ByteArray := prog_2_method_8_code
def yX0_keyOf : MethodName := ⟨RX0, "keyOf", "(LShardmoor$Value;)I"⟩
abbrev cX0_chunkOf : ByteArray := prog_2_method_9_code
def yX0_chunkOf : MethodName := ⟨RX0, "chunkOf", "(LShardmoor$Value;)I"⟩
abbrev cX0_shardOf : ByteArray := prog_2_method_10_code
def yX0_shardOf : MethodName := ⟨RX0, "shardOf", "(LShardmoor$Value;)I"⟩
abbrev cX0_countIn : ByteArray := prog_2_method_11_code
def yX0_countIn : MethodName := ⟨RX0, "countIn", "(LShardmoor$Store;I)I"⟩
abbrev cX0_countAt : ByteArray := prog_2_method_12_code
def yX0_countAt : MethodName := ⟨RX0, "countAt", "(LShardmoor$Store;I)I"⟩
abbrev cX0_cut : ByteArray := prog_2_method_13_code
def yX0_cut : MethodName := ⟨RX0, "cut", "(II)V"⟩
abbrev cX0_hasMove : ByteArray := prog_2_method_14_code
def yX0_hasMove : MethodName := ⟨RX0, "hasMove", "()Z"⟩
abbrev cX0_isMoving : ByteArray := prog_2_method_15_code
def yX0_isMoving : MethodName := ⟨RX0, "isMoving", "(I)Z"⟩
abbrev cX0_beginMove : ByteArray := prog_2_method_16_code
def yX0_beginMove : MethodName := ⟨RX0, "beginMove", "(II)V"⟩
abbrev cX0_isLeft : ByteArray := prog_2_method_17_code
def yX0_isLeft : MethodName := ⟨RX0, "isLeft", "(LShardmoor$Store;I)Z"⟩
abbrev cX0_countLeft : ByteArray := prog_2_method_18_code
def yX0_countLeft : MethodName := ⟨RX0, "countLeft", "(LShardmoor$Store;)I"⟩
abbrev cX0_copySome : ByteArray := prog_2_method_19_code
def yX0_copySome : MethodName := ⟨RX0, "copySome", "(LShardmoor$Store;I)V"⟩
abbrev cX0_copyAtOnce : ByteArray := prog_2_method_20_code
def yX0_copyAtOnce : MethodName := ⟨RX0, "copyAtOnce", "(ILShardmoor$Value;)V"⟩
abbrev cX0_dropCopy : ByteArray := prog_2_method_21_code
def yX0_dropCopy : MethodName := ⟨RX0, "dropCopy", "(I)V"⟩
abbrev cX0_finishMove : ByteArray := prog_2_method_22_code
def yX0_finishMove : MethodName := ⟨RX0, "finishMove", "(LShardmoor$Store;)I"⟩
abbrev cX0_endMove : ByteArray := prog_2_method_23_code
def yX0_endMove : MethodName := ⟨RX0, "endMove", "()I"⟩
abbrev cX0_copiesAt : ByteArray := prog_2_method_24_code
def yX0_copiesAt : MethodName := ⟨RX0, "copiesAt", "(I)I"⟩
abbrev cX0_orphansOf : ByteArray := prog_2_method_25_code
def yX0_orphansOf : MethodName := ⟨RX0, "orphansOf", "(I)I"⟩
abbrev cX0_takeOrphans : ByteArray := prog_2_method_26_code
def yX0_takeOrphans : MethodName := ⟨RX0, "takeOrphans", "(I)I"⟩
abbrev cX0_shardAnew : ByteArray := prog_2_method_27_code
def yX0_shardAnew : MethodName := ⟨RX0, "shardAnew", "(LShardmoor$Store;IZ)I"⟩
abbrev cX0_useRouter : ByteArray := prog_2_method_28_code
def yX0_useRouter : MethodName := ⟨RX0, "useRouter", "(I)V"⟩
abbrev cX0_routerVersion : ByteArray := prog_2_method_29_code
def yX0_routerVersion : MethodName := ⟨RX0, "routerVersion", "(I)I"⟩
abbrev cX0_routerStale : ByteArray := prog_2_method_30_code
def yX0_routerStale : MethodName := ⟨RX0, "routerStale", "(I)I"⟩
def RX1 : String := "Shardmoor$Editor"
def TX1 : u_T := fun k => match k with
  | 0 => ("Shardmoor$Editor", "draft", "LShardmoor$Value;", true)
  | _ => ("Shardmoor$Editor", "made", "LShardmoor$Value;", true)
def tyX1 : Nat → FieldType := fun k => match k with
  | 0 => .object "Shardmoor$Value"
  | _ => .object "Shardmoor$Value"
abbrev wsX10 : List Cond := u_ws RX1 TX1 2
theorem nmX1 : ∀ a, a < 2 → ∀ b, b < 2 → a ≠ b → (TX1 a).2.1 ≠ (TX1 b).2.1 := by decide +kernel
theorem tyX1_ok : ∀ k, k < 2 → parseFieldDescriptor (TX1 k).2.2.1 = some (tyX1 k) := by decide +kernel
abbrev cX1_init : ByteArray := prog_3_method_1_code
def yX1_init : MethodName := ⟨RX1, "<init>", "()V"⟩
abbrev cX1_edited : ByteArray := prog_3_method_2_code
def yX1_edited : MethodName := ⟨RX1, "edited", "()LShardmoor$Value;"⟩
abbrev cX1_canEdit : ByteArray := prog_3_method_3_code
def yX1_canEdit : MethodName := ⟨RX1, "canEdit", "(LShardmoor$Value;IILShardmoor$Value;)Z"⟩
abbrev cX1_editField : ByteArray := prog_3_method_4_code
def yX1_editField : MethodName := ⟨RX1, "editField", "(IIILShardmoor$Value;)Z"⟩
abbrev cX1_addTo : ByteArray := prog_3_method_5_code
def yX1_addTo : MethodName := ⟨RX1, "addTo", "(III)Z"⟩
abbrev cX1_addAt : ByteArray := prog_3_method_6_code
def yX1_addAt : MethodName := ⟨RX1, "addAt", "(II)Z"⟩
abbrev cX1_pushTo : ByteArray := prog_3_method_7_code
def yX1_pushTo : MethodName := ⟨RX1, "pushTo", "(IILShardmoor$Value;)Z"⟩
abbrev cX1_pullFrom : ByteArray := prog_3_method_8_code
def yX1_pullFrom : MethodName := ⟨RX1, "pullFrom", "(ILShardmoor$Value;)Z"⟩
abbrev cX1_addToEach : ByteArray := prog_3_method_9_code
def yX1_addToEach : MethodName := ⟨RX1, "addToEach", "(II)Z"⟩
def RX2 : String := "Shardmoor$Filter"
def TX2 : u_T := fun k => match k with
  | 0 => ("Shardmoor$Filter", "value", "LShardmoor$Value;", true)
  | 1 => ("Shardmoor$Filter", "path", "I", false)
  | _ => ("Shardmoor$Filter", "relation", "I", false)
def tyX2 : Nat → FieldType := fun k => match k with
  | 0 => .object "Shardmoor$Value"
  | 1 => .int
  | _ => .int
abbrev wsX20 : List Cond := u_ws RX2 TX2 3
theorem nmX2 : ∀ a, a < 3 → ∀ b, b < 3 → a ≠ b → (TX2 a).2.1 ≠ (TX2 b).2.1 := by decide +kernel
theorem tyX2_ok : ∀ k, k < 3 → parseFieldDescriptor (TX2 k).2.2.1 = some (tyX2 k) := by decide +kernel
abbrev cX2_init : ByteArray := prog_4_method_1_code
def yX2_init : MethodName := ⟨RX2, "<init>", "()V"⟩
abbrev cX2_become : ByteArray := prog_4_method_2_code
def yX2_become : MethodName := ⟨RX2, "become", "(IILShardmoor$Value;)V"⟩
abbrev cX2_shape : ByteArray := prog_4_method_3_code
def yX2_shape : MethodName := ⟨RX2, "shape", "()I"⟩
abbrev cX2_isFor : ByteArray := prog_4_method_4_code
def yX2_isFor : MethodName := ⟨RX2, "isFor", "(I)Z"⟩
abbrev cX2_fitsSome : ByteArray := prog_4_method_5_code
def yX2_fitsSome : MethodName := ⟨RX2, "fitsSome", "(LShardmoor$Value;LShardmoor$Places;)Z"⟩
abbrev cX2_fitsNothing : ByteArray := prog_4_method_6_code
def yX2_fitsNothing : MethodName := ⟨RX2, "fitsNothing", "()Z"⟩
abbrev cX2_fits : ByteArray := prog_4_method_7_code
def yX2_fits : MethodName := ⟨RX2, "fits", "(LShardmoor$Value;I)Z"⟩
abbrev cX2_isBeyond : ByteArray := prog_4_method_8_code
def yX2_isBeyond : MethodName := ⟨RX2, "isBeyond", "(I)Z"⟩
def RX3 : String := "Shardmoor$Groups"
def TX3 : u_T := fun k => match k with
  | 0 => ("Shardmoor$Groups", "prints", "[J", true)
  | 1 => ("Shardmoor$Groups", "times", "[I", true)
  | 2 => ("Shardmoor$Groups", "sums", "[J", true)
  | 3 => ("Shardmoor$Groups", "owners", "[I", true)
  | 4 => ("Shardmoor$Groups", "ownPlaces", "[I", true)
  | 5 => ("Shardmoor$Groups", "places", "LShardmoor$Places;", true)
  | _ => ("Shardmoor$Groups", "count", "I", false)
def tyX3 : Nat → FieldType := fun k => match k with
  | 0 => .array .long
  | 1 => .array .int
  | 2 => .array .long
  | 3 => .array .int
  | 4 => .array .int
  | 5 => .object "Shardmoor$Places"
  | _ => .int
abbrev wsX30 : List Cond := u_ws RX3 TX3 7
theorem nmX3 : ∀ a, a < 7 → ∀ b, b < 7 → a ≠ b → (TX3 a).2.1 ≠ (TX3 b).2.1 := by decide +kernel
theorem tyX3_ok : ∀ k, k < 7 → parseFieldDescriptor (TX3 k).2.2.1 = some (tyX3 k) := by decide +kernel
abbrev cX3_init : ByteArray := prog_5_method_1_code
def yX3_init : MethodName := ⟨RX3, "<init>", "()V"⟩
abbrev cX3_size : ByteArray := prog_5_method_2_code
def yX3_size : MethodName := ⟨RX3, "size", "()I"⟩
abbrev cX3_tell : ByteArray := prog_5_method_3_code
def yX3_tell : MethodName := ⟨RX3, "tell", "(II)J"⟩
abbrev cX3_build : ByteArray := prog_5_method_4_code
def yX3_build : MethodName := ⟨RX3, "build", "(LShardmoor$Store;LShardmoor$Query;II)I"⟩
abbrev cX3_sumOf : ByteArray := prog_5_method_5_code
def yX3_sumOf : MethodName := ⟨RX3, "sumOf", "(LShardmoor$Value;I)J"⟩
abbrev cX3_takeIn : ByteArray := prog_5_method_6_code
def yX3_takeIn : MethodName := ⟨RX3, "takeIn", "(LShardmoor$Store;IIJ)V"⟩
abbrev cX3_groupFor : ByteArray := prog_5_method_7_code
def yX3_groupFor : MethodName := ⟨RX3, "groupFor", "(LShardmoor$Store;II)I"⟩
abbrev cX3_orderTo : ByteArray := prog_5_method_8_code
def yX3_orderTo : MethodName := ⟨RX3, "orderTo", "(LShardmoor$Store;ILShardmoor$Value;I)I"⟩
abbrev cX3_makeGroup : ByteArray := prog_5_method_9_code
def yX3_makeGroup : MethodName := ⟨RX3, "makeGroup", "(III)I"⟩
def RX4 : String := "Shardmoor$Indexes"
def TX4 : u_T := fun k => match k with
  | 0 => ("Shardmoor$Indexes", "paths", "[I", true)
  | 1 => ("Shardmoor$Indexes", "isSparse", "[Z", true)
  | 2 => ("Shardmoor$Indexes", "planShapes", "[I", true)
  | 3 => ("Shardmoor$Indexes", "planIndexes", "[I", true)
  | 4 => ("Shardmoor$Indexes", "planLooks", "[I", true)
  | 5 => ("Shardmoor$Indexes", "places", "LShardmoor$Places;", true)
  | _ => ("Shardmoor$Indexes", "plans", "I", false)
def tyX4 : Nat → FieldType := fun k => match k with
  | 0 => .array .int
  | 1 => .array .boolean
  | 2 => .array .int
  | 3 => .array .int
  | 4 => .array .int
  | 5 => .object "Shardmoor$Places"
  | _ => .int
abbrev wsX40 : List Cond := u_ws RX4 TX4 7
theorem nmX4 : ∀ a, a < 7 → ∀ b, b < 7 → a ≠ b → (TX4 a).2.1 ≠ (TX4 b).2.1 := by decide +kernel
theorem tyX4_ok : ∀ k, k < 7 → parseFieldDescriptor (TX4 k).2.2.1 = some (tyX4 k) := by decide +kernel
abbrev cX4_init : ByteArray := prog_6_method_1_code
def yX4_init : MethodName := ⟨RX4, "<init>", "()V"⟩
abbrev cX4_has : ByteArray := prog_6_method_2_code
def yX4_has : MethodName := ⟨RX4, "has", "(I)Z"⟩
abbrev cX4_pathOf : ByteArray := prog_6_method_3_code
def yX4_pathOf : MethodName := ⟨RX4, "pathOf", "(I)I"⟩
abbrev cX4_hasPath : ByteArray := prog_6_method_4_code
def yX4_hasPath : MethodName := ⟨RX4, "hasPath", "(I)Z"⟩
abbrev cX4_lowestFree : ByteArray := prog_6_method_5_code
def yX4_lowestFree : MethodName := ⟨RX4, "lowestFree", "()I"⟩
abbrev cX4_make : ByteArray := prog_6_method_6_code
def yX4_make : MethodName := ⟨RX4, "make", "(IIZ)V"⟩
abbrev cX4_abolish : ByteArray := prog_6_method_7_code
def yX4_abolish : MethodName := ⟨RX4, "abolish", "(I)I"⟩
abbrev cX4_countEntries : ByteArray := prog_6_method_8_code
def yX4_countEntries : MethodName := ⟨RX4, "countEntries", "(LShardmoor$Store;I)I"⟩
abbrev cX4_entriesFor : ByteArray := prog_6_method_9_code
def yX4_entriesFor : MethodName := ⟨RX4, "entriesFor", "(LShardmoor$Value;I)I"⟩
abbrev cX4_isFirst : ByteArray := prog_6_method_10_code
def yX4_isFirst : MethodName := ⟨RX4, "isFirst", "(LShardmoor$Value;I)Z"⟩
abbrev cX4_hasEntryForNone : ByteArray := prog_6_method_11_code
def yX4_hasEntryForNone : MethodName := ⟨RX4, "hasEntryForNone", "(I)Z"⟩
abbrev cX4_countLooked : ByteArray := prog_6_method_12_code
def yX4_countLooked : MethodName := ⟨RX4, "countLooked", "(LShardmoor$Store;ILShardmoor$Filter;)I"⟩
abbrev cX4_plansKept : ByteArray := prog_6_method_13_code
def yX4_plansKept : MethodName := ⟨RX4, "plansKept", "()I"⟩
abbrev cX4_planFor : ByteArray := prog_6_method_14_code
def yX4_planFor : MethodName := ⟨RX4, "planFor", "(I)I"⟩
abbrev cX4_indexOfPlan : ByteArray := prog_6_method_15_code
def yX4_indexOfPlan : MethodName := ⟨RX4, "indexOfPlan", "(I)I"⟩
abbrev cX4_looksOfPlan : ByteArray := prog_6_method_16_code
def yX4_looksOfPlan : MethodName := ⟨RX4, "looksOfPlan", "(I)I"⟩
abbrev cX4_keepPlan : ByteArray := prog_6_method_17_code
def yX4_keepPlan : MethodName := ⟨RX4, "keepPlan", "(III)V"⟩
abbrev cX4_forgetPlan : ByteArray := prog_6_method_18_code
def yX4_forgetPlan : MethodName := ⟨RX4, "forgetPlan", "(I)V"⟩
def RX5 : String := "Shardmoor$Pile"
def TX5 : u_T := fun k => match k with
  | 0 => ("Shardmoor$Pile", "values", "[LShardmoor$Value;", true)
  | 1 => ("Shardmoor$Pile", "none", "LShardmoor$Value;", true)
  | _ => ("Shardmoor$Pile", "size", "I", false)
def tyX5 : Nat → FieldType := fun k => match k with
  | 0 => .array (.object "Shardmoor$Value")
  | 1 => .object "Shardmoor$Value"
  | _ => .int
abbrev wsX50 : List Cond := u_ws RX5 TX5 3
theorem nmX5 : ∀ a, a < 3 → ∀ b, b < 3 → a ≠ b → (TX5 a).2.1 ≠ (TX5 b).2.1 := by decide +kernel
theorem tyX5_ok : ∀ k, k < 3 → parseFieldDescriptor (TX5 k).2.2.1 = some (tyX5 k) := by decide +kernel
abbrev cX5_init : ByteArray := prog_7_method_1_code
def yX5_init : MethodName := ⟨RX5, "<init>", "()V"⟩
abbrev cX5_isEmpty : ByteArray := prog_7_method_2_code
def yX5_isEmpty : MethodName := ⟨RX5, "isEmpty", "()Z"⟩
abbrev cX5_isFull : ByteArray := prog_7_method_3_code
def yX5_isFull : MethodName := ⟨RX5, "isFull", "()Z"⟩
abbrev cX5_put : ByteArray := prog_7_method_4_code
def yX5_put : MethodName := ⟨RX5, "put", "(I)I"⟩
abbrev cX5_top : ByteArray := prog_7_method_5_code
def yX5_top : MethodName := ⟨RX5, "top", "()LShardmoor$Value;"⟩
abbrev cX5_below : ByteArray := prog_7_method_6_code
def yX5_below : MethodName := ⟨RX5, "below", "()LShardmoor$Value;"⟩
abbrev cX5_at : ByteArray := prog_7_method_7_code
def yX5_at : MethodName := ⟨RX5, "at", "(I)LShardmoor$Value;"⟩
abbrev cX5_takeTop : ByteArray := prog_7_method_8_code
def yX5_takeTop : MethodName := ⟨RX5, "takeTop", "()I"⟩
abbrev cX5_takeAll : ByteArray := prog_7_method_9_code
def yX5_takeAll : MethodName := ⟨RX5, "takeAll", "()I"⟩
def RX6 : String := "Shardmoor$Places"
def TX6 : u_T := fun k => match k with
  | 0 => ("Shardmoor$Places", "places", "[I", true)
  | _ => ("Shardmoor$Places", "count", "I", false)
def tyX6 : Nat → FieldType := fun k => match k with
  | 0 => .array .int
  | _ => .int
abbrev wsX60 : List Cond := u_ws RX6 TX6 2
theorem nmX6 : ∀ a, a < 2 → ∀ b, b < 2 → a ≠ b → (TX6 a).2.1 ≠ (TX6 b).2.1 := by decide +kernel
theorem tyX6_ok : ∀ k, k < 2 → parseFieldDescriptor (TX6 k).2.2.1 = some (tyX6 k) := by decide +kernel
abbrev cX6_init : ByteArray := prog_8_method_1_code
def yX6_init : MethodName := ⟨RX6, "<init>", "()V"⟩
abbrev cX6_size : ByteArray := prog_8_method_2_code
def yX6_size : MethodName := ⟨RX6, "size", "()I"⟩
abbrev cX6_at : ByteArray := prog_8_method_3_code
def yX6_at : MethodName := ⟨RX6, "at", "(I)I"⟩
abbrev cX6_gather : ByteArray := prog_8_method_4_code
def yX6_gather : MethodName := ⟨RX6, "gather", "(LShardmoor$Value;I)V"⟩
abbrev cX6_takeOfEach : ByteArray := prog_8_method_5_code
def yX6_takeOfEach : MethodName := ⟨RX6, "takeOfEach", "(LShardmoor$Value;II)V"⟩
abbrev cX6_take : ByteArray := prog_8_method_6_code
def yX6_take : MethodName := ⟨RX6, "take", "(LShardmoor$Value;I)V"⟩
abbrev cX6_note : ByteArray := prog_8_method_7_code
def yX6_note : MethodName := ⟨RX6, "note", "(I)V"⟩
def RX7 : String := "Shardmoor$Query"
def TX7 : u_T := fun k => match k with
  | 0 => ("Shardmoor$Query", "filters", "[LShardmoor$Filter;", true)
  | 1 => ("Shardmoor$Query", "none", "LShardmoor$Filter;", true)
  | 2 => ("Shardmoor$Query", "places", "LShardmoor$Places;", true)
  | 3 => ("Shardmoor$Query", "numbers", "[I", true)
  | 4 => ("Shardmoor$Query", "size", "I", false)
  | 5 => ("Shardmoor$Query", "foundSize", "I", false)
  | 6 => ("Shardmoor$Query", "usedIndex", "I", false)
  | 7 => ("Shardmoor$Query", "looked", "I", false)
  | 8 => ("Shardmoor$Query", "tried", "I", false)
  | _ => ("Shardmoor$Query", "isDropped", "Z", false)
def tyX7 : Nat → FieldType := fun k => match k with
  | 0 => .array (.object "Shardmoor$Filter")
  | 1 => .object "Shardmoor$Filter"
  | 2 => .object "Shardmoor$Places"
  | 3 => .array .int
  | 4 => .int
  | 5 => .int
  | 6 => .int
  | 7 => .int
  | 8 => .int
  | _ => .boolean
abbrev wsX70 : List Cond := u_ws RX7 TX7 10
theorem nmX7 : ∀ a, a < 10 → ∀ b, b < 10 → a ≠ b → (TX7 a).2.1 ≠ (TX7 b).2.1 := by decide +kernel
theorem tyX7_ok : ∀ k, k < 10 → parseFieldDescriptor (TX7 k).2.2.1 = some (tyX7 k) := by decide +kernel
abbrev cX7_init : ByteArray := prog_9_method_1_code
def yX7_init : MethodName := ⟨RX7, "<init>", "()V"⟩
abbrev cX7_size : ByteArray := prog_9_method_2_code
def yX7_size : MethodName := ⟨RX7, "size", "()I"⟩
abbrev cX7_isFull : ByteArray := prog_9_method_3_code
def yX7_isFull : MethodName := ⟨RX7, "isFull", "()Z"⟩
abbrev cX7_addFilter : ByteArray := prog_9_method_4_code
def yX7_addFilter : MethodName := ⟨RX7, "addFilter", "(IILShardmoor$Value;)V"⟩
abbrev cX7_filterAt : ByteArray := prog_9_method_5_code
def yX7_filterAt : MethodName := ⟨RX7, "filterAt", "(I)LShardmoor$Filter;"⟩
abbrev cX7_takeAllFilters : ByteArray := prog_9_method_6_code
def yX7_takeAllFilters : MethodName := ⟨RX7, "takeAllFilters", "()I"⟩
abbrev cX7_foundSize : ByteArray := prog_9_method_7_code
def yX7_foundSize : MethodName := ⟨RX7, "foundSize", "()I"⟩
abbrev cX7_foundAt : ByteArray := prog_9_method_8_code
def yX7_foundAt : MethodName := ⟨RX7, "foundAt", "(I)I"⟩
abbrev cX7_latest : ByteArray := prog_9_method_9_code
def yX7_latest : MethodName := ⟨RX7, "latest", "(I)I"⟩
abbrev cX7_countFitting : ByteArray := prog_9_method_10_code
def yX7_countFitting : MethodName := ⟨RX7, "countFitting", "(LShardmoor$Store;)I"⟩
abbrev cX7_search : ByteArray := prog_9_method_11_code
def yX7_search : MethodName := ⟨RX7, "search", "(LShardmoor$Store;)I"⟩
abbrev cX7_fitsAll : ByteArray := prog_9_method_12_code
def yX7_fitsAll : MethodName := ⟨RX7, "fitsAll", "(LShardmoor$Value;)Z"⟩
abbrev cX7_shape : ByteArray := prog_9_method_13_code
def yX7_shape : MethodName := ⟨RX7, "shape", "()I"⟩
abbrev cX7_choosePlan : ByteArray := prog_9_method_14_code
def yX7_choosePlan : MethodName := ⟨RX7, "choosePlan", "(LShardmoor$Store;LShardmoor$Indexes;)V"⟩
abbrev cX7_tryPlans : ByteArray := prog_9_method_15_code
def yX7_tryPlans : MethodName := ⟨RX7, "tryPlans", "(LShardmoor$Store;LShardmoor$Indexes;)V"⟩
abbrev cX7_tryPlan : ByteArray := prog_9_method_16_code
def yX7_tryPlan : MethodName := ⟨RX7, "tryPlan", "(II)V"⟩
abbrev cX7_filterFor : ByteArray := prog_9_method_17_code
def yX7_filterFor : MethodName := ⟨RX7, "filterFor", "(ILShardmoor$Indexes;)LShardmoor$Filter;"⟩
def RX8 : String := "Shardmoor$Store"
def TX8 : u_T := fun k => match k with
  | 0 => ("Shardmoor$Store", "values", "[LShardmoor$Value;", true)
  | 1 => ("Shardmoor$Store", "isThere", "[Z", true)
  | 2 => ("Shardmoor$Store", "rules", "[I", true)
  | 3 => ("Shardmoor$Store", "none", "LShardmoor$Value;", true)
  | _ => ("Shardmoor$Store", "count", "I", false)
def tyX8 : Nat → FieldType := fun k => match k with
  | 0 => .array (.object "Shardmoor$Value")
  | 1 => .array .boolean
  | 2 => .array .int
  | 3 => .object "Shardmoor$Value"
  | _ => .int
abbrev wsX80 : List Cond := u_ws RX8 TX8 5
theorem nmX8 : ∀ a, a < 5 → ∀ b, b < 5 → a ≠ b → (TX8 a).2.1 ≠ (TX8 b).2.1 := by decide +kernel
theorem tyX8_ok : ∀ k, k < 5 → parseFieldDescriptor (TX8 k).2.2.1 = some (tyX8 k) := by decide +kernel
abbrev cX8_init : ByteArray := prog_10_method_1_code
def yX8_init : MethodName := ⟨RX8, "<init>", "()V"⟩
abbrev cX8_size : ByteArray := prog_10_method_2_code
def yX8_size : MethodName := ⟨RX8, "size", "()I"⟩
abbrev cX8_has : ByteArray := prog_10_method_3_code
def yX8_has : MethodName := ⟨RX8, "has", "(I)Z"⟩
abbrev cX8_at : ByteArray := prog_10_method_4_code
def yX8_at : MethodName := ⟨RX8, "at", "(I)LShardmoor$Value;"⟩
abbrev cX8_put : ByteArray := prog_10_method_5_code
def yX8_put : MethodName := ⟨RX8, "put", "(ILShardmoor$Value;)V"⟩
abbrev cX8_takeOut : ByteArray := prog_10_method_6_code
def yX8_takeOut : MethodName := ⟨RX8, "takeOut", "(I)V"⟩
abbrev cX8_keepsRules : ByteArray := prog_10_method_7_code
def yX8_keepsRules : MethodName := ⟨RX8, "keepsRules", "(LShardmoor$Value;)Z"⟩
abbrev cX8_allKeep : ByteArray := prog_10_method_8_code
def yX8_allKeep : MethodName := ⟨RX8, "allKeep", "(II)Z"⟩
abbrev cX8_keeps : ByteArray := prog_10_method_9_code
def yX8_keeps : MethodName := ⟨RX8, "keeps", "(LShardmoor$Value;II)Z"⟩
abbrev cX8_setRule : ByteArray := prog_10_method_10_code
def yX8_setRule : MethodName := ⟨RX8, "setRule", "(II)I"⟩
def RX9 : String := "Shardmoor$Stream"
def TX9 : u_T := fun k => match k with
  | 0 => ("Shardmoor$Stream", "whats", "[I", true)
  | 1 => ("Shardmoor$Stream", "numbers", "[I", true)
  | 2 => ("Shardmoor$Stream", "shards", "[I", true)
  | _ => ("Shardmoor$Stream", "count", "I", false)
def tyX9 : Nat → FieldType := fun k => match k with
  | 0 => .array .int
  | 1 => .array .int
  | 2 => .array .int
  | _ => .int
abbrev wsX90 : List Cond := u_ws RX9 TX9 4
theorem nmX9 : ∀ a, a < 4 → ∀ b, b < 4 → a ≠ b → (TX9 a).2.1 ≠ (TX9 b).2.1 := by decide +kernel
theorem tyX9_ok : ∀ k, k < 4 → parseFieldDescriptor (TX9 k).2.2.1 = some (tyX9 k) := by decide +kernel
abbrev cX9_init : ByteArray := prog_11_method_1_code
def yX9_init : MethodName := ⟨RX9, "<init>", "()V"⟩
abbrev cX9_put : ByteArray := prog_11_method_2_code
def yX9_put : MethodName := ⟨RX9, "put", "(III)V"⟩
abbrev cX9_has : ByteArray := prog_11_method_3_code
def yX9_has : MethodName := ⟨RX9, "has", "(I)Z"⟩
abbrev cX9_firstBehind : ByteArray := prog_11_method_4_code
def yX9_firstBehind : MethodName := ⟨RX9, "firstBehind", "(I)I"⟩
abbrev cX9_tell : ByteArray := prog_11_method_5_code
def yX9_tell : MethodName := ⟨RX9, "tell", "(II)I"⟩
def RX10 : String := "Shardmoor$Value"
def TX10 : u_T := fun k => match k with
  | 0 => ("Shardmoor$Value", "signs", "[I", true)
  | _ => ("Shardmoor$Value", "length", "I", false)
def tyX10 : Nat → FieldType := fun k => match k with
  | 0 => .array .int
  | _ => .int
abbrev wsX100 : List Cond := u_ws RX10 TX10 2
theorem nmX10 : ∀ a, a < 2 → ∀ b, b < 2 → a ≠ b → (TX10 a).2.1 ≠ (TX10 b).2.1 := by decide +kernel
theorem tyX10_ok : ∀ k, k < 2 → parseFieldDescriptor (TX10 k).2.2.1 = some (tyX10 k) := by decide +kernel
abbrev cX10_init : ByteArray := prog_12_method_1_code
def yX10_init : MethodName := ⟨RX10, "<init>", "(I)V"⟩
abbrev cX10_turnOf : ByteArray := prog_12_method_2_code
def yX10_turnOf : MethodName := ⟨RX10, "turnOf", "(I)I"⟩
abbrev cX10_order : ByteArray := prog_12_method_3_code
def yX10_order : MethodName := ⟨RX10, "order", "(LShardmoor$Value;ILShardmoor$Value;I)I"⟩
abbrev cX10_signAt : ByteArray := prog_12_method_4_code
def yX10_signAt : MethodName := ⟨RX10, "signAt", "(I)I"⟩
abbrev cX10_kindAt : ByteArray := prog_12_method_5_code
def yX10_kindAt : MethodName := ⟨RX10, "kindAt", "(I)I"⟩
abbrev cX10_numberAt : ByteArray := prog_12_method_6_code
def yX10_numberAt : MethodName := ⟨RX10, "numberAt", "(I)I"⟩
abbrev cX10_wordAt : ByteArray := prog_12_method_7_code
def yX10_wordAt : MethodName := ⟨RX10, "wordAt", "(I)I"⟩
abbrev cX10_endOf : ByteArray := prog_12_method_8_code
def yX10_endOf : MethodName := ⟨RX10, "endOf", "(I)I"⟩
abbrev cX10_parts : ByteArray := prog_12_method_9_code
def yX10_parts : MethodName := ⟨RX10, "parts", "()I"⟩
abbrev cX10_partsAt : ByteArray := prog_12_method_10_code
def yX10_partsAt : MethodName := ⟨RX10, "partsAt", "(I)I"⟩
abbrev cX10_widthAt : ByteArray := prog_12_method_11_code
def yX10_widthAt : MethodName := ⟨RX10, "widthAt", "(I)I"⟩
abbrev cX10_slotOf : ByteArray := prog_12_method_12_code
def yX10_slotOf : MethodName := ⟨RX10, "slotOf", "(II)I"⟩
abbrev cX10_placeOf : ByteArray := prog_12_method_13_code
def yX10_placeOf : MethodName := ⟨RX10, "placeOf", "(II)I"⟩
abbrev cX10_printAt : ByteArray := prog_12_method_14_code
def yX10_printAt : MethodName := ⟨RX10, "printAt", "(I)J"⟩
abbrev cX10_printOn : ByteArray := prog_12_method_15_code
def yX10_printOn : MethodName := ⟨RX10, "printOn", "(JII)J"⟩
abbrev cX10_become : ByteArray := prog_12_method_16_code
def yX10_become : MethodName := ⟨RX10, "become", "(I)V"⟩
abbrev cX10_become_ : ByteArray := prog_12_method_17_code
def yX10_become_ : MethodName := ⟨RX10, "become", "(LShardmoor$Value;)V"⟩
abbrev cX10_setSign : ByteArray := prog_12_method_18_code
def yX10_setSign : MethodName := ⟨RX10, "setSign", "(II)V"⟩
abbrev cX10_putSign : ByteArray := prog_12_method_19_code
def yX10_putSign : MethodName := ⟨RX10, "putSign", "(II)V"⟩
abbrev cX10_putValue : ByteArray := prog_12_method_20_code
def yX10_putValue : MethodName := ⟨RX10, "putValue", "(IILShardmoor$Value;)V"⟩
abbrev cX10_takeOut : ByteArray := prog_12_method_21_code
def yX10_takeOut : MethodName := ⟨RX10, "takeOut", "(II)V"⟩
abbrev cX10_makeRoom : ByteArray := prog_12_method_22_code
def yX10_makeRoom : MethodName := ⟨RX10, "makeRoom", "(III)V"⟩
abbrev cX10_putBehind : ByteArray := prog_12_method_23_code
def yX10_putBehind : MethodName := ⟨RX10, "putBehind", "(ILShardmoor$Value;)V"⟩
abbrev cX10_setField : ByteArray := prog_12_method_24_code
def yX10_setField : MethodName := ⟨RX10, "setField", "(IILShardmoor$Value;)V"⟩
abbrev cX10_takeField : ByteArray := prog_12_method_25_code
def yX10_takeField : MethodName := ⟨RX10, "takeField", "(II)V"⟩
def RX11 : String := "Shardmoor"
def TX11 : u_T := fun k => match k with
  | 0 => ("Shardmoor", "pile", "LShardmoor$Pile;", true)
  | 1 => ("Shardmoor", "store", "LShardmoor$Store;", true)
  | 2 => ("Shardmoor", "chart", "LShardmoor$Chart;", true)
  | 3 => ("Shardmoor", "stream", "LShardmoor$Stream;", true)
  | 4 => ("Shardmoor", "editor", "LShardmoor$Editor;", true)
  | 5 => ("Shardmoor", "indexes", "LShardmoor$Indexes;", true)
  | 6 => ("Shardmoor", "query", "LShardmoor$Query;", true)
  | 7 => ("Shardmoor", "groups", "LShardmoor$Groups;", true)
  | 8 => ("Shardmoor", "expiringField", "I", false)
  | _ => ("Shardmoor", "ticked", "I", false)
def tyX11 : Nat → FieldType := fun k => match k with
  | 0 => .object "Shardmoor$Pile"
  | 1 => .object "Shardmoor$Store"
  | 2 => .object "Shardmoor$Chart"
  | 3 => .object "Shardmoor$Stream"
  | 4 => .object "Shardmoor$Editor"
  | 5 => .object "Shardmoor$Indexes"
  | 6 => .object "Shardmoor$Query"
  | 7 => .object "Shardmoor$Groups"
  | 8 => .int
  | _ => .int
abbrev wsX110 : List Cond := u_ws RX11 TX11 10
theorem nmX11 : ∀ a, a < 10 → ∀ b, b < 10 → a ≠ b → (TX11 a).2.1 ≠ (TX11 b).2.1 := by decide +kernel
theorem tyX11_ok : ∀ k, k < 10 → parseFieldDescriptor (TX11 k).2.2.1 = some (tyX11 k) := by decide +kernel
abbrev cX11_init : ByteArray := prog_1_method_1_code
def yX11_init : MethodName := ⟨RX11, "<init>", "()V"⟩
abbrev cX11_nothing : ByteArray := prog_1_method_2_code
def yX11_nothing : MethodName := ⟨RX11, "nothing", "()I"⟩
abbrev cX11_number : ByteArray := prog_1_method_3_code
def yX11_number : MethodName := ⟨RX11, "number", "(I)I"⟩
abbrev cX11_word : ByteArray := prog_1_method_4_code
def yX11_word : MethodName := ⟨RX11, "word", "(I)I"⟩
abbrev cX11_row : ByteArray := prog_1_method_5_code
def yX11_row : MethodName := ⟨RX11, "row", "()I"⟩
abbrev cX11_object : ByteArray := prog_1_method_6_code
def yX11_object : MethodName := ⟨RX11, "object", "()I"⟩
abbrev cX11_add : ByteArray := prog_1_method_7_code
def yX11_add : MethodName := ⟨RX11, "add", "()I"⟩
abbrev cX11_give : ByteArray := prog_1_method_8_code
def yX11_give : MethodName := ⟨RX11, "give", "(I)I"⟩
abbrev cX11_drop : ByteArray := prog_1_method_9_code
def yX11_drop : MethodName := ⟨RX11, "drop", "()I"⟩
abbrev cX11_insert : ByteArray := prog_1_method_10_code
def yX11_insert : MethodName := ⟨RX11, "insert", "(II)I"⟩
abbrev cX11_update : ByteArray := prog_1_method_11_code
def yX11_update : MethodName := ⟨RX11, "update", "(IIII)Z"⟩
abbrev cX11_remove : ByteArray := prog_1_method_12_code
def yX11_remove : MethodName := ⟨RX11, "remove", "(II)I"⟩
abbrev cX11_rule : ByteArray := prog_1_method_13_code
def yX11_rule : MethodName := ⟨RX11, "rule", "(II)I"⟩
abbrev cX11_index : ByteArray := prog_1_method_14_code
def yX11_index : MethodName := ⟨RX11, "index", "(IZ)I"⟩
abbrev cX11_dropIndex : ByteArray := prog_1_method_15_code
def yX11_dropIndex : MethodName := ⟨RX11, "dropIndex", "(I)I"⟩
abbrev cX11_filter : ByteArray := prog_1_method_16_code
def yX11_filter : MethodName := ⟨RX11, "filter", "(II)I"⟩
abbrev cX11_clear : ByteArray := prog_1_method_17_code
def yX11_clear : MethodName := ⟨RX11, "clear", "()I"⟩
abbrev cX11_find : ByteArray := prog_1_method_18_code
def yX11_find : MethodName := ⟨RX11, "find", "(I)I"⟩
abbrev cX11_found : ByteArray := prog_1_method_19_code
def yX11_found : MethodName := ⟨RX11, "found", "(I)I"⟩
abbrev cX11_findAnew : ByteArray := prog_1_method_20_code
def yX11_findAnew : MethodName := ⟨RX11, "findAnew", "()I"⟩
abbrev cX11_plan : ByteArray := prog_1_method_21_code
def yX11_plan : MethodName := ⟨RX11, "plan", "(I)I"⟩
abbrev cX11_group : ByteArray := prog_1_method_22_code
def yX11_group : MethodName := ⟨RX11, "group", "(II)I"⟩
abbrev cX11_grouped : ByteArray := prog_1_method_23_code
def yX11_grouped : MethodName := ⟨RX11, "grouped", "(II)J"⟩
abbrev cX11_split : ByteArray := prog_1_method_24_code
def yX11_split : MethodName := ⟨RX11, "split", "(II)I"⟩
abbrev cX11_move : ByteArray := prog_1_method_25_code
def yX11_move : MethodName := ⟨RX11, "move", "(II)I"⟩
abbrev cX11_copy : ByteArray := prog_1_method_26_code
def yX11_copy : MethodName := ⟨RX11, "copy", "(I)I"⟩
abbrev cX11_handOver : ByteArray := prog_1_method_27_code
def yX11_handOver : MethodName := ⟨RX11, "handOver", "()I"⟩
abbrev cX11_giveUp : ByteArray := prog_1_method_28_code
def yX11_giveUp : MethodName := ⟨RX11, "giveUp", "()I"⟩
abbrev cX11_clean : ByteArray := prog_1_method_29_code
def yX11_clean : MethodName := ⟨RX11, "clean", "(I)I"⟩
abbrev cX11_key : ByteArray := prog_1_method_30_code
def yX11_key : MethodName := ⟨RX11, "key", "(IZ)I"⟩
abbrev cX11_expire : ByteArray := prog_1_method_31_code
def yX11_expire : MethodName := ⟨RX11, "expire", "(I)I"⟩
abbrev cX11_tick : ByteArray := prog_1_method_32_code
def yX11_tick : MethodName := ⟨RX11, "tick", "(I)I"⟩
abbrev cX11_documents : ByteArray := prog_1_method_33_code
def yX11_documents : MethodName := ⟨RX11, "documents", "()I"⟩
abbrev cX11_document : ByteArray := prog_1_method_34_code
def yX11_document : MethodName := ⟨RX11, "document", "(II)I"⟩
abbrev cX11_print : ByteArray := prog_1_method_35_code
def yX11_print : MethodName := ⟨RX11, "print", "(I)J"⟩
abbrev cX11_entries : ByteArray := prog_1_method_36_code
def yX11_entries : MethodName := ⟨RX11, "entries", "(I)I"⟩
abbrev cX11_entriesAnew : ByteArray := prog_1_method_37_code
def yX11_entriesAnew : MethodName := ⟨RX11, "entriesAnew", "(I)I"⟩
abbrev cX11_chunk : ByteArray := prog_1_method_38_code
def yX11_chunk : MethodName := ⟨RX11, "chunk", "(II)I"⟩
abbrev cX11_shard : ByteArray := prog_1_method_39_code
def yX11_shard : MethodName := ⟨RX11, "shard", "(II)I"⟩
abbrev cX11_router : ByteArray := prog_1_method_40_code
def yX11_router : MethodName := ⟨RX11, "router", "(II)I"⟩
abbrev cX11_next : ByteArray := prog_1_method_41_code
def yX11_next : MethodName := ⟨RX11, "next", "(I)I"⟩
abbrev cX11_change : ByteArray := prog_1_method_42_code
def yX11_change : MethodName := ⟨RX11, "change", "(II)I"⟩
abbrev cX11_now : ByteArray := prog_1_method_43_code
def yX11_now : MethodName := ⟨RX11, "now", "()I"⟩
abbrev cX11_isNumber : ByteArray := prog_1_method_44_code
def yX11_isNumber : MethodName := ⟨RX11, "isNumber", "(I)Z"⟩
abbrev cX11_isField : ByteArray := prog_1_method_45_code
def yX11_isField : MethodName := ⟨RX11, "isField", "(I)Z"⟩
abbrev cX11_isPath : ByteArray := prog_1_method_46_code
def yX11_isPath : MethodName := ⟨RX11, "isPath", "(I)Z"⟩
abbrev cX11_isShard : ByteArray := prog_1_method_47_code
def yX11_isShard : MethodName := ⟨RX11, "isShard", "(I)Z"⟩
abbrev cX11_isRouter : ByteArray := prog_1_method_48_code
def yX11_isRouter : MethodName := ⟨RX11, "isRouter", "(I)Z"⟩
abbrev cX11_pileUp : ByteArray := prog_1_method_49_code
def yX11_pileUp : MethodName := ⟨RX11, "pileUp", "(I)I"⟩
abbrev cX11_tellChange : ByteArray := prog_1_method_50_code
def yX11_tellChange : MethodName := ⟨RX11, "tellChange", "(III)I"⟩
abbrev cX11_takeAway : ByteArray := prog_1_method_51_code
def yX11_takeAway : MethodName := ⟨RX11, "takeAway", "(I)I"⟩
abbrev cX11_isExpired : ByteArray := prog_1_method_52_code
def yX11_isExpired : MethodName := ⟨RX11, "isExpired", "(I)Z"⟩
def RX12 : String := "ShardmoorModel"
def TX12 : u_T := fun k => match k with
  | 0 => ("ShardmoorModel", "all", "[I", true)
  | 1 => ("ShardmoorModel", "there", "[Z", true)
  | 2 => ("ShardmoorModel", "documents", "I", false)
  | 3 => ("ShardmoorModel", "piled", "I", false)
  | 4 => ("ShardmoorModel", "value", "[I", true)
  | 5 => ("ShardmoorModel", "valued", "I", false)
  | 6 => ("ShardmoorModel", "made", "[I", true)
  | 7 => ("ShardmoorModel", "mades", "I", false)
  | 8 => ("ShardmoorModel", "rules", "[I", true)
  | 9 => ("ShardmoorModel", "indexPath", "[I", true)
  | 10 => ("ShardmoorModel", "indexThere", "[Z", true)
  | 11 => ("ShardmoorModel", "sparse", "[Z", true)
  | 12 => ("ShardmoorModel", "filterPath", "[I", true)
  | 13 => ("ShardmoorModel", "filterRelation", "[I", true)
  | 14 => ("ShardmoorModel", "filters", "I", false)
  | 15 => ("ShardmoorModel", "planKeys", "[J", true)
  | 16 => ("ShardmoorModel", "planIndex", "[I", true)
  | 17 => ("ShardmoorModel", "planLooked", "[I", true)
  | 18 => ("ShardmoorModel", "plans", "I", false)
  | 19 => ("ShardmoorModel", "latest", "[I", true)
  | 20 => ("ShardmoorModel", "found", "[I", true)
  | 21 => ("ShardmoorModel", "founds", "I", false)
  | 22 => ("ShardmoorModel", "chunkStart", "[I", true)
  | 23 => ("ShardmoorModel", "chunkShard", "[I", true)
  | 24 => ("ShardmoorModel", "chunks", "I", false)
  | 25 => ("ShardmoorModel", "movingFrom", "I", false)
  | 26 => ("ShardmoorModel", "movingTo", "I", false)
  | 27 => ("ShardmoorModel", "copied", "[Z", true)
  | 28 => ("ShardmoorModel", "orphans", "[I", true)
  | 29 => ("ShardmoorModel", "keyField", "I", false)
  | 30 => ("ShardmoorModel", "isHashed", "Z", false)
  | 31 => ("ShardmoorModel", "version", "I", false)
  | 32 => ("ShardmoorModel", "versions", "[I", true)
  | 33 => ("ShardmoorModel", "stale", "[I", true)
  | 34 => ("ShardmoorModel", "entryKind", "[I", true)
  | 35 => ("ShardmoorModel", "entryDocument", "[I", true)
  | 36 => ("ShardmoorModel", "entryShard", "[I", true)
  | 37 => ("ShardmoorModel", "entries", "I", false)
  | 38 => ("ShardmoorModel", "expiring", "I", false)
  | 39 => ("ShardmoorModel", "now", "I", false)
  | 40 => ("ShardmoorModel", "spots", "[I", true)
  | 41 => ("ShardmoorModel", "many", "I", false)
  | 42 => ("ShardmoorModel", "groupAt", "[I", true)
  | 43 => ("ShardmoorModel", "groupMany", "[I", true)
  | 44 => ("ShardmoorModel", "groupSum", "[J", true)
  | 45 => ("ShardmoorModel", "groupPrint", "[J", true)
  | 46 => ("ShardmoorModel", "groups", "I", false)
  | 47 => ("ShardmoorModel", "last", "I", false)
  | 48 => ("ShardmoorModel", "counted", "[I", true)
  | _ => ("ShardmoorModel", "lay", "[I", true)
def tyX12 : Nat → FieldType := fun k => match k with
  | 0 => .array .int
  | 1 => .array .boolean
  | 2 => .int
  | 3 => .int
  | 4 => .array .int
  | 5 => .int
  | 6 => .array .int
  | 7 => .int
  | 8 => .array .int
  | 9 => .array .int
  | 10 => .array .boolean
  | 11 => .array .boolean
  | 12 => .array .int
  | 13 => .array .int
  | 14 => .int
  | 15 => .array .long
  | 16 => .array .int
  | 17 => .array .int
  | 18 => .int
  | 19 => .array .int
  | 20 => .array .int
  | 21 => .int
  | 22 => .array .int
  | 23 => .array .int
  | 24 => .int
  | 25 => .int
  | 26 => .int
  | 27 => .array .boolean
  | 28 => .array .int
  | 29 => .int
  | 30 => .boolean
  | 31 => .int
  | 32 => .array .int
  | 33 => .array .int
  | 34 => .array .int
  | 35 => .array .int
  | 36 => .array .int
  | 37 => .int
  | 38 => .int
  | 39 => .int
  | 40 => .array .int
  | 41 => .int
  | 42 => .array .int
  | 43 => .array .int
  | 44 => .array .long
  | 45 => .array .long
  | 46 => .int
  | 47 => .int
  | 48 => .array .int
  | _ => .array .int
abbrev wsX120 : List Cond := u_ws RX12 TX12 50
theorem nmX12 : ∀ a, a < 50 → ∀ b, b < 50 → a ≠ b → (TX12 a).2.1 ≠ (TX12 b).2.1 := by decide +kernel
theorem tyX12_ok : ∀ k, k < 50 → parseFieldDescriptor (TX12 k).2.2.1 = some (tyX12 k) := by decide +kernel
abbrev cX12_init : ByteArray := prog_14_method_1_code
def yX12_init : MethodName := ⟨RX12, "<init>", "()V"⟩
abbrev cX12_thrown : ByteArray := prog_14_method_2_code
def yX12_thrown : MethodName := ⟨RX12, "thrown", "()I"⟩
abbrev cX12_in : ByteArray := prog_14_method_3_code
def yX12_in : MethodName := ⟨RX12, "in", "(III)Z"⟩
abbrev cX12_goes : ByteArray := prog_14_method_4_code
def yX12_goes : MethodName := ⟨RX12, "goes", "(ZZZ)Z"⟩
abbrev cX12_isLong : ByteArray := prog_14_method_5_code
def yX12_isLong : MethodName := ⟨RX12, "isLong", "(I)Z"⟩
abbrev cX12_behind : ByteArray := prog_14_method_6_code
def yX12_behind : MethodName := ⟨RX12, "behind", "([II[I)I"⟩
abbrev cX12_end : ByteArray := prog_14_method_7_code
def yX12_end : MethodName := ⟨RX12, "end", "([II)I"⟩
abbrev cX12_parts : ByteArray := prog_14_method_8_code
def yX12_parts : MethodName := ⟨RX12, "parts", "([II)I"⟩
abbrev cX12_compare : ByteArray := prog_14_method_9_code
def yX12_compare : MethodName := ⟨RX12, "compare", "([II[II)I"⟩
abbrev cX12_fieldOf : ByteArray := prog_14_method_10_code
def yX12_fieldOf : MethodName := ⟨RX12, "fieldOf", "([III)I"⟩
abbrev cX12_membersOf : ByteArray := prog_14_method_11_code
def yX12_membersOf : MethodName := ⟨RX12, "membersOf", "([II)I"⟩
abbrev cX12_printOf : ByteArray := prog_14_method_12_code
def yX12_printOf : MethodName := ⟨RX12, "printOf", "([II)J"⟩
abbrev cX12_block : ByteArray := prog_14_method_13_code
def yX12_block : MethodName := ⟨RX12, "block", "(I)I"⟩
abbrev cX12_pile : ByteArray := prog_14_method_14_code
def yX12_pile : MethodName := ⟨RX12, "pile", "(I)I"⟩
abbrev cX12_top : ByteArray := prog_14_method_15_code
def yX12_top : MethodName := ⟨RX12, "top", "()I"⟩
abbrev cX12_spot : ByteArray := prog_14_method_16_code
def yX12_spot : MethodName := ⟨RX12, "spot", "(I)V"⟩
abbrev cX12_spotOf : ByteArray := prog_14_method_17_code
def yX12_spotOf : MethodName := ⟨RX12, "spotOf", "(II)V"⟩
abbrev cX12_looks : ByteArray := prog_14_method_18_code
def yX12_looks : MethodName := ⟨RX12, "looks", "(II)V"⟩
abbrev cX12_puts : ByteArray := prog_14_method_19_code
def yX12_puts : MethodName := ⟨RX12, "puts", "(ZII)I"⟩
abbrev cX12_nothing : ByteArray := prog_14_method_20_code
def yX12_nothing : MethodName := ⟨RX12, "nothing", "()I"⟩
abbrev cX12_number : ByteArray := prog_14_method_21_code
def yX12_number : MethodName := ⟨RX12, "number", "(I)I"⟩
abbrev cX12_word : ByteArray := prog_14_method_22_code
def yX12_word : MethodName := ⟨RX12, "word", "(I)I"⟩
abbrev cX12_row : ByteArray := prog_14_method_23_code
def yX12_row : MethodName := ⟨RX12, "row", "()I"⟩
abbrev cX12_object : ByteArray := prog_14_method_24_code
def yX12_object : MethodName := ⟨RX12, "object", "()I"⟩
abbrev cX12_adds : ByteArray := prog_14_method_25_code
def yX12_adds : MethodName := ⟨RX12, "adds", "([III)V"⟩
abbrev cX12_lays : ByteArray := prog_14_method_26_code
def yX12_lays : MethodName := ⟨RX12, "lays", "(I)V"⟩
abbrev cX12_add : ByteArray := prog_14_method_27_code
def yX12_add : MethodName := ⟨RX12, "add", "()I"⟩
abbrev cX12_builds : ByteArray := prog_14_method_28_code
def yX12_builds : MethodName := ⟨RX12, "builds", "([IIII[III)V"⟩
abbrev cX12_give : ByteArray := prog_14_method_29_code
def yX12_give : MethodName := ⟨RX12, "give", "(I)I"⟩
abbrev cX12_drop : ByteArray := prog_14_method_30_code
def yX12_drop : MethodName := ⟨RX12, "drop", "()I"⟩
abbrev cX12_chunksAnew : ByteArray := prog_14_method_31_code
def yX12_chunksAnew : MethodName := ⟨RX12, "chunksAnew", "()V"⟩
abbrev cX12_rest : ByteArray := prog_14_method_32_code
def yX12_rest : MethodName := ⟨RX12, "rest", "(I)I"⟩
abbrev cX12_keyOf : ByteArray := prog_14_method_33_code
def yX12_keyOf : MethodName := ⟨RX12, "keyOf", "(I)I"⟩
abbrev cX12_chunkOf : ByteArray := prog_14_method_34_code
def yX12_chunkOf : MethodName := ⟨RX12, "chunkOf", "(I)I"⟩
abbrev cX12_shardOf : ByteArray := prog_14_method_35_code
def yX12_shardOf : MethodName := ⟨RX12, "shardOf", "(I)I"⟩
abbrev cX12_moving : ByteArray := prog_14_method_36_code
def yX12_moving : MethodName := ⟨RX12, "moving", "()I"⟩
abbrev cX12_uses : ByteArray := prog_14_method_37_code
def yX12_uses : MethodName := ⟨RX12, "uses", "(I)V"⟩
abbrev cX12_enters : ByteArray := prog_14_method_38_code
def yX12_enters : MethodName := ⟨RX12, "enters", "(III)V"⟩
abbrev cX12_keeps : ByteArray := prog_14_method_39_code
def yX12_keeps : MethodName := ⟨RX12, "keeps", "([IIIII)Z"⟩
abbrev cX12_keepsAll : ByteArray := prog_14_method_40_code
def yX12_keepsAll : MethodName := ⟨RX12, "keepsAll", "([II)Z"⟩
abbrev cX12_isThere : ByteArray := prog_14_method_41_code
def yX12_isThere : MethodName := ⟨RX12, "isThere", "(I)Z"⟩
abbrev cX12_insert : ByteArray := prog_14_method_42_code
def yX12_insert : MethodName := ⟨RX12, "insert", "(II)I"⟩
abbrev cX12_works : ByteArray := prog_14_method_43_code
def yX12_works : MethodName := ⟨RX12, "works", "(II)Z"⟩
abbrev cX12_values : ByteArray := prog_14_method_44_code
def yX12_values : MethodName := ⟨RX12, "values", "([III)V"⟩
abbrev cX12_updates : ByteArray := prog_14_method_45_code
def yX12_updates : MethodName := ⟨RX12, "updates", "(III)Z"⟩
abbrev cX12_update : ByteArray := prog_14_method_46_code
def yX12_update : MethodName := ⟨RX12, "update", "(IIII)Z"⟩
abbrev cX12_removes : ByteArray := prog_14_method_47_code
def yX12_removes : MethodName := ⟨RX12, "removes", "(I)I"⟩
abbrev cX12_remove : ByteArray := prog_14_method_48_code
def yX12_remove : MethodName := ⟨RX12, "remove", "(II)I"⟩
abbrev cX12_rule : ByteArray := prog_14_method_49_code
def yX12_rule : MethodName := ⟨RX12, "rule", "(II)I"⟩
abbrev cX12_index : ByteArray := prog_14_method_50_code
def yX12_index : MethodName := ⟨RX12, "index", "(IZ)I"⟩
abbrev cX12_isIndex : ByteArray := prog_14_method_51_code
def yX12_isIndex : MethodName := ⟨RX12, "isIndex", "(I)Z"⟩
abbrev cX12_dropPlan : ByteArray := prog_14_method_52_code
def yX12_dropPlan : MethodName := ⟨RX12, "dropPlan", "(I)V"⟩
abbrev cX12_dropIndex : ByteArray := prog_14_method_53_code
def yX12_dropIndex : MethodName := ⟨RX12, "dropIndex", "(I)I"⟩
abbrev cX12_filterAt : ByteArray := prog_14_method_54_code
def yX12_filterAt : MethodName := ⟨RX12, "filterAt", "(I)I"⟩
abbrev cX12_filter : ByteArray := prog_14_method_55_code
def yX12_filter : MethodName := ⟨RX12, "filter", "(II)I"⟩
abbrev cX12_clear : ByteArray := prog_14_method_56_code
def yX12_clear : MethodName := ⟨RX12, "clear", "()I"⟩
abbrev cX12_fitsAt : ByteArray := prog_14_method_57_code
def yX12_fitsAt : MethodName := ⟨RX12, "fitsAt", "(II)Z"⟩
abbrev cX12_fits : ByteArray := prog_14_method_58_code
def yX12_fits : MethodName := ⟨RX12, "fits", "(II)Z"⟩
abbrev cX12_fitsAll : ByteArray := prog_14_method_59_code
def yX12_fitsAll : MethodName := ⟨RX12, "fitsAll", "(I)Z"⟩
abbrev cX12_lookFilter : ByteArray := prog_14_method_60_code
def yX12_lookFilter : MethodName := ⟨RX12, "lookFilter", "(I)I"⟩
abbrev cX12_looked : ByteArray := prog_14_method_61_code
def yX12_looked : MethodName := ⟨RX12, "looked", "(I)I"⟩
abbrev cX12_shape : ByteArray := prog_14_method_62_code
def yX12_shape : MethodName := ⟨RX12, "shape", "()J"⟩
abbrev cX12_find : ByteArray := prog_14_method_63_code
def yX12_find : MethodName := ⟨RX12, "find", "(I)I"⟩
abbrev cX12_found : ByteArray := prog_14_method_64_code
def yX12_found : MethodName := ⟨RX12, "found", "(I)I"⟩
abbrev cX12_findAnew : ByteArray := prog_14_method_65_code
def yX12_findAnew : MethodName := ⟨RX12, "findAnew", "()I"⟩
abbrev cX12_plan : ByteArray := prog_14_method_66_code
def yX12_plan : MethodName := ⟨RX12, "plan", "(I)I"⟩
abbrev cX12_groupsAt : ByteArray := prog_14_method_67_code
def yX12_groupsAt : MethodName := ⟨RX12, "groupsAt", "(IJ)V"⟩
abbrev cX12_group : ByteArray := prog_14_method_68_code
def yX12_group : MethodName := ⟨RX12, "group", "(II)I"⟩
abbrev cX12_grouped : ByteArray := prog_14_method_69_code
def yX12_grouped : MethodName := ⟨RX12, "grouped", "(II)J"⟩
abbrev cX12_isChunk : ByteArray := prog_14_method_70_code
def yX12_isChunk : MethodName := ⟨RX12, "isChunk", "(I)Z"⟩
abbrev cX12_split : ByteArray := prog_14_method_71_code
def yX12_split : MethodName := ⟨RX12, "split", "(II)I"⟩
abbrev cX12_documentsOf : ByteArray := prog_14_method_72_code
def yX12_documentsOf : MethodName := ⟨RX12, "documentsOf", "(I)I"⟩
abbrev cX12_copies : ByteArray := prog_14_method_73_code
def yX12_copies : MethodName := ⟨RX12, "copies", "()I"⟩
abbrev cX12_move : ByteArray := prog_14_method_74_code
def yX12_move : MethodName := ⟨RX12, "move", "(II)I"⟩
abbrev cX12_forgets : ByteArray := prog_14_method_75_code
def yX12_forgets : MethodName := ⟨RX12, "forgets", "()V"⟩
abbrev cX12_copy : ByteArray := prog_14_method_76_code
def yX12_copy : MethodName := ⟨RX12, "copy", "(I)I"⟩
abbrev cX12_handOver : ByteArray := prog_14_method_77_code
def yX12_handOver : MethodName := ⟨RX12, "handOver", "()I"⟩
abbrev cX12_giveUp : ByteArray := prog_14_method_78_code
def yX12_giveUp : MethodName := ⟨RX12, "giveUp", "()I"⟩
abbrev cX12_clean : ByteArray := prog_14_method_79_code
def yX12_clean : MethodName := ⟨RX12, "clean", "(I)I"⟩
abbrev cX12_key : ByteArray := prog_14_method_80_code
def yX12_key : MethodName := ⟨RX12, "key", "(IZ)I"⟩
abbrev cX12_expire : ByteArray := prog_14_method_81_code
def yX12_expire : MethodName := ⟨RX12, "expire", "(I)I"⟩
abbrev cX12_tick : ByteArray := prog_14_method_82_code
def yX12_tick : MethodName := ⟨RX12, "tick", "(I)I"⟩
abbrev cX12_documents : ByteArray := prog_14_method_83_code
def yX12_documents : MethodName := ⟨RX12, "documents", "()I"⟩
abbrev cX12_document : ByteArray := prog_14_method_84_code
def yX12_document : MethodName := ⟨RX12, "document", "(II)I"⟩
abbrev cX12_print : ByteArray := prog_14_method_85_code
def yX12_print : MethodName := ⟨RX12, "print", "(I)J"⟩
abbrev cX12_entriesOf : ByteArray := prog_14_method_86_code
def yX12_entriesOf : MethodName := ⟨RX12, "entriesOf", "(I)I"⟩
abbrev cX12_entries : ByteArray := prog_14_method_87_code
def yX12_entries : MethodName := ⟨RX12, "entries", "(I)I"⟩
abbrev cX12_entriesAnew : ByteArray := prog_14_method_88_code
def yX12_entriesAnew : MethodName := ⟨RX12, "entriesAnew", "(I)I"⟩
abbrev cX12_chunk : ByteArray := prog_14_method_89_code
def yX12_chunk : MethodName := ⟨RX12, "chunk", "(II)I"⟩
abbrev cX12_shard : ByteArray := prog_14_method_90_code
def yX12_shard : MethodName := ⟨RX12, "shard", "(II)I"⟩
abbrev cX12_router : ByteArray := prog_14_method_91_code
def yX12_router : MethodName := ⟨RX12, "router", "(II)I"⟩
abbrev cX12_next : ByteArray := prog_14_method_92_code
def yX12_next : MethodName := ⟨RX12, "next", "(I)I"⟩
abbrev cX12_change : ByteArray := prog_14_method_93_code
def yX12_change : MethodName := ⟨RX12, "change", "(II)I"⟩
abbrev cX12_now : ByteArray := prog_14_method_94_code
def yX12_now : MethodName := ⟨RX12, "now", "()I"⟩
def RL : String := "ShardmoorLaw"
abbrev cL_nothing : ByteArray := method_3_code
def yL_nothing : MethodName := ⟨RL, "nothing", "(LShardmoor;[J)I"⟩
abbrev cL_number : ByteArray := method_4_code
def yL_number : MethodName := ⟨RL, "number", "(LShardmoor;I[J)I"⟩
abbrev cL_word : ByteArray := method_5_code
def yL_word : MethodName := ⟨RL, "word", "(LShardmoor;I[J)I"⟩
abbrev cL_row : ByteArray := method_6_code
def yL_row : MethodName := ⟨RL, "row", "(LShardmoor;[J)I"⟩
abbrev cL_object : ByteArray := method_7_code
def yL_object : MethodName := ⟨RL, "object", "(LShardmoor;[J)I"⟩
abbrev cL_add : ByteArray := method_8_code
def yL_add : MethodName := ⟨RL, "add", "(LShardmoor;[J)I"⟩
abbrev cL_give : ByteArray := method_9_code
def yL_give : MethodName := ⟨RL, "give", "(LShardmoor;I[J)I"⟩
abbrev cL_insert : ByteArray := method_10_code
def yL_insert : MethodName := ⟨RL, "insert", "(LShardmoor;II[J)I"⟩
abbrev cL_update : ByteArray := method_11_code
def yL_update : MethodName := ⟨RL, "update", "(LShardmoor;IIII[J)I"⟩
abbrev cL_remove : ByteArray := method_12_code
def yL_remove : MethodName := ⟨RL, "remove", "(LShardmoor;II[J)I"⟩
abbrev cL_rule : ByteArray := method_13_code
def yL_rule : MethodName := ⟨RL, "rule", "(LShardmoor;II[J)I"⟩
abbrev cL_index : ByteArray := method_14_code
def yL_index : MethodName := ⟨RL, "index", "(LShardmoor;IZ[J)I"⟩
abbrev cL_dropIndex : ByteArray := method_15_code
def yL_dropIndex : MethodName := ⟨RL, "dropIndex", "(LShardmoor;I[J)I"⟩
abbrev cL_filter : ByteArray := method_16_code
def yL_filter : MethodName := ⟨RL, "filter", "(LShardmoor;II[J)I"⟩
abbrev cL_find : ByteArray := method_17_code
def yL_find : MethodName := ⟨RL, "find", "(LShardmoor;I[J)I"⟩
abbrev cL_found : ByteArray := method_18_code
def yL_found : MethodName := ⟨RL, "found", "(LShardmoor;I[J)I"⟩
abbrev cL_plan : ByteArray := method_19_code
def yL_plan : MethodName := ⟨RL, "plan", "(LShardmoor;I[J)I"⟩
abbrev cL_group : ByteArray := method_20_code
def yL_group : MethodName := ⟨RL, "group", "(LShardmoor;II[J)I"⟩
abbrev cL_grouped : ByteArray := method_21_code
def yL_grouped : MethodName := ⟨RL, "grouped", "(LShardmoor;II[J)I"⟩
abbrev cL_split : ByteArray := method_22_code
def yL_split : MethodName := ⟨RL, "split", "(LShardmoor;II[J)I"⟩
abbrev cL_move : ByteArray := method_23_code
def yL_move : MethodName := ⟨RL, "move", "(LShardmoor;II[J)I"⟩
abbrev cL_copy : ByteArray := method_24_code
def yL_copy : MethodName := ⟨RL, "copy", "(LShardmoor;I[J)I"⟩
abbrev cL_handOver : ByteArray := method_25_code
def yL_handOver : MethodName := ⟨RL, "handOver", "(LShardmoor;[J)I"⟩
abbrev cL_giveUp : ByteArray := method_26_code
def yL_giveUp : MethodName := ⟨RL, "giveUp", "(LShardmoor;[J)I"⟩
abbrev cL_clean : ByteArray := method_27_code
def yL_clean : MethodName := ⟨RL, "clean", "(LShardmoor;I[J)I"⟩
abbrev cL_key : ByteArray := method_28_code
def yL_key : MethodName := ⟨RL, "key", "(LShardmoor;IZ[J)I"⟩
abbrev cL_expire : ByteArray := method_29_code
def yL_expire : MethodName := ⟨RL, "expire", "(LShardmoor;I[J)I"⟩
abbrev cL_tick : ByteArray := method_30_code
def yL_tick : MethodName := ⟨RL, "tick", "(LShardmoor;I[J)I"⟩
abbrev cL_document : ByteArray := method_31_code
def yL_document : MethodName := ⟨RL, "document", "(LShardmoor;II[J)I"⟩
abbrev cL_print : ByteArray := method_32_code
def yL_print : MethodName := ⟨RL, "print", "(LShardmoor;I[J)I"⟩
abbrev cL_entries : ByteArray := method_33_code
def yL_entries : MethodName := ⟨RL, "entries", "(LShardmoor;I[J)I"⟩
abbrev cL_entriesAnew : ByteArray := method_34_code
def yL_entriesAnew : MethodName := ⟨RL, "entriesAnew", "(LShardmoor;I[J)I"⟩
abbrev cL_chunk : ByteArray := method_35_code
def yL_chunk : MethodName := ⟨RL, "chunk", "(LShardmoor;II[J)I"⟩
abbrev cL_shard : ByteArray := method_36_code
def yL_shard : MethodName := ⟨RL, "shard", "(LShardmoor;II[J)I"⟩
abbrev cL_router : ByteArray := method_37_code
def yL_router : MethodName := ⟨RL, "router", "(LShardmoor;II[J)I"⟩
abbrev cL_change : ByteArray := method_38_code
def yL_change : MethodName := ⟨RL, "change", "(LShardmoor;II[J)I"⟩
abbrev cL_law : ByteArray := code
def yL_law : MethodName := ⟨RL, "law", "([I)Z"⟩
abbrev vwCl : List vw_C := [(RX0, TX0, 13), (RX1, TX1, 2), (RX2, TX2, 3), (RX3, TX3, 7), (RX4, TX4, 7), (RX5, TX5, 3), (RX6, TX6, 2), (RX7, TX7, 10), (RX8, TX8, 5), (RX9, TX9, 4), (RX10, TX10, 2), (RX11, TX11, 10), (RX12, TX12, 50)]
/-- the tables' words that any state reached from a start keeps -/
def tb0 : List Cond := lw_tbl.filter goodWord
theorem tb0_of {w : Cond} (k : Nat) (h : lw_tbl[k]? = some w) (g : goodWord w = true) : w ∈ tb0 := List.mem_filter.mpr ⟨List.mem_of_getElem? h, g⟩
theorem tb0_good : GoodIn tb0 tb0 := goodIn_sub (fun _ h => h) (List.all_eq_true.mpr fun _ h => (List.mem_filter.mp h).2)
/-- a method: its class, name, bytes, locals, answer, frames and words of room, decoded instructions -/
abbrev x_MT : Type := String × MethodName × ByteArray × Nat × Option FieldType × Nat × Nat × List (Nat × Instr × Nat)
abbrev mOwn (M : x_MT) : String := M.1
abbrev mY (M : x_MT) : MethodName := M.2.1
abbrev mCode (M : x_MT) : ByteArray := M.2.2.1
abbrev mL (M : x_MT) : Nat := M.2.2.2.1
abbrev mRet (M : x_MT) : Option FieldType := M.2.2.2.2.1
abbrev mFr (M : x_MT) : Nat := M.2.2.2.2.2.1
abbrev mLo (M : x_MT) : Nat := M.2.2.2.2.2.2.1
abbrev mIns (M : x_MT) : List (Nat × Instr × Nat) := M.2.2.2.2.2.2.2
def x_MOk (M : x_MT) : Prop := (mIns M).all (fun q => decide (decode (mCode M) q.1 = .ok q.2)) = true ∧ Cond.code (mY M) (mCode M) (mL M) (mRet M) ∈ tb0 ∧ plainName (mY M).cls = true ∧ (mY M).cls = mOwn M ∧ Cond.initialized (mY M).cls ∈ tb0 ∧ ((mY M).cls ≠ "java/lang/invoke/MethodHandle" ∧ (mY M).cls ≠ "java/lang/invoke/VarHandle")
end
section
/-! ===== numbers: ints and longs as images of whole numbers ===== -/
abbrev ii (x : Int) : Int32 := Int32.ofInt x
abbrev ll (x : Int) : Int64 := Int64.ofInt x
def xr (x : Int) : Prop := -2147483648 ≤ x ∧ x < 2147483648
theorem ii_toInt {x : Int} (h : xr x) : (ii x).toInt = x := by
  unfold xr at h
  rw [Int32.toInt_ofInt]
  show x.bmod 4294967296 = x
  rw [Int.bmod_def]
  omega
theorem ii_of (x : Int32) : ii x.toInt = x := Int32.ofInt_toInt x
theorem xr_of (x : Int32) : xr x.toInt := ⟨Int32.le_toInt x, Int32.toInt_lt x⟩
theorem ii_add (x y : Int) : ii x + ii y = ii (x + y) := (Int32.ofInt_add x y).symm
theorem ii_sub (x y : Int) : ii x - ii y = ii (x - y) := (Int32.ofInt_sub x y).symm
theorem ii_mul (x y : Int) : ii x * ii y = ii (x * y) := (Int32.ofInt_mul x y).symm
theorem ii_eq {x y : Int} (hx : xr x) (hy : xr y) : ii x = ii y ↔ x = y := by
  constructor
  · intro h
    have := congrArg Int32.toInt h
    rwa [ii_toInt hx, ii_toInt hy] at this
  · intro h; rw [h]
theorem ii_lt {x y : Int} (hx : xr x) (hy : xr y) : ii x < ii y ↔ x < y := by rw [Int32.lt_iff_toInt_lt, ii_toInt hx, ii_toInt hy]
theorem ii_le {x y : Int} (hx : xr x) (hy : xr y) : ii x ≤ ii y ↔ x ≤ y := by rw [Int32.le_iff_toInt_le, ii_toInt hx, ii_toInt hy]
theorem ii_0 : (0 : Int32) = ii 0 := rfl
theorem xr_0 : xr 0 := by unfold xr; omega
theorem ii_clamp {x : Int} (h0 : 0 ≤ x) (h : x < 2147483648) : (ii x).toNatClampNeg = x.toNat := by
  have : (ii x).toInt = x := ii_toInt ⟨by omega, h⟩
  show (ii x).toInt.toNat = _
  rw [this]
theorem ii_in {x : Int} {n : Nat} (h0 : 0 ≤ x) (h : x < n) (hn : n < 2147483648) : vp_in (ii x) n := by
  rw [vp_in_iff, ii_toInt ⟨by omega, by omega⟩]
  exact ⟨h0, h⟩
theorem ii_nat (n : Nat) : Int32.ofNat n = ii n := rfl
theorem ii_i2l {x : Int} (h : xr x) : (ii x).toInt64 = ll x := by
  apply Int64.toInt_inj.mp
  rw [Int32.toInt_toInt64, ii_toInt h, Int64.toInt_ofInt]
  unfold xr at h
  show x = x.bmod 18446744073709551616
  rw [Int.bmod_def]
  omega
theorem ll_add (x y : Int) : ll x + ll y = ll (x + y) := (Int64.ofInt_add x y).symm
theorem ll_mul (x y : Int) : ll x * ll y = ll (x * y) := (Int64.ofInt_mul x y).symm
/-! ===== the pure world ===== -/
abbrev xG : Type := va_G × (Nat → ClassId)
/-- a cell's form: an array of numbers (kind, length), an array of references (kind, what it holds), an object (class, fields: none for a number, some for a reference) -/
abbrev xShp : Type := (Nat × Nat) ⊕ ((Nat × List (Option Nat)) ⊕ (Nat × List (Option (Option Nat))))
abbrev xSig : Type := Nat → Int → Int
/-- cells, their forms, their numbers, whether the heap's size is known -/
abbrev xS : Type := Nat × (Nat → xShp) × xSig × Bool
abbrev xN (X : xS) : Nat := X.1
abbrev xF (X : xS) : Nat → xShp := X.2.1
abbrev xM (X : xS) : xSig := X.2.2.1
abbrev xB (X : xS) : Bool := X.2.2.2
abbrev xO : Type := Option Value ⊕ String
def x_v (base : Nat) : Value → Value
  | .ref a => .ref (base + a)
  | v => v
def x_rf (base : Nat) : Option Nat → Value
  | none => .null
  | some b => .ref (base + b)
def x_fld (base : Nat) (m : Int → Int) (j : Nat) : Option (Option Nat) → Value
  | none => .int (ii (m j))
  | some r => x_rf base r
def x_arr (k n : Nat) (m : Int → Int) : vp_A := if k = 2 then (n, .inr (.inl fun j => ll (m j))) else (n, .inl fun j => ii (m j))
def x_rarr (base : Nat) (rs : List (Option Nat)) : vp_A := (rs.length, .inr (.inr (.inr (.inr fun j => (rs.getD j none).map (fun b => base + b)))))
def x_obj (base : Nat) (fs : List (Option (Option Nat))) (m : Int → Int) : List Value := (List.range fs.length).map fun j => x_fld base m j (fs.getD j none)
def x_cell (base : Nat) (G : xG) (s : xShp) (m : Int → Int) : va_E := match s with
  | .inl q => .inl (G.2 q.1, x_arr q.1 q.2 m)
  | .inr (.inl q) => .inl (G.2 q.1, x_rarr base q.2)
  | .inr (.inr q) => .inr (q.1, x_obj base q.2 m)
def x_wl (base : Nat) (G : xG) (X : xS) : va_W := (List.range (xN X)).map fun a => (base + a, x_cell base G (xF X a) (xM X a))
def x_tys (G : xG) : List (ClassId × FieldType) := [(G.2 0, .int), (G.2 1, .boolean), (G.2 2, .long), (G.2 3, .object "Shardmoor$Value"), (G.2 4, .object "Shardmoor$Filter")]
def x_W (base : Nat) (G : xG) (X : xS) (H : Heap) : Prop := va_P G.1 vwCl (x_wl base G X) H ∧ (xB X = true → H.size = base + xN X)
abbrev x_A (base : Nat) : Nat → Prop := fun q => base ≤ q
theorem x_wl_at {base : Nat} {G : xG} {X : xS} {a : Nat} (h : a < xN X) : (x_wl base G X)[a]? = some (base + a, x_cell base G (xF X a) (xM X a)) := by
  simp [x_wl, h]
theorem x_wl_at' {base : Nat} {G : xG} {X : xS} {k : Nat} {q : Nat × va_E} (h : (x_wl base G X)[k]? = some q) : k < xN X ∧ q = (base + k, x_cell base G (xF X k) (xM X k)) := by
  have hk : k < (x_wl base G X).length := (List.getElem?_eq_some_iff.mp h).1
  have hk' : k < xN X := by simpa [x_wl] using hk
  refine ⟨hk', ?_⟩
  rw [x_wl_at hk'] at h
  exact (Option.some.inj h).symm
theorem x_D {base : Nat} {G : xG} {X : xS} : va_D (x_A base) (x_wl base G X) := by
  refine ⟨fun i j p q hi hj hpq => ?_, fun k q hk => ?_⟩
  · obtain ⟨-, rfl⟩ := x_wl_at' hi
    obtain ⟨-, rfl⟩ := x_wl_at' hj
    have : base + i = base + j := hpq
    omega
  · obtain ⟨-, rfl⟩ := x_wl_at' hk
    exact Nat.le_add_right base k
/-- the numbers of one cell changed -/
def xu (σ : xSig) (a : Nat) (j v : Int) : xSig := fun b i => if b = a ∧ i = j then v else σ b i
theorem xu_same (σ : xSig) (a : Nat) (j v : Int) : xu σ a j v a j = v := by simp [xu]
theorem xu_ne (σ : xSig) {a b : Nat} {j i v : Int} (h : b ≠ a ∨ i ≠ j) : xu σ a j v b i = σ b i := by
  unfold xu
  rw [if_neg]
  rintro ⟨h1, h2⟩
  rcases h with h | h
  · exact h h1
  · exact h h2
/-- the numbers of the world changed -/
abbrev xSet (X : xS) (σ : xSig) : xS := (xN X, xF X, σ, xB X)
/-- a world's cell a is another, the others are as they were -/
theorem x_wl_set {base : Nat} {G : xG} {X Y : xS} {a : Nat} (ha : a < xN X) (hn : xN Y = xN X) (ho : ∀ b, b ≠ a → x_cell base G (xF Y b) (xM Y b) = x_cell base G (xF X b) (xM X b)) :
    x_wl base G Y = (x_wl base G X).set a (base + a, x_cell base G (xF Y a) (xM Y a)) := by
  apply List.ext_getElem?
  intro k
  by_cases hk : k < xN X
  · rw [x_wl_at (by rw [hn]; exact hk)]
    by_cases hka : k = a
    · subst hka
      rw [List.getElem?_set_self (by simpa [x_wl] using hk)]
    · rw [List.getElem?_set_ne (Ne.symm hka), x_wl_at hk, ho k hka]
  · have h1 : (x_wl base G Y)[k]? = none := by
      rw [List.getElem?_eq_none_iff]; simp [x_wl, hn]; omega
    have h2 : ((x_wl base G X).set a (base + a, x_cell base G (xF Y a) (xM Y a)))[k]? = none := by
      rw [List.getElem?_eq_none_iff]; simp [x_wl]; omega
    rw [h1, h2]
/-! the words that need more than the tables -/
def x_nw : List Cond := lw_tbl.filter (fun w => match w with | .fieldLinkNest _ _ _ _ _ _ => true | .methodLinkNest _ _ _ _ => true | .declares _ => true | .castable _ _ => true | _ => false)
def x_strs : List (String × Nat × String) := lw_tbl.filterMap (fun w => match w with | .stringRef a b c => some (a, b, c) | _ => none)
abbrev x_U : String := "UNASSIGNED_STACK"
abbrev x_Z : String := "SUPPRESSED_SENTINEL"
def x_PX (G : xG) (base : Nat) (U : State) : Prop := va_K G.1 vwCl (x_tys G) U ∧ (∀ w ∈ x_nw, va_Nw w U) ∧ (∀ q ∈ x_strs, ∃ sa, vk_R q.1 q.2.1 q.2.2 sa U) ∧
  vx_Zq Bundle.tN x_U Bundle.steD (x_A base) U U.heap ∧ vx_Zq Bundle.tN x_Z Bundle.listD (x_A base) U U.heap ∧ va_AO "Shardmoor$Value" U ∧ va_AO "Shardmoor$Filter" U ∧ base ≤ U.heap.size
theorem x_PX.moved {G : xG} {base : Nat} {s U : State} (h : x_PX G base s) (hW : s.WarmedH U.vm) (hz : s.heap.size ≤ U.heap.size) (ho : ∀ q : Nat, q < s.heap.size → ¬ x_A base q → U.heap[q]? = s.heap[q]?) : x_PX G base U := by
  obtain ⟨h1, h2, h3, h4, h5, h6, h7, h8⟩ := h
  refine ⟨h1.moved hW.alike, fun w hw => ?_, fun q hq => ?_, (h4.kept ho).moved hW.alike, (h5.kept ho).moved hW.alike, h6.moved hW.alike, h7.moved hW.alike, by omega⟩
  · have hg := (List.mem_filter.mp hw).2
    have hs := h2 w hw
    cases w <;> first | exact va_Nw.warmF hW hs | exact va_Nw.warmM hW hs | exact va_Nw.warmD hW hs | exact va_Nw.warmC hW hs | exact absurd (show false = true from hg) Bool.false_ne_true
  · obtain ⟨sa, hs⟩ := h3 q hq
    exact ⟨sa, vk_R.warm hW hs⟩
/-! ===== a method's contract, and the judgement at a place of its body ===== -/
def x_rm (M : x_MT) (mc ms : Nat) : Room := { frames := mFr M, cells := mc, slots := ms, locals := mLo M }
abbrev x_ws (M : x_MT) : List Cond := Cond.code (mY M) (mCode M) (mL M) (mRet M) :: tb0
def x_Pc (base : Nat) (G : xG) (av : List Value) (X : xS) : Array Value → State → Prop := va_Pc (av.map (x_v base)) (fun U => x_W base G X U.heap ∧ x_PX G base U)
def x_Qc (base : Nat) (G : xG) (o : xO) (Y : xS) : Array Value → State → Outcome → State → Prop := fun _ st oc t => (∃ v : Option Value, o = .inl v ∧ oc = .returned (v.map (x_v base))) ∧ x_W base G Y t.heap ∧ va_F (x_A base) st t
def x_XC (base : Nat) (G : xG) (o : xO) (Y : xS) : String → State → State → Prop := fun E st t => o = .inr E ∧ x_W base G Y t.heap ∧ va_F (x_A base) st t
/-- with these arguments, from world X, the method ends with o, in world Y; it makes at most mc cells of ms slots -/
def x_Sp (M : x_MT) (mc ms : Nat) (av : List Value) (X : xS) (o : xO) (Y : xS) : Prop :=
  ∀ (l : Launch) (G : xG) (base : Nat), l.stackTraces = false → vx_Met l (mY M) (x_ws M) (x_rm M mc ms) (x_Pc base G av X) (x_Qc base G o Y) (x_XC base G o Y) mc ms (x_A base)
def x_ls (base : Nat) : Nat → List (Option Value) → List (Nat × Value)
  | _, [] => []
  | i, none :: r => x_ls base (i + 1) r
  | i, some v :: r => (i, x_v base v) :: x_ls base (i + 1) r
def x_Cx (M : x_MT) (p : Program) (l : Launch) (s : State) (m : MethodId) (args : Array Value) (meth : Method) (c : Code) (G : xG) (base : Nat) : Prop :=
  x_MOk M ∧ p.tables.exec = Jvm.exec ∧ c.code = mCode M ∧ meth.sig.returnType = mRet M ∧ c.maxLocals = mL M ∧ s.vm.findClass (mOwn M) = some m.cls ∧ (∀ w ∈ tb0, w.before args s = true) ∧ x_PX G base s ∧
  (∀ x ∈ c.exceptionTable.toList, False) ∧ meth.locks = false ∧ meth.name = (mY M).name ∧ l.stackTraces = false
def x_E (M : x_MT) (mc ms : Nat) (pc : Nat) (ls : List (Option Value)) (st : List Value) (X : xS) (kc ks : Nat) (o : xO) (Y : xS) : Prop :=
  ∀ (p : Program) (l : Launch) (e : Env) (s : State) (m : MethodId) (args : Array Value) (below : List Frame) (meth : Method) (c : Code) (H : Heap) (locs : List Loc) (arr : Array Slot) (G : xG) (base : Nat),
    x_Cx M p l s m args meth c G base → x_W base G X H → va_S (x_A base) s.heap H locs → lv_has arr (mL M) (x_ls base 0 ls) →
    W p l e (x_rm M mc ms) s m args below meth c H locs kc ks (vx_MQ below (x_Qc base G o Y) (x_XC base G o Y) args s mc ms (x_A base)) (F0 m pc arr (st.map (x_v base)))
end
section
/-! ===== rules of the judgement: stack, locals, branches ===== -/
theorem x_dec {M : x_MT} (h : x_MOk M) {k pc : Nat} {i : Instr} {len : Nat} (hi : (mIns M)[k]? = some (pc, i, len)) : decode (mCode M) pc = .ok (i, len) := by
  have := List.all_eq_true.mp h.1 _ (List.mem_of_getElem? hi)
  exact of_decide_eq_true this
theorem x_ls_mem {base : Nat} {q : Nat × Value} : ∀ (ls : List (Option Value)) (i : Nat), q ∈ x_ls base i ls ↔ ∃ (k : Nat) (u : Value), ls[k]? = some (some u) ∧ q = (i + k, x_v base u) := by
  intro ls
  induction ls with
  | nil => intro i; simp [x_ls]
  | cons a r ih =>
    intro i
    cases a with
    | none =>
      simp only [x_ls, ih]
      constructor
      · rintro ⟨k, u, h1, h2⟩
        exact ⟨k + 1, u, by simpa using h1, by rw [h2]; simp; omega⟩
      · rintro ⟨k, u, h1, h2⟩
        cases k with
        | zero => simp at h1
        | succ k => exact ⟨k, u, by simpa using h1, by rw [h2]; simp; omega⟩
    | some v =>
      simp only [x_ls, List.mem_cons, ih]
      constructor
      · rintro (rfl | ⟨k, u, h1, h2⟩)
        · exact ⟨0, v, rfl, rfl⟩
        · exact ⟨k + 1, u, by simpa using h1, by rw [h2]; simp; omega⟩
      · rintro ⟨k, u, h1, h2⟩
        cases k with
        | zero => left; simp at h1; rw [h2, h1]; rfl
        | succ k => right; exact ⟨k, u, by simpa using h1, by rw [h2]; simp; omega⟩
theorem x_lget {base nL i : Nat} {arr : Array Slot} {ls : List (Option Value)} {v : Value} (h : lv_has arr nL (x_ls base 0 ls)) (hi : ls[i]? = some (some v)) : arr[i]? = some (.val (x_v base v)) :=
  h.2.2 (i, x_v base v) ((x_ls_mem ls 0).mpr ⟨i, v, hi, by simp⟩)
theorem x_lsub {nL : Nat} {arr : Array Slot} {l l' : List (Nat × Value)} (h : lv_has arr nL l) (hs : ∀ q ∈ l', q ∈ l) : lv_has arr nL l' := ⟨h.1, h.2.1, fun q hq => h.2.2 q (hs q hq)⟩
/-- what stands below a place that is stored to: a long that loses its second half goes -/
def x_is2 : Option (Option Value) → Bool
  | some (some (.long _)) => true
  | some (some (.double _)) => true
  | _ => false
def x_c2 (ls : List (Option Value)) : Nat → List (Option Value)
  | 0 => ls
  | j + 1 => bif x_is2 ls[j]? then ls.set j none else ls
def x_st1 (ls : List (Option Value)) (i : Nat) (v : Value) : List (Option Value) := (x_c2 ls i).set i (some v)
def x_st2 (ls : List (Option Value)) (i : Nat) (v : Value) : List (Option Value) := ((x_c2 ls i).set i (some v)).set (i + 1) none
def x_st0 (ls : List (Option Value)) (i : Nat) : List (Option Value) := (x_c2 ls i).set i none
theorem x_c2_get {ls : List (Option Value)} {i k : Nat} {u : Value} (h : (x_c2 ls i)[k]? = some (some u)) : ls[k]? = some (some u) ∧ ¬ (k + 1 = i ∧ u.category = 2) := by
  cases i with
  | zero => exact ⟨h, fun q => by omega⟩
  | succ j =>
    cases hb : x_is2 ls[j]? with
    | true =>
      have e : x_c2 ls (j + 1) = ls.set j none := by show (bif x_is2 ls[j]? then ls.set j none else ls) = _; rw [hb]; rfl
      rw [e] at h
      by_cases hk : j = k
      · subst hk
        rw [List.getElem?_set_self'] at h
        cases hz : ls[j]? <;> rw [hz] at h <;> cases h
      · rw [List.getElem?_set_ne hk] at h
        exact ⟨h, fun q => hk (by omega)⟩
    | false =>
      have e : x_c2 ls (j + 1) = ls := by show (bif x_is2 ls[j]? then ls.set j none else ls) = _; rw [hb]; rfl
      rw [e] at h
      refine ⟨h, fun q => ?_⟩
      have hkj : k = j := by omega
      subst hkj
      rw [h] at hb
      cases u <;> simp [Value.category, x_is2] at q hb
theorem x_v_cat (base : Nat) (v : Value) : (x_v base v).category = v.category := by cases v <;> rfl
theorem x_lset1 {base nL i : Nat} {arr : Array Slot} {ls : List (Option Value)} {v : Value} (h : lv_has arr nL ((i, x_v base v) :: (x_ls base 0 ls).filter (fun q => !(q.1 == i) && !(q.1 + 1 == i && q.2.category == 2)))) : lv_has arr nL (x_ls base 0 (x_st1 ls i v)) := by
  refine x_lsub h fun q hq => ?_
  obtain ⟨k, u, h1, rfl⟩ := (x_ls_mem _ 0).mp hq
  rw [Nat.zero_add]
  by_cases hk : i = k
  · subst hk
    rw [x_st1, List.getElem?_set_self'] at h1
    cases hz : (x_c2 ls i)[i]? <;> rw [hz] at h1 <;> cases h1
    exact List.mem_cons_self
  · rw [x_st1, List.getElem?_set_ne hk] at h1
    obtain ⟨h2, h3⟩ := x_c2_get h1
    refine List.mem_cons_of_mem _ (List.mem_filter.mpr ⟨(x_ls_mem _ 0).mpr ⟨k, u, h2, by simp⟩, ?_⟩)
    simp only [x_v_cat, Bool.and_eq_true, Bool.not_eq_true', beq_eq_false_iff_ne, ne_eq, Bool.and_eq_false_iff]
    refine ⟨fun q => hk q.symm, ?_⟩
    by_cases hc : k + 1 = i
    · exact Or.inr fun q => h3 ⟨hc, q⟩
    · exact Or.inl hc
theorem x_lset0 {base nL i : Nat} {arr : Array Slot} {ls : List (Option Value)} {w : Value} (h : lv_has arr nL ((i, w) :: (x_ls base 0 ls).filter (fun q => !(q.1 == i) && !(q.1 + 1 == i && q.2.category == 2)))) : lv_has arr nL (x_ls base 0 (x_st0 ls i)) := by
  refine x_lsub h fun q hq => ?_
  obtain ⟨k, u, h1, rfl⟩ := (x_ls_mem _ 0).mp hq
  rw [Nat.zero_add]
  by_cases hk : i = k
  · subst hk
    rw [x_st0, List.getElem?_set_self'] at h1
    cases hz : (x_c2 ls i)[i]? <;> rw [hz] at h1 <;> cases h1
  · rw [x_st0, List.getElem?_set_ne hk] at h1
    obtain ⟨h2, h3⟩ := x_c2_get h1
    refine List.mem_cons_of_mem _ (List.mem_filter.mpr ⟨(x_ls_mem _ 0).mpr ⟨k, u, h2, by simp⟩, ?_⟩)
    simp only [x_v_cat, Bool.and_eq_true, Bool.not_eq_true', beq_eq_false_iff_ne, ne_eq, Bool.and_eq_false_iff]
    refine ⟨fun q => hk q.symm, ?_⟩
    by_cases hc : k + 1 = i
    · exact Or.inr fun q => h3 ⟨hc, q⟩
    · exact Or.inl hc
theorem x_lset2 {base nL i : Nat} {arr : Array Slot} {ls : List (Option Value)} {v : Value} (h : lv_has arr nL ((i, x_v base v) :: (x_ls base 0 ls).filter (fun q => !(q.1 == i) && (!(q.1 == i + 1) && !(q.1 + 1 == i && q.2.category == 2))))) : lv_has arr nL (x_ls base 0 (x_st2 ls i v)) := by
  refine x_lsub h fun q hq => ?_
  obtain ⟨k, u, h1, rfl⟩ := (x_ls_mem _ 0).mp hq
  rw [Nat.zero_add]
  by_cases hk2 : i + 1 = k
  · subst hk2
    rw [x_st2, List.getElem?_set_self'] at h1
    cases hz : ((x_c2 ls i).set i (some v))[i + 1]? <;> rw [hz] at h1 <;> cases h1
  · rw [x_st2, List.getElem?_set_ne hk2] at h1
    by_cases hk : i = k
    · subst hk
      rw [List.getElem?_set_self'] at h1
      cases hz : (x_c2 ls i)[i]? <;> rw [hz] at h1 <;> cases h1
      exact List.mem_cons_self
    · rw [List.getElem?_set_ne hk] at h1
      obtain ⟨h2, h3⟩ := x_c2_get h1
      refine List.mem_cons_of_mem _ (List.mem_filter.mpr ⟨(x_ls_mem _ 0).mpr ⟨k, u, h2, by simp⟩, ?_⟩)
      simp only [x_v_cat, Bool.and_eq_true, Bool.not_eq_true', beq_eq_false_iff_ne, ne_eq, Bool.and_eq_false_iff]
      refine ⟨fun q => hk q.symm, fun q => hk2 q.symm, ?_⟩
      by_cases hc : k + 1 = i
      · exact Or.inr fun q => h3 ⟨hc, q⟩
      · exact Or.inl hc
/-- fewer locals -/
theorem e_drop {M : x_MT} {mc ms pc kc ks : Nat} {ls : List (Option Value)} {st : List Value} {X Y : xS} {o : xO} (ls' : List (Option Value)) (hs : ∀ (k : Nat) (u : Value), ls'[k]? = some (some u) → ls[k]? = some (some u)) (kk : x_E M mc ms pc ls' st X kc ks o Y) : x_E M mc ms pc ls st X kc ks o Y := by
  intro p l e s m args below meth c H locs arr G base C w S hl
  refine kk p l e s m args below meth c H locs arr G base C w S (x_lsub hl fun q hq => ?_)
  obtain ⟨k, u, h1, h2⟩ := (x_ls_mem _ 0).mp hq
  exact (x_ls_mem _ 0).mpr ⟨k, u, hs k u h1, h2⟩
section XE
variable {M : x_MT} {mc ms pc kc ks : Nat} {ls : List (Option Value)} {st : List Value} {X Y : xS} {o : xO}

theorem e_iconst (k nx : Nat) {n : Int} (hd : (mIns M)[k]? = some (pc, .iconst n, 1)) (hn : pc + 1 = nx) (kk : x_E M mc ms nx ls (.int (ii n) :: st) X kc ks o Y) : x_E M mc ms pc ls st X kc ks o Y := by
  subst hn
  intro p l e s m args below meth c H locs arr G base C w S hl
  have hx := C.2.1
  have hb := C.2.2.1
  exact lv_iconst hx hb (x_dec C.1 hd) rfl (kk p l e s m args below meth c H locs arr G base C w S hl)
theorem e_bipush (k nx : Nat) {n : Int} (hd : (mIns M)[k]? = some (pc, .bipush n, 2)) (hn : pc + 2 = nx) (hv : (Int8.ofInt n).toInt32 = ii n) (kk : x_E M mc ms nx ls (.int (ii n) :: st) X kc ks o Y) : x_E M mc ms pc ls st X kc ks o Y := by
  subst hn
  intro p l e s m args below meth c H locs arr G base C w S hl
  have hx := C.2.1
  have hb := C.2.2.1
  exact lv_bipush hx hb (x_dec C.1 hd) hv (kk p l e s m args below meth c H locs arr G base C w S hl)
theorem e_sipush (k nx : Nat) {n : Int} (hd : (mIns M)[k]? = some (pc, .sipush n, 3)) (hn : pc + 3 = nx) (hv : (Int16.ofInt n).toInt32 = ii n) (kk : x_E M mc ms nx ls (.int (ii n) :: st) X kc ks o Y) : x_E M mc ms pc ls st X kc ks o Y := by
  subst hn
  intro p l e s m args below meth c H locs arr G base C w S hl
  have hx := C.2.1
  have hb := C.2.2.1
  exact lv_sipush hx hb (x_dec C.1 hd) hv (kk p l e s m args below meth c H locs arr G base C w S hl)
theorem e_lconst (k nx : Nat) {n : Fin 2} (hd : (mIns M)[k]? = some (pc, .lconst n, 1)) (hn : pc + 1 = nx) (kk : x_E M mc ms nx ls (.long (ll (n : Nat)) :: st) X kc ks o Y) : x_E M mc ms pc ls st X kc ks o Y := by
  subst hn
  intro p l e s m args below meth c H locs arr G base C w S hl
  have hx := C.2.1
  have hb := C.2.2.1
  exact lv_lconst hx hb (x_dec C.1 hd) rfl (kk p l e s m args below meth c H locs arr G base C w S hl)
theorem e_iload_n (k nx : Nat) {j : Fin 4} {i : Nat} {x : Int32} (hd : (mIns M)[k]? = some (pc, .iload_n j, 1)) (hn : pc + 1 = nx) (hi : (j : Nat) = i) (hl0 : ls[i]? = some (some (.int x))) (kk : x_E M mc ms nx ls (.int x :: st) X kc ks o Y) : x_E M mc ms pc ls st X kc ks o Y := by
  subst hn
  intro p l e s m args below meth c H locs arr G base C w S hl
  have hx := C.2.1
  have hb := C.2.2.1
  exact lv_iload_n hx hb (x_dec C.1 hd) hi (x_lget hl hl0) (kk p l e s m args below meth c H locs arr G base C w S hl)
theorem e_iload (k nx : Nat) {i : Nat} {x : Int32} (hd : (mIns M)[k]? = some (pc, .iload i, 2)) (hn : pc + 2 = nx) (hl0 : ls[i]? = some (some (.int x))) (kk : x_E M mc ms nx ls (.int x :: st) X kc ks o Y) : x_E M mc ms pc ls st X kc ks o Y := by
  subst hn
  intro p l e s m args below meth c H locs arr G base C w S hl
  have hx := C.2.1
  have hb := C.2.2.1
  exact lv_iload hx hb (x_dec C.1 hd) (x_lget hl hl0) (kk p l e s m args below meth c H locs arr G base C w S hl)
theorem e_istore_n (k nx : Nat) {j : Fin 4} {i : Nat} {x : Int32} {ls' : List (Option Value)} (hd : (mIns M)[k]? = some (pc, .istore_n j, 1)) (hn : pc + 1 = nx) (hi : (j : Nat) = i) (hm : i < mL M) (he : x_st1 ls i (.int x) = ls') (kk : x_E M mc ms nx ls' st X kc ks o Y) : x_E M mc ms pc ls (.int x :: st) X kc ks o Y := by
  subst hn
  subst he
  intro p l e s m args below meth c H locs arr G base C w S hl
  have hx := C.2.1
  have hb := C.2.2.1
  exact lv_istore_n hx hb (x_dec C.1 hd) hi hl hm rfl (fun ls2 h2 => kk p l e s m args below meth c H locs ls2 G base C w S (x_lset1 h2))
theorem e_istore (k nx : Nat) {i : Nat} {x : Int32} {ls' : List (Option Value)} (hd : (mIns M)[k]? = some (pc, .istore i, 2)) (hn : pc + 2 = nx) (hm : i < mL M) (he : x_st1 ls i (.int x) = ls') (kk : x_E M mc ms nx ls' st X kc ks o Y) : x_E M mc ms pc ls (.int x :: st) X kc ks o Y := by
  subst hn
  subst he
  intro p l e s m args below meth c H locs arr G base C w S hl
  have hx := C.2.1
  have hb := C.2.2.1
  exact lv_istore hx hb (x_dec C.1 hd) hl hm rfl (fun ls2 h2 => kk p l e s m args below meth c H locs ls2 G base C w S (x_lset1 h2))
theorem e_lload_n (k nx : Nat) {j : Fin 4} {i : Nat} {x : Int64} (hd : (mIns M)[k]? = some (pc, .lload_n j, 1)) (hn : pc + 1 = nx) (hi : (j : Nat) = i) (hl0 : ls[i]? = some (some (.long x))) (kk : x_E M mc ms nx ls (.long x :: st) X kc ks o Y) : x_E M mc ms pc ls st X kc ks o Y := by
  subst hn
  intro p l e s m args below meth c H locs arr G base C w S hl
  have hx := C.2.1
  have hb := C.2.2.1
  exact lv_lload_n hx hb (x_dec C.1 hd) hi (x_lget hl hl0) (kk p l e s m args below meth c H locs arr G base C w S hl)
theorem e_lload (k nx : Nat) {i : Nat} {x : Int64} (hd : (mIns M)[k]? = some (pc, .lload i, 2)) (hn : pc + 2 = nx) (hl0 : ls[i]? = some (some (.long x))) (kk : x_E M mc ms nx ls (.long x :: st) X kc ks o Y) : x_E M mc ms pc ls st X kc ks o Y := by
  subst hn
  intro p l e s m args below meth c H locs arr G base C w S hl
  have hx := C.2.1
  have hb := C.2.2.1
  exact lv_lload hx hb (x_dec C.1 hd) (x_lget hl hl0) (kk p l e s m args below meth c H locs arr G base C w S hl)
theorem e_lstore_n (k nx : Nat) {j : Fin 4} {i : Nat} {x : Int64} {ls' : List (Option Value)} (hd : (mIns M)[k]? = some (pc, .lstore_n j, 1)) (hn : pc + 1 = nx) (hi : (j : Nat) = i) (hm : i + 1 < mL M) (he : x_st2 ls i (.long x) = ls') (kk : x_E M mc ms nx ls' st X kc ks o Y) : x_E M mc ms pc ls (.long x :: st) X kc ks o Y := by
  subst hn
  subst he
  intro p l e s m args below meth c H locs arr G base C w S hl
  have hx := C.2.1
  have hb := C.2.2.1
  exact lv_lstore_n hx hb (x_dec C.1 hd) hi hl hm rfl (fun ls2 h2 => kk p l e s m args below meth c H locs ls2 G base C w S (x_lset2 h2))
theorem e_lstore (k nx : Nat) {i : Nat} {x : Int64} {ls' : List (Option Value)} (hd : (mIns M)[k]? = some (pc, .lstore i, 2)) (hn : pc + 2 = nx) (hm : i + 1 < mL M) (he : x_st2 ls i (.long x) = ls') (kk : x_E M mc ms nx ls' st X kc ks o Y) : x_E M mc ms pc ls (.long x :: st) X kc ks o Y := by
  subst hn
  subst he
  intro p l e s m args below meth c H locs arr G base C w S hl
  have hx := C.2.1
  have hb := C.2.2.1
  exact lv_lstore hx hb (x_dec C.1 hd) hl hm rfl (fun ls2 h2 => kk p l e s m args below meth c H locs ls2 G base C w S (x_lset2 h2))
theorem e_aload_n (k nx : Nat) {j : Fin 4} {i : Nat} {x : Nat} (hd : (mIns M)[k]? = some (pc, .aload_n j, 1)) (hn : pc + 1 = nx) (hi : (j : Nat) = i) (hl0 : ls[i]? = some (some (.ref x))) (kk : x_E M mc ms nx ls (.ref x :: st) X kc ks o Y) : x_E M mc ms pc ls st X kc ks o Y := by
  subst hn
  intro p l e s m args below meth c H locs arr G base C w S hl
  have hx := C.2.1
  have hb := C.2.2.1
  exact lv_aload_n hx hb (x_dec C.1 hd) hi (x_lget hl hl0) (kk p l e s m args below meth c H locs arr G base C w S hl)
theorem e_aload (k nx : Nat) {i : Nat} {x : Nat} (hd : (mIns M)[k]? = some (pc, .aload i, 2)) (hn : pc + 2 = nx) (hl0 : ls[i]? = some (some (.ref x))) (kk : x_E M mc ms nx ls (.ref x :: st) X kc ks o Y) : x_E M mc ms pc ls st X kc ks o Y := by
  subst hn
  intro p l e s m args below meth c H locs arr G base C w S hl
  have hx := C.2.1
  have hb := C.2.2.1
  exact lv_aload hx hb (x_dec C.1 hd) (x_lget hl hl0) (kk p l e s m args below meth c H locs arr G base C w S hl)
theorem e_astore_n (k nx : Nat) {j : Fin 4} {i : Nat} {x : Nat} {ls' : List (Option Value)} (hd : (mIns M)[k]? = some (pc, .astore_n j, 1)) (hn : pc + 1 = nx) (hi : (j : Nat) = i) (hm : i < mL M) (he : x_st1 ls i (.ref x) = ls') (kk : x_E M mc ms nx ls' st X kc ks o Y) : x_E M mc ms pc ls (.ref x :: st) X kc ks o Y := by
  subst hn
  subst he
  intro p l e s m args below meth c H locs arr G base C w S hl
  have hx := C.2.1
  have hb := C.2.2.1
  exact lv_astore_n hx hb (x_dec C.1 hd) hi hl hm rfl (fun ls2 h2 => kk p l e s m args below meth c H locs ls2 G base C w S (x_lset1 h2))
theorem e_astore (k nx : Nat) {i : Nat} {x : Nat} {ls' : List (Option Value)} (hd : (mIns M)[k]? = some (pc, .astore i, 2)) (hn : pc + 2 = nx) (hm : i < mL M) (he : x_st1 ls i (.ref x) = ls') (kk : x_E M mc ms nx ls' st X kc ks o Y) : x_E M mc ms pc ls (.ref x :: st) X kc ks o Y := by
  subst hn
  subst he
  intro p l e s m args below meth c H locs arr G base C w S hl
  have hx := C.2.1
  have hb := C.2.2.1
  exact lv_astore hx hb (x_dec C.1 hd) hl hm rfl (fun ls2 h2 => kk p l e s m args below meth c H locs ls2 G base C w S (x_lset1 h2))
theorem e_iinc (k nx : Nat) {i : Nat} {n : Int} {x : Int} {ls' : List (Option Value)} (hd : (mIns M)[k]? = some (pc, .iinc i n, 3)) (hn : pc + 3 = nx) (hm : i < mL M) (hl0 : ls[i]? = some (some (.int (ii x)))) (he : x_st1 ls i (.int (ii (x + n))) = ls') (kk : x_E M mc ms nx ls' st X kc ks o Y) : x_E M mc ms pc ls st X kc ks o Y := by
  subst hn
  subst he
  intro p l e s m args below meth c H locs arr G base C w S hl
  have hx := C.2.1
  have hb := C.2.2.1
  obtain ⟨z, hz⟩ := List.getElem?_of_mem ((x_ls_mem (base := base) (q := (i, .int (ii x))) ls 0).mpr ⟨i, .int (ii x), hl0, by simp [x_v]⟩)
  exact lv_iinc hx hb (x_dec C.1 hd) hl hz (ii_add x n) hm rfl (fun ls2 h2 => kk p l e s m args below meth c H locs ls2 G base C w S (x_lset1 (v := .int (ii (x + n))) h2))
theorem e_iadd (k nx : Nat) {x y : Int} (hd : (mIns M)[k]? = some (pc, .iadd, 1)) (hn : pc + 1 = nx) (kk : x_E M mc ms nx ls (.int (ii (x + y)) :: st) X kc ks o Y) : x_E M mc ms pc ls (.int (ii y) :: .int (ii x) :: st) X kc ks o Y := by
  subst hn
  intro p l e s m args below meth c H locs arr G base C w S hl
  have hx := C.2.1
  have hb := C.2.2.1
  refine lv_iadd (x := ii x) (y := ii y) hx hb (x_dec C.1 hd) ?_
  rw [ii_add]
  exact kk p l e s m args below meth c H locs arr G base C w S hl
theorem e_isub (k nx : Nat) {x y : Int} (hd : (mIns M)[k]? = some (pc, .isub, 1)) (hn : pc + 1 = nx) (kk : x_E M mc ms nx ls (.int (ii (x - y)) :: st) X kc ks o Y) : x_E M mc ms pc ls (.int (ii y) :: .int (ii x) :: st) X kc ks o Y := by
  subst hn
  intro p l e s m args below meth c H locs arr G base C w S hl
  have hx := C.2.1
  have hb := C.2.2.1
  refine lv_isub (x := ii x) (y := ii y) hx hb (x_dec C.1 hd) ?_
  rw [ii_sub]
  exact kk p l e s m args below meth c H locs arr G base C w S hl
theorem e_imul (k nx : Nat) {x y : Int} (hd : (mIns M)[k]? = some (pc, .imul, 1)) (hn : pc + 1 = nx) (kk : x_E M mc ms nx ls (.int (ii (x * y)) :: st) X kc ks o Y) : x_E M mc ms pc ls (.int (ii y) :: .int (ii x) :: st) X kc ks o Y := by
  subst hn
  intro p l e s m args below meth c H locs arr G base C w S hl
  have hx := C.2.1
  have hb := C.2.2.1
  refine lv_imul (x := ii x) (y := ii y) hx hb (x_dec C.1 hd) ?_
  rw [ii_mul]
  exact kk p l e s m args below meth c H locs arr G base C w S hl
theorem e_ladd (k nx : Nat) {x y : Int} (hd : (mIns M)[k]? = some (pc, .ladd, 1)) (hn : pc + 1 = nx) (kk : x_E M mc ms nx ls (.long (ll (x + y)) :: st) X kc ks o Y) : x_E M mc ms pc ls (.long (ll y) :: .long (ll x) :: st) X kc ks o Y := by
  subst hn
  intro p l e s m args below meth c H locs arr G base C w S hl
  have hx := C.2.1
  have hb := C.2.2.1
  refine lv_ladd (x := ll x) (y := ll y) hx hb (x_dec C.1 hd) ?_
  rw [ll_add]
  exact kk p l e s m args below meth c H locs arr G base C w S hl
theorem e_lmul (k nx : Nat) {x y : Int} (hd : (mIns M)[k]? = some (pc, .lmul, 1)) (hn : pc + 1 = nx) (kk : x_E M mc ms nx ls (.long (ll (x * y)) :: st) X kc ks o Y) : x_E M mc ms pc ls (.long (ll y) :: .long (ll x) :: st) X kc ks o Y := by
  subst hn
  intro p l e s m args below meth c H locs arr G base C w S hl
  have hx := C.2.1
  have hb := C.2.2.1
  refine lv_lmul (x := ll x) (y := ll y) hx hb (x_dec C.1 hd) ?_
  rw [ll_mul]
  exact kk p l e s m args below meth c H locs arr G base C w S hl
theorem e_land (k nx : Nat) {x y : Int64} (hd : (mIns M)[k]? = some (pc, .land, 1)) (hn : pc + 1 = nx) (kk : x_E M mc ms nx ls (.long (x &&& y) :: st) X kc ks o Y) : x_E M mc ms pc ls (.long y :: .long x :: st) X kc ks o Y := by
  subst hn
  intro p l e s m args below meth c H locs arr G base C w S hl
  have hx := C.2.1
  have hb := C.2.2.1
  exact lv_land hx hb (x_dec C.1 hd) (kk p l e s m args below meth c H locs arr G base C w S hl)
theorem e_lor (k nx : Nat) {x y : Int64} (hd : (mIns M)[k]? = some (pc, .lor, 1)) (hn : pc + 1 = nx) (kk : x_E M mc ms nx ls (.long (x ||| y) :: st) X kc ks o Y) : x_E M mc ms pc ls (.long y :: .long x :: st) X kc ks o Y := by
  subst hn
  intro p l e s m args below meth c H locs arr G base C w S hl
  have hx := C.2.1
  have hb := C.2.2.1
  exact lv_lor hx hb (x_dec C.1 hd) (kk p l e s m args below meth c H locs arr G base C w S hl)
theorem e_lxor (k nx : Nat) {x y : Int64} (hd : (mIns M)[k]? = some (pc, .lxor, 1)) (hn : pc + 1 = nx) (kk : x_E M mc ms nx ls (.long (x ^^^ y) :: st) X kc ks o Y) : x_E M mc ms pc ls (.long y :: .long x :: st) X kc ks o Y := by
  subst hn
  intro p l e s m args below meth c H locs arr G base C w S hl
  have hx := C.2.1
  have hb := C.2.2.1
  exact lv_lxor hx hb (x_dec C.1 hd) (kk p l e s m args below meth c H locs arr G base C w S hl)
theorem e_lshl (k nx : Nat) {x : Int64} {y : Int32} (hd : (mIns M)[k]? = some (pc, .lshl, 1)) (hn : pc + 1 = nx) (kk : x_E M mc ms nx ls (.long (x <<< (y.toInt64 &&& 63)) :: st) X kc ks o Y) : x_E M mc ms pc ls (.int y :: .long x :: st) X kc ks o Y := by
  subst hn
  intro p l e s m args below meth c H locs arr G base C w S hl
  have hx := C.2.1
  have hb := C.2.2.1
  exact lv_lshl hx hb (x_dec C.1 hd) rfl (kk p l e s m args below meth c H locs arr G base C w S hl)
theorem e_lshr (k nx : Nat) {x : Int64} {y : Int32} (hd : (mIns M)[k]? = some (pc, .lshr, 1)) (hn : pc + 1 = nx) (kk : x_E M mc ms nx ls (.long (x >>> (y.toInt64 &&& 63)) :: st) X kc ks o Y) : x_E M mc ms pc ls (.int y :: .long x :: st) X kc ks o Y := by
  subst hn
  intro p l e s m args below meth c H locs arr G base C w S hl
  have hx := C.2.1
  have hb := C.2.2.1
  exact lv_lshr hx hb (x_dec C.1 hd) rfl (kk p l e s m args below meth c H locs arr G base C w S hl)
theorem e_iand (k nx : Nat) {x y : Int32} (hd : (mIns M)[k]? = some (pc, .iand, 1)) (hn : pc + 1 = nx) (kk : x_E M mc ms nx ls (.int (x &&& y) :: st) X kc ks o Y) : x_E M mc ms pc ls (.int y :: .int x :: st) X kc ks o Y := by
  subst hn
  intro p l e s m args below meth c H locs arr G base C w S hl
  have hx := C.2.1
  have hb := C.2.2.1
  exact lv_iand hx hb (x_dec C.1 hd) (kk p l e s m args below meth c H locs arr G base C w S hl)
theorem e_idiv (k nx : Nat) {x y z : Int} (hd : (mIns M)[k]? = some (pc, .idiv, 1)) (hn : pc + 1 = nx) (hne : ¬ ii y = 0) (hz : ii x / ii y = ii z) (kk : x_E M mc ms nx ls (.int (ii z) :: st) X kc ks o Y) : x_E M mc ms pc ls (.int (ii y) :: .int (ii x) :: st) X kc ks o Y := by
  subst hn
  intro p l e s m args below meth c H locs arr G base C w S hl
  have hx := C.2.1
  have hb := C.2.2.1
  refine lv_idiv (x := ii x) (y := ii y) hx hb (x_dec C.1 hd) hne ?_
  rw [hz]
  exact kk p l e s m args below meth c H locs arr G base C w S hl
theorem e_irem (k nx : Nat) {x y z : Int} (hd : (mIns M)[k]? = some (pc, .irem, 1)) (hn : pc + 1 = nx) (hne : ¬ ii y = 0) (hz : ii x - ii x / ii y * ii y = ii z) (kk : x_E M mc ms nx ls (.int (ii z) :: st) X kc ks o Y) : x_E M mc ms pc ls (.int (ii y) :: .int (ii x) :: st) X kc ks o Y := by
  subst hn
  intro p l e s m args below meth c H locs arr G base C w S hl
  have hx := C.2.1
  have hb := C.2.2.1
  refine lv_irem (x := ii x) (y := ii y) hx hb (x_dec C.1 hd) hne ?_
  rw [hz]
  exact kk p l e s m args below meth c H locs arr G base C w S hl
theorem e_i2l (k nx : Nat) {x : Int} (hd : (mIns M)[k]? = some (pc, .i2l, 1)) (hn : pc + 1 = nx) (hr : xr x) (kk : x_E M mc ms nx ls (.long (ll x) :: st) X kc ks o Y) : x_E M mc ms pc ls (.int (ii x) :: st) X kc ks o Y := by
  subst hn
  intro p l e s m args below meth c H locs arr G base C w S hl
  have hx := C.2.1
  have hb := C.2.2.1
  exact lv_i2l hx hb (x_dec C.1 hd) (ii_i2l hr) (kk p l e s m args below meth c H locs arr G base C w S hl)
theorem e_lcmp (k nx : Nat) {x y : Int64} (hd : (mIns M)[k]? = some (pc, .lcmp, 1)) (hn : pc + 1 = nx) (kk : x_E M mc ms nx ls (.int (lg_cmp x y) :: st) X kc ks o Y) : x_E M mc ms pc ls (.long y :: .long x :: st) X kc ks o Y := by
  subst hn
  intro p l e s m args below meth c H locs arr G base C w S hl
  have hx := C.2.1
  have hb := C.2.2.1
  exact W.lcmp hx hb (x_dec C.1 hd) (kk p l e s m args below meth c H locs arr G base C w S hl)
theorem e_dup (k nx : Nat) {v : Value} (hd : (mIns M)[k]? = some (pc, .dup, 1)) (hn : pc + 1 = nx) (hc : v.category = 1) (kk : x_E M mc ms nx ls (v :: v :: st) X kc ks o Y) : x_E M mc ms pc ls (v :: st) X kc ks o Y := by
  subst hn
  intro p l e s m args below meth c H locs arr G base C w S hl
  have hx := C.2.1
  have hb := C.2.2.1
  exact lv_dup hx hb (x_dec C.1 hd) ((x_v_cat base v).trans hc) (kk p l e s m args below meth c H locs arr G base C w S hl)
theorem e_dup2 (k nx : Nat) {v u : Value} (hd : (mIns M)[k]? = some (pc, .dup2, 1)) (hn : pc + 1 = nx) (hc : v.category = 1) (hc2 : u.category = 1) (kk : x_E M mc ms nx ls (v :: u :: v :: u :: st) X kc ks o Y) : x_E M mc ms pc ls (v :: u :: st) X kc ks o Y := by
  subst hn
  intro p l e s m args below meth c H locs arr G base C w S hl
  have hx := C.2.1
  have hb := C.2.2.1
  exact lv_dup2_11 hx hb (x_dec C.1 hd) ((x_v_cat base v).trans hc) ((x_v_cat base u).trans hc2) (kk p l e s m args below meth c H locs arr G base C w S hl)
theorem e_pop (k nx : Nat) {v : Value} (hd : (mIns M)[k]? = some (pc, .pop, 1)) (hn : pc + 1 = nx) (hc : v.category = 1) (kk : x_E M mc ms nx ls st X kc ks o Y) : x_E M mc ms pc ls (v :: st) X kc ks o Y := by
  subst hn
  intro p l e s m args below meth c H locs arr G base C w S hl
  have hx := C.2.1
  have hb := C.2.2.1
  exact lv_pop hx hb (x_dec C.1 hd) ((x_v_cat base v).trans hc) (kk p l e s m args below meth c H locs arr G base C w S hl)
theorem e_goto (k tg : Nat) {off : Int} (hd : (mIns M)[k]? = some (pc, .goto off, 3)) (ht : (pc : Int) + off = (tg : Int)) (kk : x_E M mc ms tg ls st X kc ks o Y) : x_E M mc ms pc ls st X kc ks o Y := by
  intro p l e s m args below meth c H locs arr G base C w S hl
  have hx := C.2.1
  have hb := C.2.2.1
  exact lv_goto hx hb (x_dec C.1 hd) ht (kk p l e s m args below meth c H locs arr G base C w S hl)
theorem e_icmp_eq (k tg nx : Nat) {x y : Int} {off : Int} (hd : (mIns M)[k]? = some (pc, .if_icmp .eq off, 3)) (ht : (pc : Int) + off = (tg : Int)) (hn : pc + 3 = nx) (hrx : xr x) (hry : xr y) (kt : x = y → x_E M mc ms tg ls st X kc ks o Y) (kf : ¬ x = y → x_E M mc ms nx ls st X kc ks o Y) : x_E M mc ms pc ls (.int (ii y) :: .int (ii x) :: st) X kc ks o Y := by
  subst hn
  intro p l e s m args below meth c H locs arr G base C w S hl
  have hx := C.2.1
  have hb := C.2.2.1
  exact lv_icmp_eq hx hb (x_dec C.1 hd) ht (fun h => kt ((ii_eq hrx hry).mp h) p l e s m args below meth c H locs arr G base C w S hl) (fun h => kf (fun q => h ((ii_eq hrx hry).mpr q)) p l e s m args below meth c H locs arr G base C w S hl)
theorem e_if_eq (k tg nx : Nat) {x : Int} {off : Int} (hd : (mIns M)[k]? = some (pc, .ifCond .eq off, 3)) (ht : (pc : Int) + off = (tg : Int)) (hn : pc + 3 = nx) (hrx : xr x) (kt : x = 0 → x_E M mc ms tg ls st X kc ks o Y) (kf : ¬ x = 0 → x_E M mc ms nx ls st X kc ks o Y) : x_E M mc ms pc ls (.int (ii x) :: st) X kc ks o Y := by
  subst hn
  intro p l e s m args below meth c H locs arr G base C w S hl
  have hx := C.2.1
  have hb := C.2.2.1
  exact lv_if_eq hx hb (x_dec C.1 hd) ht (fun h => kt ((ii_eq hrx xr_0).mp h) p l e s m args below meth c H locs arr G base C w S hl) (fun h => kf (fun q => h ((ii_eq hrx xr_0).mpr q)) p l e s m args below meth c H locs arr G base C w S hl)
theorem e_icmp_ne (k tg nx : Nat) {x y : Int} {off : Int} (hd : (mIns M)[k]? = some (pc, .if_icmp .ne off, 3)) (ht : (pc : Int) + off = (tg : Int)) (hn : pc + 3 = nx) (hrx : xr x) (hry : xr y) (kt : ¬ x = y → x_E M mc ms tg ls st X kc ks o Y) (kf : x = y → x_E M mc ms nx ls st X kc ks o Y) : x_E M mc ms pc ls (.int (ii y) :: .int (ii x) :: st) X kc ks o Y := by
  subst hn
  intro p l e s m args below meth c H locs arr G base C w S hl
  have hx := C.2.1
  have hb := C.2.2.1
  exact lv_icmp_ne hx hb (x_dec C.1 hd) ht (fun h => kt (fun q => h ((ii_eq hrx hry).mpr q)) p l e s m args below meth c H locs arr G base C w S hl) (fun h => kf ((ii_eq hrx hry).mp h) p l e s m args below meth c H locs arr G base C w S hl)
theorem e_if_ne (k tg nx : Nat) {x : Int} {off : Int} (hd : (mIns M)[k]? = some (pc, .ifCond .ne off, 3)) (ht : (pc : Int) + off = (tg : Int)) (hn : pc + 3 = nx) (hrx : xr x) (kt : ¬ x = 0 → x_E M mc ms tg ls st X kc ks o Y) (kf : x = 0 → x_E M mc ms nx ls st X kc ks o Y) : x_E M mc ms pc ls (.int (ii x) :: st) X kc ks o Y := by
  subst hn
  intro p l e s m args below meth c H locs arr G base C w S hl
  have hx := C.2.1
  have hb := C.2.2.1
  exact lv_if_ne hx hb (x_dec C.1 hd) ht (fun h => kt (fun q => h ((ii_eq hrx xr_0).mpr q)) p l e s m args below meth c H locs arr G base C w S hl) (fun h => kf ((ii_eq hrx xr_0).mp h) p l e s m args below meth c H locs arr G base C w S hl)
theorem e_icmp_lt (k tg nx : Nat) {x y : Int} {off : Int} (hd : (mIns M)[k]? = some (pc, .if_icmp .lt off, 3)) (ht : (pc : Int) + off = (tg : Int)) (hn : pc + 3 = nx) (hrx : xr x) (hry : xr y) (kt : x < y → x_E M mc ms tg ls st X kc ks o Y) (kf : y ≤ x → x_E M mc ms nx ls st X kc ks o Y) : x_E M mc ms pc ls (.int (ii y) :: .int (ii x) :: st) X kc ks o Y := by
  subst hn
  intro p l e s m args below meth c H locs arr G base C w S hl
  have hx := C.2.1
  have hb := C.2.2.1
  exact lv_icmp_lt hx hb (x_dec C.1 hd) ht (fun h => kt ((ii_lt hrx hry).mp h) p l e s m args below meth c H locs arr G base C w S hl) (fun h => kf (Int.not_lt.mp (fun q => h ((ii_lt hrx hry).mpr q))) p l e s m args below meth c H locs arr G base C w S hl)
theorem e_if_lt (k tg nx : Nat) {x : Int} {off : Int} (hd : (mIns M)[k]? = some (pc, .ifCond .lt off, 3)) (ht : (pc : Int) + off = (tg : Int)) (hn : pc + 3 = nx) (hrx : xr x) (kt : x < 0 → x_E M mc ms tg ls st X kc ks o Y) (kf : 0 ≤ x → x_E M mc ms nx ls st X kc ks o Y) : x_E M mc ms pc ls (.int (ii x) :: st) X kc ks o Y := by
  subst hn
  intro p l e s m args below meth c H locs arr G base C w S hl
  have hx := C.2.1
  have hb := C.2.2.1
  exact lv_if_lt hx hb (x_dec C.1 hd) ht (fun h => kt ((ii_lt hrx xr_0).mp h) p l e s m args below meth c H locs arr G base C w S hl) (fun h => kf (Int.not_lt.mp (fun q => h ((ii_lt hrx xr_0).mpr q))) p l e s m args below meth c H locs arr G base C w S hl)
theorem e_icmp_ge (k tg nx : Nat) {x y : Int} {off : Int} (hd : (mIns M)[k]? = some (pc, .if_icmp .ge off, 3)) (ht : (pc : Int) + off = (tg : Int)) (hn : pc + 3 = nx) (hrx : xr x) (hry : xr y) (kt : y ≤ x → x_E M mc ms tg ls st X kc ks o Y) (kf : x < y → x_E M mc ms nx ls st X kc ks o Y) : x_E M mc ms pc ls (.int (ii y) :: .int (ii x) :: st) X kc ks o Y := by
  subst hn
  intro p l e s m args below meth c H locs arr G base C w S hl
  have hx := C.2.1
  have hb := C.2.2.1
  exact lv_icmp_ge hx hb (x_dec C.1 hd) ht (fun h => kt ((ii_le hry hrx).mp h) p l e s m args below meth c H locs arr G base C w S hl) (fun h => kf (Int.not_le.mp (fun q => h ((ii_le hry hrx).mpr q))) p l e s m args below meth c H locs arr G base C w S hl)
theorem e_if_ge (k tg nx : Nat) {x : Int} {off : Int} (hd : (mIns M)[k]? = some (pc, .ifCond .ge off, 3)) (ht : (pc : Int) + off = (tg : Int)) (hn : pc + 3 = nx) (hrx : xr x) (kt : 0 ≤ x → x_E M mc ms tg ls st X kc ks o Y) (kf : x < 0 → x_E M mc ms nx ls st X kc ks o Y) : x_E M mc ms pc ls (.int (ii x) :: st) X kc ks o Y := by
  subst hn
  intro p l e s m args below meth c H locs arr G base C w S hl
  have hx := C.2.1
  have hb := C.2.2.1
  exact lv_if_ge hx hb (x_dec C.1 hd) ht (fun h => kt ((ii_le xr_0 hrx).mp h) p l e s m args below meth c H locs arr G base C w S hl) (fun h => kf (Int.not_le.mp (fun q => h ((ii_le xr_0 hrx).mpr q))) p l e s m args below meth c H locs arr G base C w S hl)
theorem e_icmp_gt (k tg nx : Nat) {x y : Int} {off : Int} (hd : (mIns M)[k]? = some (pc, .if_icmp .gt off, 3)) (ht : (pc : Int) + off = (tg : Int)) (hn : pc + 3 = nx) (hrx : xr x) (hry : xr y) (kt : y < x → x_E M mc ms tg ls st X kc ks o Y) (kf : x ≤ y → x_E M mc ms nx ls st X kc ks o Y) : x_E M mc ms pc ls (.int (ii y) :: .int (ii x) :: st) X kc ks o Y := by
  subst hn
  intro p l e s m args below meth c H locs arr G base C w S hl
  have hx := C.2.1
  have hb := C.2.2.1
  exact lv_icmp_gt hx hb (x_dec C.1 hd) ht (fun h => kt ((ii_lt hry hrx).mp h) p l e s m args below meth c H locs arr G base C w S hl) (fun h => kf (Int.not_lt.mp (fun q => h ((ii_lt hry hrx).mpr q))) p l e s m args below meth c H locs arr G base C w S hl)
theorem e_if_gt (k tg nx : Nat) {x : Int} {off : Int} (hd : (mIns M)[k]? = some (pc, .ifCond .gt off, 3)) (ht : (pc : Int) + off = (tg : Int)) (hn : pc + 3 = nx) (hrx : xr x) (kt : 0 < x → x_E M mc ms tg ls st X kc ks o Y) (kf : x ≤ 0 → x_E M mc ms nx ls st X kc ks o Y) : x_E M mc ms pc ls (.int (ii x) :: st) X kc ks o Y := by
  subst hn
  intro p l e s m args below meth c H locs arr G base C w S hl
  have hx := C.2.1
  have hb := C.2.2.1
  exact lv_if_gt hx hb (x_dec C.1 hd) ht (fun h => kt ((ii_lt xr_0 hrx).mp h) p l e s m args below meth c H locs arr G base C w S hl) (fun h => kf (Int.not_lt.mp (fun q => h ((ii_lt xr_0 hrx).mpr q))) p l e s m args below meth c H locs arr G base C w S hl)
theorem e_icmp_le (k tg nx : Nat) {x y : Int} {off : Int} (hd : (mIns M)[k]? = some (pc, .if_icmp .le off, 3)) (ht : (pc : Int) + off = (tg : Int)) (hn : pc + 3 = nx) (hrx : xr x) (hry : xr y) (kt : x ≤ y → x_E M mc ms tg ls st X kc ks o Y) (kf : y < x → x_E M mc ms nx ls st X kc ks o Y) : x_E M mc ms pc ls (.int (ii y) :: .int (ii x) :: st) X kc ks o Y := by
  subst hn
  intro p l e s m args below meth c H locs arr G base C w S hl
  have hx := C.2.1
  have hb := C.2.2.1
  exact lv_icmp_le hx hb (x_dec C.1 hd) ht (fun h => kt ((ii_le hrx hry).mp h) p l e s m args below meth c H locs arr G base C w S hl) (fun h => kf (Int.not_le.mp (fun q => h ((ii_le hrx hry).mpr q))) p l e s m args below meth c H locs arr G base C w S hl)
theorem e_if_le (k tg nx : Nat) {x : Int} {off : Int} (hd : (mIns M)[k]? = some (pc, .ifCond .le off, 3)) (ht : (pc : Int) + off = (tg : Int)) (hn : pc + 3 = nx) (hrx : xr x) (kt : x ≤ 0 → x_E M mc ms tg ls st X kc ks o Y) (kf : 0 < x → x_E M mc ms nx ls st X kc ks o Y) : x_E M mc ms pc ls (.int (ii x) :: st) X kc ks o Y := by
  subst hn
  intro p l e s m args below meth c H locs arr G base C w S hl
  have hx := C.2.1
  have hb := C.2.2.1
  exact lv_if_le hx hb (x_dec C.1 hd) ht (fun h => kt ((ii_le hrx xr_0).mp h) p l e s m args below meth c H locs arr G base C w S hl) (fun h => kf (Int.not_le.mp (fun q => h ((ii_le hrx xr_0).mpr q))) p l e s m args below meth c H locs arr G base C w S hl)
end XE
end
section
/-! ===== entry, answers, calls ===== -/
def x_en : List Value → List (Option Value)
  | [] => []
  | v :: r => bif x_is2 (some (some v)) then some v :: none :: x_en r else some v :: x_en r
theorem x_is2_cat (v : Value) : x_is2 (some (some v)) = true ↔ v.category = 2 := by cases v <;> simp [x_is2, Value.category]
theorem x_en_mem {base : Nat} {q : Nat × Value} : ∀ (av : List Value) (i : Nat) (r : List (Option Value)), (∀ z, some z ∉ r) → q ∈ x_ls base i (x_en av ++ r) → q ∈ lv_args i (av.map (x_v base)) := by
  intro av
  induction av with
  | nil =>
    intro i r hr hq
    obtain ⟨k, u, h1, -⟩ := (x_ls_mem _ i).mp hq
    exact absurd (List.mem_of_getElem? h1) (by simpa [x_en] using hr u)
  | cons v av ih =>
    intro i r hr hq
    cases hb : x_is2 (some (some v)) with
    | true =>
      have e : x_en (v :: av) = some v :: none :: x_en av := by show (bif x_is2 (some (some v)) then _ else _) = _; rw [hb]; rfl
      have hc : (x_v base v).category = 2 := (x_v_cat base v).trans ((x_is2_cat v).mp hb)
      rw [e] at hq
      simp only [List.cons_append, x_ls, List.mem_cons] at hq
      simp only [List.map_cons, lv_args, hc, if_true, List.mem_cons]
      rcases hq with h | h
      · exact Or.inl h
      · exact Or.inr (ih (i + 2) r hr h)
    | false =>
      have e : x_en (v :: av) = some v :: x_en av := by show (bif x_is2 (some (some v)) then _ else _) = _; rw [hb]; rfl
      have hc : ¬ (x_v base v).category = 2 := fun z => by rw [x_v_cat] at z; rw [(x_is2_cat v).mpr z] at hb; cases hb
      rw [e] at hq
      simp only [List.cons_append, x_ls, List.mem_cons] at hq
      simp only [List.map_cons, lv_args, hc, if_false, List.mem_cons]
      rcases hq with h | h
      · exact Or.inl h
      · exact Or.inr (ih (i + 1) r hr h)
theorem x_sl_len (base : Nat) : ∀ av : List Value, (lg_sl (av.map (x_v base))).length = (x_en av).length := by
  intro av
  induction av with
  | nil => rfl
  | cons v av ih =>
    have e : lg_sl ((v :: av).map (x_v base)) = (if (x_v base v).category = 2 then [Slot.val (x_v base v), .second] else [.val (x_v base v)]) ++ lg_sl (av.map (x_v base)) := by simp [lg_sl]
    rw [e, List.length_append, ih]
    show _ = (bif x_is2 (some (some v)) then _ else _ : List (Option Value)).length
    cases hb : x_is2 (some (some v)) with
    | true =>
      rw [if_pos ((x_v_cat base v).trans ((x_is2_cat v).mp hb))]
      show _ = (some v :: none :: x_en av).length
      simp; omega
    | false =>
      rw [if_neg (fun z => by rw [x_v_cat] at z; rw [(x_is2_cat v).mpr z] at hb; cases hb)]
      show _ = (some v :: x_en av).length
      simp; omega
/-- a contract out of the judgement at the method's entry -/
theorem e_entry {M : x_MT} {mc ms : Nat} {av : List Value} {ls : List (Option Value)} {X Y : xS} {o : xO} (ok : x_MOk M) (hn : (x_en av).length ≤ mL M) (hls : x_en av ++ List.replicate (mL M - (x_en av).length) none = ls) (kk : x_E M mc ms 0 ls [] X 0 0 o Y) : x_Sp M mc ms av X o Y := by
  intro l G base hst
  refine vx_ofW (cc := mCode M) (maxL := mL M) (ret := mRet M) ok.2.2.1 rfl ?_
  intro p e s m args below meth c s₁ B hml htab hv
  obtain ⟨rfl, hw, hp⟩ := hv
  have hts := atoms_spec (ws := x_ws M) B.pre
  have hlen : (lg_sl (av.map (x_v base))).length ≤ mL M := by rw [x_sl_len]; exact hn
  have hl := lv_entry (av.map (x_v base)) hlen
  rw [lg_entry_eq]
  have hown : s.vm.findClass (mOwn M) = some m.cls := by rw [← ok.2.2.2.1]; exact findClass_of_methodNamed B.named
  refine kk p l e s m _ below meth c s.heap [] _ G base ⟨ok, B.exec, B.bytes, B.returns, hml, hown, fun w h => hts w (List.mem_cons_of_mem _ h), hp, htab, B.notSynchronized, (name_of_methodNamed B.named B.method).1, hst⟩ hw va_S.rf (x_lsub hl fun q hq => ?_)
  rw [← hls] at hq
  exact x_en_mem av 0 _ (fun z hz => by have := List.eq_of_mem_replicate hz; cases this) hq
section XR
variable {M : x_MT} {mc ms pc kc ks : Nat} {ls : List (Option Value)} {st : List Value} {X Y : xS} {o : xO}
theorem x_fin {below : List Frame} {base : Nat} {G : xG} {s : State} {args : Array Value} {v : Option Value} {H : Heap} {locs : List Loc} (w : x_W base G X H) (S : va_S (x_A base) s.heap H locs) (t : State) (ht : t.heap = H) : x_Qc base G (.inl v) X args s (.returned (v.map (x_v base))) t :=
  ⟨⟨v, rfl, rfl⟩, by rw [ht]; exact w, S.F ht⟩
theorem x_widen {p : Program} {l : Launch} {e : Env} {R : Room} {s : State} {m : MethodId} {args : Array Value} {below : List Frame} {meth : Method} {c : Code} {H : Heap} {locs : List Loc} {Qc : Array Value → State → Outcome → State → Prop} {XC : String → State → State → Prop} {free : Addr → Prop} {g : JFrame} (h1 : kc ≤ mc) (h2 : ks ≤ ms)
    (k : W p l e R s m args below meth c H locs mc ms (vx_MQ below Qc XC args s mc ms free) g) : W p l e R s m args below meth c H locs kc ks (vx_MQ below Qc XC args s mc ms free) g := fun T hT X => k T hT (stand_widen X h1 h2)
theorem e_ireturn (k : Nat) {x : Int} (hd : (mIns M)[k]? = some (pc, .ireturn, 1)) (hr : mRet M = some .int) (hc : kc ≤ mc) (hs : ks ≤ ms) : x_E M mc ms pc ls [.int (ii x)] X kc ks (.inl (some (.int (ii x)))) X := by
  intro p l e s m args below meth c H locs arr G base C w S hl
  refine x_widen hc hs (vx_ret ?_)
  exact W.iret (v := ii x) C.2.1 C.2.2.1 (C.2.2.2.1.trans hr) (fun t ht _ => x_fin (below := below) w S t ht) S.2.2 (x_dec C.1 hd) C.2.2.2.2.2.2.2.2.2.1
theorem e_zreturn (k : Nat) {x : Int} (hd : (mIns M)[k]? = some (pc, .ireturn, 1)) (hr : mRet M = some .boolean) (hx : x = 0 ∨ x = 1) (hc : kc ≤ mc) (hs : ks ≤ ms) : x_E M mc ms pc ls [.int (ii x)] X kc ks (.inl (some (.int (ii x)))) X := by
  intro p l e s m args below meth c H locs arr G base C w S hl
  refine x_widen hc hs (vx_ret ?_)
  exact W.zret (v := ii x) C.2.1 C.2.2.1 (C.2.2.2.1.trans hr) (by rcases hx with rfl | rfl <;> rfl) (fun t ht _ => x_fin (below := below) w S t ht) S.2.2 (x_dec C.1 hd) C.2.2.2.2.2.2.2.2.2.1
theorem e_lreturn (k : Nat) {x : Int64} (hd : (mIns M)[k]? = some (pc, .lreturn, 1)) (hr : mRet M = some .long) (hc : kc ≤ mc) (hs : ks ≤ ms) : x_E M mc ms pc ls [.long x] X kc ks (.inl (some (.long x))) X := by
  intro p l e s m args below meth c H locs arr G base C w S hl
  refine x_widen hc hs (vx_ret ?_)
  exact W.lret (v := x) C.2.1 C.2.2.1 (C.2.2.2.1.trans hr) (fun t ht _ => x_fin (below := below) w S t ht) S.2.2 (x_dec C.1 hd) C.2.2.2.2.2.2.2.2.2.1
theorem e_areturn (k : Nat) {a : Nat} {n : String} (hd : (mIns M)[k]? = some (pc, .areturn, 1)) (hr : mRet M = some (.object n)) (hc : kc ≤ mc) (hs : ks ≤ ms) : x_E M mc ms pc ls [.ref a] X kc ks (.inl (some (.ref a))) X := by
  intro p l e s m args below meth c H locs arr G base C w S hl
  refine x_widen hc hs (vx_ret ?_)
  exact W.aret (v := .ref (base + a)) C.2.1 C.2.2.1 (C.2.2.2.1.trans hr) (Or.inl ⟨n, rfl⟩) (Or.inr ⟨_, rfl⟩) (fun t ht _ => x_fin (below := below) w S t ht) S.2.2 (x_dec C.1 hd) C.2.2.2.2.2.2.2.2.2.1
theorem e_return (k : Nat) (hd : (mIns M)[k]? = some (pc, .return_, 1)) (hr : mRet M = none) (hc : kc ≤ mc) (hs : ks ≤ ms) : x_E M mc ms pc ls [] X kc ks (.inl none) X := by
  intro p l e s m args below meth c H locs arr G base C w S hl
  refine x_widen hc hs (vx_ret ?_)
  exact W.vret C.2.1 C.2.2.1 (C.2.2.2.1.trans hr) (fun t ht _ => x_fin (below := below) w S t ht) S.2.2 (x_dec C.1 hd) C.2.2.2.2.2.2.2.2.2.1
/-! calls -/
variable {p : Program} {l : Launch} {e : Env} {s : State} {m : MethodId} {args : Array Value} {below : List Frame} {meth : Method} {c : Code} {H : Heap} {locs : List Loc} {arr : Array Slot} {G : xG} {base : Nat}
theorem x_blind {av : List Value} : FrameBlind (x_Pc base G av X) := by
  intro a U g mk h
  obtain ⟨h1, h2, h3⟩ := h
  exact ⟨h1, h2, h3.moved (State.WarmedH.refl U) (Nat.le_refl _) (fun _ _ _ => rfl)⟩
theorem x_pre {av : List Value} (C : x_Cx M p l s m args meth c G base) (w : x_W base G X H) (S : va_S (x_A base) s.heap H locs) : PreS s H (x_Pc base G av X) (av.map (x_v base)) :=
  ⟨x_blind, fun U hU hW => ⟨rfl, by rw [hU]; exact w, C.2.2.2.2.2.2.2.1.moved hW (by rw [hU]; exact S.1) (fun q h1 h2 => by rw [hU]; exact S.2.1 q h1 h2)⟩⟩
/-- behind a call that has answered -/
theorem x_back {v : Option Value} {X' : xS} {mc' ms' : Nat} {a : Array Value} {st0 rest : List Value} (hr : vx_Run p l e (x_rm M mc ms) s m args below meth c H locs kc ks mc' ms' (F0 m pc arr st0) (rest.map (x_v base)) (x_Qc base G (.inl v) X' a) (x_XC base G (.inl v) X') (x_A base)) (C : x_Cx M p l s m args meth c G base) (S : va_S (x_A base) s.heap H locs) (hl : lv_has arr (mL M) (x_ls base 0 ls))
    (kk : x_E M mc ms (pc + 3) ls (v.toList ++ rest) X' (kc + mc') (ks + ms') o Y) : W p l e (x_rm M mc ms) s m args below meth c H locs kc ks (vx_MQ below (x_Qc base G o Y) (x_XC base G o Y) args s mc ms (x_A base)) (F0 m pc arr st0) := by
  intro T hT X0
  rcases hr T hT X0 with ⟨v', st₀, t, T', L, h0, X', hL, e1, e2, ⟨⟨v2, hv2, hv⟩, hw, hF⟩, st⟩ | ⟨q, st₀, t, T', L, E, ce, h0, X', hL, e1, e2, ⟨hx, -⟩, -⟩
  · cases hv2
    cases hv
    obtain ⟨k1, k2, k3⟩ := vx_keep h0 e1 S (fun q _ h => h) (fun q h => h) hL hF
    obtain ⟨t2, a1, b1⟩ := kk p l e s m args below meth c T'.heap (locs ++ L) arr G base C (by rw [e1]; exact hw) k3 hl T' rfl X'
    refine ⟨t2, st t2 ?_, b1⟩
    have es : (Option.map (x_v base) v).toList ++ rest.map (x_v base) = (v.toList ++ rest).map (x_v base) := by cases v <;> simp
    rw [es]
    exact a1
  · cases hx
/-- behind a call that has thrown: it goes on to the caller -/
theorem x_backX {E0 : String} {X' : xS} {mc' ms' : Nat} {a : Array Value} {st0 rest : List Value} (hr : vx_Run p l e (x_rm M mc ms) s m args below meth c H locs kc ks mc' ms' (F0 m pc arr st0) (rest.map (x_v base)) (x_Qc base G (.inr E0) X' a) (x_XC base G (.inr E0) X') (x_A base)) (C : x_Cx M p l s m args meth c G base) (S : va_S (x_A base) s.heap H locs) (hc : kc + mc' ≤ mc) (hs : ks + ms' ≤ ms) :
    W p l e (x_rm M mc ms) s m args below meth c H locs kc ks (vx_MQ below (x_Qc base G (.inr E0) X') (x_XC base G (.inr E0) X') args s mc ms (x_A base)) (F0 m pc arr st0) := by
  intro T hT X0
  rcases hr T hT X0 with ⟨v', st₀, t, T', L, h0, X', hL, e1, e2, ⟨⟨v2, hv2, hv⟩, -⟩, -⟩ | ⟨q, st₀, t, T', L, E, ce, h0, X', hL, e1, e2, ⟨hx, hw, hF⟩, hce, hcv, hcl, st⟩
  · cases hv2
  · cases hx
    obtain ⟨k1, k2, k3⟩ := vx_keep h0 e1 S (fun q _ h => h) (fun q h => h) hL hF
    obtain ⟨t2, a1, b1⟩ := vx_out (Qc := x_Qc base G (.inr E0) _) (XC := x_XC base G (.inr E0) _) (args := args) (free := x_A base) (mc := mc) (ms := ms) (pc := pc) (ls := arr) (rest := rest.map (x_v base)) (fun x hx => (C.2.2.2.2.2.2.2.2.1 x hx).elim) C.2.2.2.2.2.2.2.2.2.1 (by rw [e1]; exact hce) hcv hcl (fun t' ht' _ => ⟨rfl, by rw [ht', e1]; exact hw, k3.F ht'⟩) k3.2.2 hc hs T' rfl X'
    exact ⟨t2, st.trans a1, b1⟩
/-- the words of a call of M' by the number idx in M's class -/
def x_CV (M M' : x_MT) (idx n : Nat) : Prop := Cond.methodLink (mOwn M) idx (mY M') ∈ tb0 ∧ Cond.instanceMethod (mY M') ∈ tb0 ∧ Cond.selects (mOwn M') (mY M') (mY M') ∈ tb0 ∧ (parseMethodDescriptor (mY M').desc).map (fun d => d.parameters.length) = some n
def x_CS (M M' : x_MT) (idx n : Nat) : Prop := Cond.methodLink (mOwn M) idx (mY M') ∈ tb0 ∧ Cond.static (mY M') ∈ tb0 ∧ (parseMethodDescriptor (mY M').desc).map (fun d => d.parameters.length) = some n
def x_CI (M M' : x_MT) (idx n : Nat) : Prop := Cond.methodLink (mOwn M) idx (mY M') ∈ tb0 ∧ Cond.instanceMethod (mY M') ∈ tb0 ∧ (mY M').name = "<init>" ∧ mRet M' = none ∧ (parseMethodDescriptor (mY M').desc).map (fun d => d.parameters.length) = some n
def x_CIN (M M' : x_MT) (idx n : Nat) : Prop := Cond.methodLinkNest (mOwn M) idx (mY M') "Shardmoor" ∈ x_nw ∧ Cond.instanceMethod (mY M') ∈ tb0 ∧ (mY M').name = "<init>" ∧ mRet M' = none ∧ (parseMethodDescriptor (mY M').desc).map (fun d => d.parameters.length) = some n
def x_CSN (M M' : x_MT) (idx n : Nat) : Prop := Cond.methodLinkNest (mOwn M) idx (mY M') "Shardmoor" ∈ x_nw ∧ Cond.static (mY M') ∈ tb0 ∧ (parseMethodDescriptor (mY M').desc).map (fun d => d.parameters.length) = some n
/-- the room of a call -/
def x_Rm (M M' : x_MT) : Prop := mFr M' + 1 ≤ mFr M ∧ 8 + (mL M' + 11) + mLo M' ≤ mLo M
theorem x_callB {M' : x_MT} {idx n mc' ms' : Nat} (C : x_Cx M p l s m args meth c G base) (ok' : x_MOk M') (hl : Cond.methodLink (mOwn M) idx (mY M') ∈ tb0) (hn : (parseMethodDescriptor (mY M').desc).map (fun d => d.parameters.length) = some n) (hR : x_Rm M M') :
    CallB (x_rm M mc ms) s args (mOwn M) idx (mY M') (mCode M') (mL M') (mRet M') (x_ws M') (x_rm M' mc' ms') mc' ms' n := by
  have hts := C.2.2.2.2.2.2.1
  refine ⟨rfl, rfl, hR.1, hR.2, pay_in hts (fun w hw => ?_), List.mem_cons_self, hts _ ok'.2.1, hts _ ok'.2.2.2.2.1, ok'.2.2.2.2.2, fun sig h => ?_, hts _ hl⟩
  · rcases List.mem_cons.mp hw with rfl | h
    · exact ⟨ok'.2.1, (tb0_good _ ok'.2.1).2⟩
    · exact tb0_good w h
  · rw [h] at hn
    exact (Option.some.inj hn).symm
theorem x_fix (C : x_Cx M p l s m args meth c G base) : CallFix p m c (mCode M) (mL M) s args tb0 (mOwn M) := ⟨C.2.1, C.2.2.1, C.2.2.2.2.1, C.2.2.2.2.2.1, C.2.2.2.2.2.2.1⟩
theorem x_cats (base : Nat) (rest : List Value) : (rest.map (x_v base)).map (fun v => v.category) = rest.map (fun v => v.category) := by
  rw [List.map_map]
  exact List.map_congr_left fun v _ => x_v_cat base v
theorem x_lvsize (hl : lv_has arr (mL M) (x_ls base 0 ls)) : arr.size = mL M := hl.1
theorem x_runV {M' : x_MT} {idx n b ci mc' ms' : Nat} {r : vw_C} {fs : List (Option (Option Nat))} {av rest : List Value} {o' : xO} {X' : xS} (C : x_Cx M p l s m args meth c G base) (w : x_W base G X H) (S : va_S (x_A base) s.heap H locs) (hl : lv_has arr (mL M) (x_ls base 0 ls)) (hd : decode (mCode M) pc = .ok (.invokevirtual idx, 3)) (ok' : x_MOk M') (cv : x_CV M M' idx n) (hR : x_Rm M M')
    (hb : b < xN X) (hs : xF X b = .inr (.inr (ci, fs))) (hc : vwCl[ci]? = some r) (hrn : r.1 = mOwn M') (hn : av.length = n) (hrest : (rest.map fun v => v.category).sum ≤ 8) (hcc : kc + mc' ≤ mc) (hss : ks + ms' ≤ ms) (sp : x_Sp M' mc' ms' (.ref b :: av) X o' X') :
    vx_Run p l e (x_rm M mc ms) s m args below meth c H locs kc ks mc' ms' (F0 m pc arr ((av.reverse ++ .ref b :: rest).map (x_v base))) (rest.map (x_v base)) (x_Qc base G o' X' (Value.ref (base + b) :: av.map (x_v base)).toArray) (x_XC base G o' X') (x_A base) := by
  have hts := C.2.2.2.2.2.2.1
  have he : (x_wl base G X)[b]? = some (base + b, .inr (ci, x_obj base fs (xM X b))) := by rw [x_wl_at hb, hs]; rfl
  have hrec := va_recv C.2.2.2.2.2.2.2.1.1 w.1 hc he
  rw [hrn] at hrec
  obtain ⟨q1, q2⟩ := x_pre (av := .ref b :: av) C w S
  refine vx_runV (As := av.map (x_v base)) (x_fix C) (sp l G base C.2.2.2.2.2.2.2.2.2.2.2) (C := mOwn M') ⟨x_callB C ok' cv.1 cv.2.2.2 hR, hts _ cv.2.1, hts _ cv.2.2.1⟩ ⟨q1, hrec, q2⟩ rfl (by rw [List.length_map]; exact hn) hl.1 (by simp [x_v]) (lv_room (by rw [x_cats]; exact hrest)) hd ⟨hcc, hss⟩
theorem x_runS {M' : x_MT} {idx n mc' ms' : Nat} {av rest : List Value} {o' : xO} {X' : xS} (C : x_Cx M p l s m args meth c G base) (w : x_W base G X H) (S : va_S (x_A base) s.heap H locs) (hl : lv_has arr (mL M) (x_ls base 0 ls)) (hd : decode (mCode M) pc = .ok (.invokestatic idx, 3)) (ok' : x_MOk M') (cv : x_CS M M' idx n) (hR : x_Rm M M')
    (hn : av.length = n) (hrest : (rest.map fun v => v.category).sum ≤ 8) (hcc : kc + mc' ≤ mc) (hss : ks + ms' ≤ ms) (sp : x_Sp M' mc' ms' av X o' X') :
    vx_Run p l e (x_rm M mc ms) s m args below meth c H locs kc ks mc' ms' (F0 m pc arr ((av.reverse ++ rest).map (x_v base))) (rest.map (x_v base)) (x_Qc base G o' X' (av.map (x_v base)).toArray) (x_XC base G o' X') (x_A base) := by
  have hts := C.2.2.2.2.2.2.1
  refine vx_runS (As := av.map (x_v base)) (x_fix C) (sp l G base C.2.2.2.2.2.2.2.2.2.2.2) ⟨x_callB C ok' cv.1 cv.2.2 hR, hts _ cv.2.1⟩ (x_pre C w S) rfl (by rw [List.length_map]; exact hn) hl.1 (by simp) (lv_room (by rw [x_cats]; exact hrest)) hd ⟨hcc, hss⟩
end XR
end
section
/-! ===== the calls as rules of the judgement ===== -/
def x_rv : Option Nat → Value
  | none => .null
  | some b => .ref b
theorem x_rv_v (base : Nat) (r : Option Nat) : x_v base (x_rv r) = x_rf base r := by cases r <;> rfl
/-- a contract that answers, as the kit's plain contract -/
theorem x_Sp.met {M : x_MT} {mc ms : Nat} {av : List Value} {X Y : xS} {v : Option Value} (h : x_Sp M mc ms av X (.inl v) Y) (l : Launch) (G : xG) (base : Nat) (hst : l.stackTraces = false) :
    Met l (mY M) (x_ws M) (x_rm M mc ms) (x_Pc base G av X) (x_Qc base G (.inl v) Y) mc ms (x_A base) := by
  refine MetFree.mono (h l G base hst) (fun _ _ h => h) (fun _ _ _ _ _ h => h) (fun a s o t _ hq => ?_)
  rcases hq with hq | ⟨q, -, E, ce, L, ⟨hx, -⟩, -⟩
  · exact hq
  · cases hx
section XC2
variable {M : x_MT} {mc ms pc kc ks : Nat} {ls : List (Option Value)} {st : List Value} {X Y : xS} {o : xO}
theorem e_callV (k nx : Nat) {M' : x_MT} {idx n b ci mc' ms' : Nat} {r : vw_C} {fs : List (Option (Option Nat))} {av rest : List Value} {v : Option Value} {X' : xS} (sp : x_Sp M' mc' ms' (.ref b :: av) X (.inl v) X') (ok' : x_MOk M') (cv : x_CV M M' idx n) (hR : x_Rm M M') (hd : (mIns M)[k]? = some (pc, .invokevirtual idx, 3)) (hn : pc + 3 = nx)
    (hb : b < xN X) (hs : xF X b = .inr (.inr (ci, fs))) (hc : vwCl[ci]? = some r) (hrn : r.1 = mOwn M') (hst : st = av.reverse ++ .ref b :: rest) (hnn : av.length = n) (hrest : (rest.map fun v => v.category).sum ≤ 8) (hcc : kc + mc' ≤ mc) (hss : ks + ms' ≤ ms)
    (kk : x_E M mc ms nx ls (v.toList ++ rest) X' (kc + mc') (ks + ms') o Y) : x_E M mc ms pc ls st X kc ks o Y := by
  subst hn
  subst hst
  intro p l e s m args below meth c H locs arr G base C w S hl
  exact x_back (x_runV C w S hl (x_dec C.1 hd) ok' cv hR hb hs hc hrn hnn hrest hcc hss sp) C S hl kk
theorem e_callVT (k : Nat) {M' : x_MT} {idx n b ci mc' ms' : Nat} {r : vw_C} {fs : List (Option (Option Nat))} {av rest : List Value} {E0 : String} {X' : xS} (sp : x_Sp M' mc' ms' (.ref b :: av) X (.inr E0) X') (ok' : x_MOk M') (cv : x_CV M M' idx n) (hR : x_Rm M M') (hd : (mIns M)[k]? = some (pc, .invokevirtual idx, 3))
    (hb : b < xN X) (hs : xF X b = .inr (.inr (ci, fs))) (hc : vwCl[ci]? = some r) (hrn : r.1 = mOwn M') (hst : st = av.reverse ++ .ref b :: rest) (hnn : av.length = n) (hrest : (rest.map fun v => v.category).sum ≤ 8) (hcc : kc + mc' ≤ mc) (hss : ks + ms' ≤ ms) : x_E M mc ms pc ls st X kc ks (.inr E0) X' := by
  subst hst
  intro p l e s m args below meth c H locs arr G base C w S hl
  exact x_backX (x_runV C w S hl (x_dec C.1 hd) ok' cv hR hb hs hc hrn hnn hrest hcc hss sp) C S hcc hss
theorem e_callS (k nx : Nat) {M' : x_MT} {idx n mc' ms' : Nat} {av rest : List Value} {v : Option Value} {X' : xS} (sp : x_Sp M' mc' ms' av X (.inl v) X') (ok' : x_MOk M') (cv : x_CS M M' idx n) (hR : x_Rm M M') (hd : (mIns M)[k]? = some (pc, .invokestatic idx, 3)) (hn : pc + 3 = nx)
    (hst : st = av.reverse ++ rest) (hnn : av.length = n) (hrest : (rest.map fun v => v.category).sum ≤ 8) (hcc : kc + mc' ≤ mc) (hss : ks + ms' ≤ ms)
    (kk : x_E M mc ms nx ls (v.toList ++ rest) X' (kc + mc') (ks + ms') o Y) : x_E M mc ms pc ls st X kc ks o Y := by
  subst hn
  subst hst
  intro p l e s m args below meth c H locs arr G base C w S hl
  exact x_back (x_runS C w S hl (x_dec C.1 hd) ok' cv hR hnn hrest hcc hss sp) C S hl kk
theorem x_toRun {p : Program} {l : Launch} {e : Env} {R : Room} {s : State} {m : MethodId} {args : Array Value} {below : List Frame} {meth : Method} {c : Code} {H : Heap} {locs : List Loc} {cells slots mc ms : Nat} {g : JFrame} {rest : List Value} {Qa : State → Outcome → State → Prop} {XC : String → State → State → Prop} {free : Addr → Prop} (h : va_Run p l e R s m args below meth c H locs cells slots mc ms g rest Qa free) : vx_Run p l e R s m args below meth c H locs cells slots mc ms g rest Qa XC free :=
  fun T hT X => Or.inl (h T hT X)
theorem e_callI (k nx : Nat) {M' : x_MT} {idx n b mc' ms' : Nat} {av rest : List Value} {X' : xS} (sp : x_Sp M' mc' ms' (.ref b :: av) X (.inl none) X') (ok' : x_MOk M') (cv : x_CI M M' idx n) (hR : x_Rm M M') (hd : (mIns M)[k]? = some (pc, .invokespecial idx, 3)) (hn : pc + 3 = nx)
    (hst : st = av.reverse ++ .ref b :: rest) (hnn : av.length = n) (hrest : (rest.map fun v => v.category).sum ≤ 8) (hcc : kc + mc' ≤ mc) (hss : ks + ms' ≤ ms)
    (kk : x_E M mc ms nx ls rest X' (kc + mc') (ks + ms') o Y) : x_E M mc ms pc ls st X kc ks o Y := by
  subst hn
  subst hst
  intro p l e s m args below meth c H locs arr G base C w S hl
  have hts := C.2.2.2.2.2.2.1
  obtain ⟨c1, c2, c3, c4, c5⟩ := cv
  have hcb := x_callB (mc := mc) (ms := ms) (mc' := mc') (ms' := ms') C ok' c1 c5 hR
  rw [c4] at hcb
  exact x_back (v := none) (x_toRun (va_runI (As := av.map (x_v base)) (b := base + b) (rest := rest.map (x_v base)) (x_fix C) (sp.met l G base C.2.2.2.2.2.2.2.2.2.2.2) ⟨hcb, c3, hts _ c2⟩ (x_pre (av := .ref b :: av) C w S) rfl (by rw [List.length_map]; exact hnn) hl.1 (by simp [x_v]) (lv_room (by rw [x_cats]; exact hrest)) (x_dec C.1 hd) ⟨hcc, hss⟩)) C S hl kk
theorem x_callN {p : Program} {l : Launch} {s : State} {m : MethodId} {args : Array Value} {meth : Method} {c : Code} {G : xG} {base : Nat} {M' : x_MT} {idx n mc' ms' : Nat} (C : x_Cx M p l s m args meth c G base) (ok' : x_MOk M') (hl : Cond.methodLinkNest (mOwn M) idx (mY M') "Shardmoor" ∈ x_nw) (hn : (parseMethodDescriptor (mY M').desc).map (fun d => d.parameters.length) = some n) (hR : x_Rm M M') :
    va_CN (x_rm M mc ms) s args (mOwn M) idx (mY M') "Shardmoor" (mCode M') (mL M') (mRet M') (x_ws M') (x_rm M' mc' ms') mc' ms' n := by
  have hts := C.2.2.2.2.2.2.1
  refine ⟨⟨rfl, rfl, hR.1, hR.2, pay_in hts (fun w hw => ?_), List.mem_cons_self⟩, hts _ ok'.2.1, hts _ ok'.2.2.2.2.1, ok'.2.2.2.2.2, fun sig h => ?_, va_Nw.use rfl (C.2.2.2.2.2.2.2.1.2.1 _ hl)⟩
  · rcases List.mem_cons.mp hw with rfl | h
    · exact ⟨ok'.2.1, (tb0_good _ ok'.2.1).2⟩
    · exact tb0_good w h
  · rw [h] at hn
    exact (Option.some.inj hn).symm
theorem e_callIN (k nx : Nat) {M' : x_MT} {idx n b mc' ms' : Nat} {av rest : List Value} {X' : xS} (sp : x_Sp M' mc' ms' (.ref b :: av) X (.inl none) X') (ok' : x_MOk M') (cv : x_CIN M M' idx n) (hR : x_Rm M M') (hd : (mIns M)[k]? = some (pc, .invokespecial idx, 3)) (hn : pc + 3 = nx)
    (hst : st = av.reverse ++ .ref b :: rest) (hnn : av.length = n) (hrest : (rest.map fun v => v.category).sum ≤ 8) (hcc : kc + mc' ≤ mc) (hss : ks + ms' ≤ ms)
    (kk : x_E M mc ms nx ls rest X' (kc + mc') (ks + ms') o Y) : x_E M mc ms pc ls st X kc ks o Y := by
  subst hn
  subst hst
  intro p l e s m args below meth c H locs arr G base C w S hl
  have hts := C.2.2.2.2.2.2.1
  obtain ⟨c1, c2, c3, c4, c5⟩ := cv
  have hcb := x_callN (mc := mc) (ms := ms) (mc' := mc') (ms' := ms') C ok' c1 c5 hR
  rw [c4] at hcb
  exact x_back (v := none) (x_toRun (va_runIN (As := av.map (x_v base)) (b := base + b) (rest := rest.map (x_v base)) (x_fix C) (sp.met l G base C.2.2.2.2.2.2.2.2.2.2.2) ⟨hcb, c3, hts _ c2⟩ (x_pre (av := .ref b :: av) C w S) rfl (by rw [List.length_map]; exact hnn) hl.1 (by simp [x_v]) (lv_room (by rw [x_cats]; exact hrest)) (x_dec C.1 hd) ⟨hcc, hss⟩)) C S hl kk
theorem e_callSN (k nx : Nat) {M' : x_MT} {idx n mc' ms' : Nat} {av rest : List Value} {v : Option Value} {X' : xS} (sp : x_Sp M' mc' ms' av X (.inl v) X') (ok' : x_MOk M') (cv : x_CSN M M' idx n) (hR : x_Rm M M') (hd : (mIns M)[k]? = some (pc, .invokestatic idx, 3)) (hn : pc + 3 = nx)
    (hst : st = av.reverse ++ rest) (hnn : av.length = n) (hrest : (rest.map fun v => v.category).sum ≤ 8) (hcc : kc + mc' ≤ mc) (hss : ks + ms' ≤ ms)
    (kk : x_E M mc ms nx ls (v.toList ++ rest) X' (kc + mc') (ks + ms') o Y) : x_E M mc ms pc ls st X kc ks o Y := by
  subst hn
  subst hst
  intro p l e s m args below meth c H locs arr G base C w S hl
  have hts := C.2.2.2.2.2.2.1
  obtain ⟨c1, c2, c5⟩ := cv
  exact x_back (x_toRun (va_runSN (As := av.map (x_v base)) (rest := rest.map (x_v base)) (x_fix C) (sp.met l G base C.2.2.2.2.2.2.2.2.2.2.2) ⟨x_callN C ok' c1 c5 hR, hts _ c2, trivial⟩ (x_pre C w S) rfl (by rw [List.length_map]; exact hnn) hl.1 (by simp) (lv_room (by rw [x_cats]; exact hrest)) (x_dec C.1 hd) ⟨hcc, hss⟩)) C S hl kk
/-! ===== cells ===== -/
/-- a class's words: its fields are laid, their types, their names differ -/
def x_CK (ci : Nat) : Prop := ∃ r : vw_C, vwCl[ci]? = some r ∧ (∀ w ∈ u_ws r.1 r.2.1 r.2.2, w ∈ tb0) ∧ (∃ ty : Nat → FieldType, ∀ k, k < r.2.2 → parseFieldDescriptor (r.2.1 k).2.2.1 = some (ty k)) ∧ (∀ a, a < r.2.2 → ∀ b, b < r.2.2 → a ≠ b → (r.2.1 a).2.1 ≠ (r.2.1 b).2.1) ∧ (∀ k, k < r.2.2 → (r.2.1 k).1 = r.1)
/-- the field j of class ci, by the number idx in the class own: descriptor d, final or not -/
def x_FL (own : String) (idx ci j : Nat) (ty : FieldType) (fin : Bool) : Prop := ∃ r : vw_C, vwCl[ci]? = some r ∧ j < r.2.2 ∧ Cond.fieldLink own idx r.1 (r.2.1 j).2.1 (r.2.1 j).2.2.1 ∈ tb0 ∧ (r.2.1 j).2.2.2 = fin ∧ parseFieldDescriptor (r.2.1 j).2.2.1 = some ty
def x_FN (own : String) (idx ci j : Nat) : Prop := ∃ r : vw_C, vwCl[ci]? = some r ∧ j < r.2.2 ∧ Cond.fieldLinkNest own idx r.1 (r.2.1 j).2.1 (r.2.1 j).2.2.1 "Shardmoor" ∈ x_nw
theorem x_obj_at {base : Nat} {fs : List (Option (Option Nat))} {m : Int → Int} {j : Nat} {f : Option (Option Nat)} (h : fs[j]? = some f) : (x_obj base fs m)[j]? = some (x_fld base m j f) := by
  have hj := (List.getElem?_eq_some_iff.mp h).1
  simp [x_obj, hj, List.getD_eq_getElem?_getD, h]
  rw [(List.getElem?_eq_some_iff.mp h).2]
theorem e_get {k nx ci j a idx : Nat} {fs : List (Option (Option Nat))} {f : Option (Option Nat)} {ty : FieldType} {fin : Bool} {v : Value} (hk : x_CK ci) (hf : x_FL (mOwn M) idx ci j ty fin) (hd : (mIns M)[k]? = some (pc, .getfield idx, 3)) (hn : pc + 3 = nx) (ha : a < xN X) (hs : xF X a = .inr (.inr (ci, fs))) (hj : fs[j]? = some f) (hv : ∀ base, x_fld base (xM X a) j f = x_v base v)
    (kk : x_E M mc ms nx ls (v :: st) X kc ks o Y) : x_E M mc ms pc ls (.ref a :: st) X kc ks o Y := by
  subst hn
  intro p l e s m args below meth c H locs arr G base C w S hl
  obtain ⟨⟨R, T, N⟩, k1, k2, k3, k4, k5⟩ := hk
  obtain ⟨r', f1, f2, f3, -⟩ := hf
  cases k1.symm.trans f1
  have he : (x_wl base G X)[a]? = some (base + a, .inr (ci, x_obj base fs (xM X a))) := by rw [x_wl_at ha, hs]; rfl
  have f3' : Cond.fieldLink (mOwn M) idx (T j).1 (T j).2.1 (T j).2.2.1 ∈ tb0 := by rw [k5 j f2]; exact f3
  refine va_get (v := x_v base v) C.2.1 C.2.2.1 C.2.2.2.2.2.2.1 k2 C.2.2.2.2.2.1 C.2.2.2.2.2.2.2.1.1 w.1 a he f1 j f2 (C.2.2.2.2.2.2.1 _ f3') (fun _ h => h) (by rw [x_obj_at hj, hv base]) (x_dec C.1 hd) ?_
  exact kk p l e s m args below meth c H locs arr G base C w S hl
theorem e_getI (k nx : Nat) {ci j a idx : Nat} {fs : List (Option (Option Nat))} {ty : FieldType} {fin : Bool} (hk : x_CK ci) (hf : x_FL (mOwn M) idx ci j ty fin) (hd : (mIns M)[k]? = some (pc, .getfield idx, 3)) (hn : pc + 3 = nx) (ha : a < xN X) (hs : xF X a = .inr (.inr (ci, fs))) (hj : fs[j]? = some none)
    (kk : x_E M mc ms nx ls (.int (ii (xM X a j)) :: st) X kc ks o Y) : x_E M mc ms pc ls (.ref a :: st) X kc ks o Y := e_get hk hf hd hn ha hs hj (fun _ => rfl) kk
theorem e_getR (k nx : Nat) {ci j a idx : Nat} {fs : List (Option (Option Nat))} {ty : FieldType} {fin : Bool} {b : Nat} (hk : x_CK ci) (hf : x_FL (mOwn M) idx ci j ty fin) (hd : (mIns M)[k]? = some (pc, .getfield idx, 3)) (hn : pc + 3 = nx) (ha : a < xN X) (hs : xF X a = .inr (.inr (ci, fs))) (hj : fs[j]? = some (some (some b)))
    (kk : x_E M mc ms nx ls (.ref b :: st) X kc ks o Y) : x_E M mc ms pc ls (.ref a :: st) X kc ks o Y := e_get hk hf hd hn ha hs hj (fun _ => rfl) kk
theorem e_getIN (k nx : Nat) {ci j a idx : Nat} {fs : List (Option (Option Nat))} (hk : x_CK ci) (hf : x_FN (mOwn M) idx ci j) (hd : (mIns M)[k]? = some (pc, .getfield idx, 3)) (hn : pc + 3 = nx) (ha : a < xN X) (hs : xF X a = .inr (.inr (ci, fs))) (hj : fs[j]? = some none)
    (kk : x_E M mc ms nx ls (.int (ii (xM X a j)) :: st) X kc ks o Y) : x_E M mc ms pc ls (.ref a :: st) X kc ks o Y := by
  subst hn
  intro p l e s m args below meth c H locs arr G base C w S hl
  obtain ⟨⟨R, T, N⟩, k1, k2, k3, k4, k5⟩ := hk
  obtain ⟨r', f1, f2, f3⟩ := hf
  cases k1.symm.trans f1
  have he : (x_wl base G X)[a]? = some (base + a, .inr (ci, x_obj base fs (xM X a))) := by rw [x_wl_at ha, hs]; rfl
  have f3' : Cond.fieldLinkNest (mOwn M) idx (T j).1 (T j).2.1 (T j).2.2.1 "Shardmoor" ∈ x_nw := by rw [k5 j f2]; exact f3
  refine va_getN (v := .int (ii (xM X a j))) C.2.1 C.2.2.1 C.2.2.2.2.2.2.1 k2 C.2.2.2.2.2.1 C.2.2.2.2.2.2.2.1.1 w.1 a he f1 j f2 (va_Nw.use rfl (C.2.2.2.2.2.2.2.1.2.1 _ f3')) (fun _ h => h) (by rw [x_obj_at hj]; rfl) (x_dec C.1 hd) ?_
  exact kk p l e s m args below meth c H locs arr G base C w S hl
theorem x_obj_set {base : Nat} {fs : List (Option (Option Nat))} {m : Int → Int} {j : Nat} (hj : fs[j]? = some none) (v : Int) : (x_obj base fs m).set j (.int (ii v)) = x_obj base fs (fun i => if i = j then v else m i) := by
  apply List.ext_getElem?
  intro q
  have hl : j < fs.length := (List.getElem?_eq_some_iff.mp hj).1
  by_cases hq : q < fs.length
  · have h2 : (x_obj base fs (fun i => if i = j then v else m i))[q]? = some (x_fld base (fun i => if i = j then v else m i) q fs[q]) := x_obj_at (List.getElem?_eq_getElem hq)
    have h1 : (x_obj base fs m)[q]? = some (x_fld base m q fs[q]) := x_obj_at (List.getElem?_eq_getElem hq)
    rw [h2]
    by_cases hqj : q = j
    · subst hqj
      rw [List.getElem?_set_self (by simpa [x_obj] using hq)]
      have : fs[q] = none := (List.getElem?_eq_some_iff.mp hj).2
      rw [this]
      simp [x_fld]
    · rw [List.getElem?_set_ne (Ne.symm hqj), h1]
      cases fs[q] with
      | none => simp [x_fld]; rw [if_neg (by omega)]
      | some r => rfl
  · rw [List.getElem?_eq_none_iff.mpr (by simp [x_obj]; omega), List.getElem?_eq_none_iff.mpr (by simp [x_obj]; omega)]
theorem x_setM {base : Nat} {G : xG} {a : Nat} {j v : Int} {e : va_E} (ha : a < xN X) (he : e = x_cell base G (xF X a) (fun i => if i = j then v else xM X a i)) : (x_wl base G X).set a (base + a, e) = x_wl base G (xSet X (xu (xM X) a j v)) := by
  rw [x_wl_set (Y := xSet X (xu (xM X) a j v)) ha rfl (fun b hb => ?_), he]
  · have h9 : xM (xSet X (xu (xM X) a j v)) a = fun i => if i = j then v else xM X a i := by
      funext i
      show xu (xM X) a j v a i = _
      simp [xu]
    rw [h9]
  · show x_cell base G (xF X b) (xu (xM X) a j v b) = _
    congr 1
    funext i
    exact xu_ne _ (Or.inl hb)
theorem x_size {base : Nat} {G : xG} {σ : xSig} {H H1 : Heap} (w : x_W base G X H) (hP : va_P G.1 vwCl (x_wl base G (xSet X σ)) H1) (hz : H1.size = H.size) : x_W base G (xSet X σ) H1 :=
  ⟨hP, fun h => hz.trans (w.2 h)⟩
end XC2
end
section
/-! ===== writing, arrays, throwing ===== -/
def xfs (F : Nat → xShp) (a : Nat) (s : xShp) : Nat → xShp := fun b => if b = a then s else F b
def xcp (σ : xSig) (a : Nat) (sp dp n : Int) : xSig := fun b i => if b = a ∧ dp ≤ i ∧ i < dp + n then σ a (sp + (i - dp)) else σ b i
abbrev x_nms : List String := ["java/lang/RuntimeException", "java/lang/Exception"]
def x_TH (own : String) (ik ic : Nat) (E : String) : Prop := Bundle.fit E = true ∧ (∀ n ∈ x_nms, Bundle.fit n = true) ∧ Cond.classLink own ik E ∈ tb0 ∧ Cond.initialized E ∈ tb0 ∧ (∀ w ∈ vx_atS own ic E x_nms, w ∈ tb0 ∨ w ∈ x_nw) ∧ (∀ w ∈ Cond.classLink own ik E :: Cond.initialized E :: vx_atS own ic E x_nms, vx_ot w = true)
section XM2
variable {M : x_MT} {mc ms pc kc ks : Nat} {ls : List (Option Value)} {st : List Value} {X Y : xS} {o : xO}
theorem e_put (k nx : Nat) {ci j a idx : Nat} {fs : List (Option (Option Nat))} {ty : FieldType} {v : Value} {X2 : xS} (hk : x_CK ci) (hf : x_FL (mOwn M) idx ci j ty false) (hd : (mIns M)[k]? = some (pc, .putfield idx, 3)) (hn : pc + 3 = nx) (ha : a < xN X) (hs : xF X a = .inr (.inr (ci, fs))) (hj : j < fs.length)
    (hnar : ∀ base, narrow ty (x_v base v) = x_v base v) (hfit : ∀ base, fits ty (x_v base v) = true) (hX : ∀ base G, (x_wl base G X).set a (base + a, .inr (ci, (x_obj base fs (xM X a)).set j (x_v base v))) = x_wl base G X2) (hN : xN X2 = xN X) (hB : xB X2 = xB X)
    (kk : x_E M mc ms nx ls st X2 kc ks o Y) : x_E M mc ms pc ls (v :: .ref a :: st) X kc ks o Y := by
  subst hn
  intro p l e s m args below meth c H locs arr G base C w S hl
  obtain ⟨⟨R, T, N⟩, k1, k2, ⟨ty0, hty⟩, hnm, k5⟩ := hk
  obtain ⟨r', f1, f2, f3, hfin, hpt⟩ := hf
  cases k1.symm.trans f1
  have hts := C.2.2.2.2.2.2.1
  have hK := C.2.2.2.2.2.2.2.1.1
  have hap := va_apart (own := mOwn M) hts k2 ty0 hty hnm hK f1
  have he : (x_wl base G X)[a]? = some (base + a, .inr (ci, x_obj base fs (xM X a))) := by rw [x_wl_at ha, hs]; rfl
  obtain ⟨r, h1, cell, q1, q2, q3, q4⟩ := w.1 a _ he
  have hr : r = (R, T, N) := Option.some.inj (h1.symm.trans f1)
  subst hr
  obtain ⟨hS, hfc, kC, hkC, hkind⟩ := hK.1 ci _ f1
  obtain ⟨cf, kf, fi, f, hi, hsl⟩ := hS j f2
  have hlay := hts _ (k2 _ (u_in_lay f2))
  unfold u_lay at hlay
  rw [if_neg (by rw [hfin]; decide)] at hlay
  have hst := (u_facts hfc hkC (u_lays hts k2 f2) hi).1
  have h6 := u_store hfc hkC hkind hlay hi hpt (hnar base) (hfit base)
  have f3' : Cond.fieldLink (mOwn M) idx (T j).1 (T j).2.1 (T j).2.2.1 ∈ tb0 := by rw [k5 j f2]; exact f3
  refine W.putK C.2.1 C.2.2.1 (f := f) ⟨C.2.2.2.2.2.1, hts _ f3', ⟨_, _, _, hi⟩, hst⟩ (by rw [q2]; exact h6) q1 q3 (by rw [hsl]; exact k2_hasslot (q4 j f2)) rfl rfl (x_dec C.1 hd) fun H' e1 e2 e3 => ?_
  rw [hsl] at e1 ⊢
  have hP2 := va_P.set w.1 x_D he (e := .inr (ci, (x_obj base fs (xM X a)).set j (x_v base v))) ⟨_, f1, t_OB.to (V := updV (vp_V (x_obj base fs (xM X a))) j (x_v base v)) ⟨_, e1, q2, q3, t_set q4 hap f2 (x_v base v)⟩ (fun i _ => vp_updV_set (by simpa [x_obj] using hj) (x_v base v) i)⟩ e3
  rw [hX] at hP2
  exact kk p l e s m args below meth c H' _ arr G base C ⟨hP2, fun h => by rw [hN, e2]; exact w.2 (hB ▸ h)⟩ (S.put e2 e3 (Nat.le_add_right base a)) hl
theorem e_putF (k nx : Nat) {ci j a idx : Nat} {fs : List (Option (Option Nat))} {ty : FieldType} {v : Value} {X2 : xS} (hk : x_CK ci) (hf : x_FL (mOwn M) idx ci j ty true) (hd : (mIns M)[k]? = some (pc, .putfield idx, 3)) (hn : pc + 3 = nx) (hinit : (mY M).name = "<init>") (hcls : ∀ r : vw_C, vwCl[ci]? = some r → r.1 = mOwn M) (ha : a < xN X) (hs : xF X a = .inr (.inr (ci, fs))) (hj : j < fs.length)
    (hnar : ∀ base, narrow ty (x_v base v) = x_v base v) (hfit : ∀ base, fits ty (x_v base v) = true) (hX : ∀ base G, (x_wl base G X).set a (base + a, .inr (ci, (x_obj base fs (xM X a)).set j (x_v base v))) = x_wl base G X2) (hN : xN X2 = xN X) (hB : xB X2 = xB X)
    (kk : x_E M mc ms nx ls st X2 kc ks o Y) : x_E M mc ms pc ls (v :: .ref a :: st) X kc ks o Y := by
  subst hn
  intro p l e s m args below meth c H locs arr G base C w S hl
  obtain ⟨⟨R, T, N⟩, k1, k2, ⟨ty0, hty⟩, hnm, k5⟩ := hk
  obtain ⟨r', f1, f2, f3, hfin, hpt⟩ := hf
  cases k1.symm.trans f1
  have hts := C.2.2.2.2.2.2.1
  have hK := C.2.2.2.2.2.2.2.1.1
  have hown := C.2.2.2.2.2.1
  have hap := va_apart (own := mOwn M) hts k2 ty0 hty hnm hK f1
  have he : (x_wl base G X)[a]? = some (base + a, .inr (ci, x_obj base fs (xM X a))) := by rw [x_wl_at ha, hs]; rfl
  obtain ⟨r, h1, cell, q1, q2, q3, q4⟩ := w.1 a _ he
  have hr : r = (R, T, N) := Option.some.inj (h1.symm.trans f1)
  subst hr
  obtain ⟨hS, hfc, kC, hkC, hkind⟩ := hK.1 ci _ f1
  obtain ⟨cf, kf, fi, f, hi, hsl⟩ := hS j f2
  have hlay := hts _ (k2 _ (u_in_lay f2))
  unfold u_lay at hlay
  rw [if_pos hfin] at hlay
  have hst := (u_facts hfc hkC (u_lays hts k2 f2) hi).1
  have hdecl : (T j).1 = mOwn M := (k5 j f2).trans (hcls _ f1)
  have hcf : m.cls = cf := by
    obtain ⟨_, _, c', _, _, _, -, -, hf', -, -, -, hown2, -⟩ := Cond.laysFinal_spec hlay
    have e1 : c' = cf := by have := hi.symm.trans hf'; simp at this; exact this.1.symm
    rw [hdecl] at hown2
    rw [← e1]; exact Option.some.inj (hown.symm.trans hown2)
  have h6 := u_fits hfc hkC hkind (Or.inr hlay) hi hpt (hnar base) (hfit base)
  have f3' : Cond.fieldLink (mOwn M) idx (T j).1 (T j).2.1 (T j).2.2.1 ∈ tb0 := by rw [k5 j f2]; exact f3
  refine W.putFinK C.2.1 C.2.2.1 hown (hts _ f3') hi hst hcf (C.2.2.2.2.2.2.2.2.2.2.1.trans hinit) (by rw [q2]; exact h6) q1 q3 (by rw [hsl]; exact k2_hasslot (q4 j f2)) rfl rfl (x_dec C.1 hd) fun H' e1 e2 e3 => ?_
  rw [hsl] at e1 ⊢
  have hP2 := va_P.set w.1 x_D he (e := .inr (ci, (x_obj base fs (xM X a)).set j (x_v base v))) ⟨_, f1, t_OB.to (V := updV (vp_V (x_obj base fs (xM X a))) j (x_v base v)) ⟨_, e1, q2, q3, t_set q4 hap f2 (x_v base v)⟩ (fun i _ => vp_updV_set (by simpa [x_obj] using hj) (x_v base v) i)⟩ e3
  rw [hX] at hP2
  exact kk p l e s m args below meth c H' _ arr G base C ⟨hP2, fun h => by rw [hN, e2]; exact w.2 (hB ▸ h)⟩ (S.put e2 e3 (Nat.le_add_right base a)) hl
theorem e_putI (k nx : Nat) {ci j a idx : Nat} {fs : List (Option (Option Nat))} {v : Int} (hk : x_CK ci) (hf : x_FL (mOwn M) idx ci j .int false) (hd : (mIns M)[k]? = some (pc, .putfield idx, 3)) (hn : pc + 3 = nx) (ha : a < xN X) (hs : xF X a = .inr (.inr (ci, fs))) (hj : fs[j]? = some none)
    (kk : x_E M mc ms nx ls st (xSet X (xu (xM X) a j v)) kc ks o Y) : x_E M mc ms pc ls (.int (ii v) :: .ref a :: st) X kc ks o Y :=
  e_put k nx hk hf hd hn ha hs (List.getElem?_eq_some_iff.mp hj).1 (fun _ => rfl) (fun _ => rfl) (fun base G => x_setM ha (by rw [hs]; exact congrArg (fun z => Sum.inr (ci, z)) (x_obj_set hj v))) rfl rfl kk
theorem e_putZ (k nx : Nat) {ci j a idx : Nat} {fs : List (Option (Option Nat))} {v : Int} (hk : x_CK ci) (hf : x_FL (mOwn M) idx ci j .boolean false) (hd : (mIns M)[k]? = some (pc, .putfield idx, 3)) (hn : pc + 3 = nx) (hv : v = 0 ∨ v = 1) (ha : a < xN X) (hs : xF X a = .inr (.inr (ci, fs))) (hj : fs[j]? = some none)
    (kk : x_E M mc ms nx ls st (xSet X (xu (xM X) a j v)) kc ks o Y) : x_E M mc ms pc ls (.int (ii v) :: .ref a :: st) X kc ks o Y :=
  e_put k nx hk hf hd hn ha hs (List.getElem?_eq_some_iff.mp hj).1 (fun _ => by rcases hv with rfl | rfl <;> rfl) (fun _ => by rcases hv with rfl | rfl <;> rfl) (fun base G => x_setM ha (by rw [hs]; exact congrArg (fun z => Sum.inr (ci, z)) (x_obj_set hj v))) rfl rfl kk
/-! arrays -/
theorem x_ix {x : Int} (h0 : 0 ≤ x) (h : x < 2147483648) : (((ii x).toNatClampNeg : Nat) : Int) = x := by
  rw [ii_clamp h0 h]
  omega
theorem e_alen (k nx : Nat) {kd a n : Nat} (hd : (mIns M)[k]? = some (pc, .arraylength, 1)) (hn : pc + 1 = nx) (ha : a < xN X) (hs : xF X a = .inl (kd, n)) (hkd : kd < 3)
    (kk : x_E M mc ms nx ls (.int (ii n) :: st) X kc ks o Y) : x_E M mc ms pc ls (.ref a :: st) X kc ks o Y := by
  subst hn
  intro p l e s m args below meth c H locs arr G base C w S hl
  have he : (x_wl base G X)[a]? = some (base + a, .inl (G.2 kd, x_arr kd n (xM X a))) := by rw [x_wl_at ha, hs]; rfl
  have hx1 : (x_arr kd n (xM X a)).1 = n := by unfold x_arr; split <;> rfl
  have hK := C.2.2.2.2.2.2.2.1.1
  have ht : ∃ ty, (x_tys G)[kd]? = some (G.2 kd, ty) := by
    rcases (by omega : kd = 0 ∨ kd = 1 ∨ kd = 2) with rfl | rfl | rfl <;> exact ⟨_, rfl⟩
  obtain ⟨ty, ht⟩ := ht
  refine va_alen C.2.1 C.2.2.1 hK w.1 a kd he ht (by rw [hx1]) (x_dec C.1 hd) ?_
  exact kk p l e s m args below meth c H locs arr G base C w S hl
theorem e_alenR (k nx : Nat) {kd a : Nat} {rs : List (Option Nat)} (hd : (mIns M)[k]? = some (pc, .arraylength, 1)) (hn : pc + 1 = nx) (ha : a < xN X) (hs : xF X a = .inr (.inl (kd, rs))) (hkd : kd = 3 ∨ kd = 4)
    (kk : x_E M mc ms nx ls (.int (ii (rs.length : Nat)) :: st) X kc ks o Y) : x_E M mc ms pc ls (.ref a :: st) X kc ks o Y := by
  subst hn
  intro p l e s m args below meth c H locs arr G base C w S hl
  have he : (x_wl base G X)[a]? = some (base + a, .inl (G.2 kd, x_rarr base rs)) := by rw [x_wl_at ha, hs]; rfl
  have hK := C.2.2.2.2.2.2.2.1.1
  have ht : ∃ ty, (x_tys G)[kd]? = some (G.2 kd, ty) := by
    rcases hkd with rfl | rfl <;> exact ⟨_, rfl⟩
  obtain ⟨ty, ht⟩ := ht
  refine va_alen C.2.1 C.2.2.1 hK w.1 a kd he ht rfl (x_dec C.1 hd) ?_
  exact kk p l e s m args below meth c H locs arr G base C w S hl
theorem e_iaload (k nx : Nat) {a n : Nat} {x : Int} (hd : (mIns M)[k]? = some (pc, .iaload, 1)) (hn : pc + 1 = nx) (ha : a < xN X) (hs : xF X a = .inl (0, n)) (h0 : 0 ≤ x) (h1 : x < n) (h2 : n < 2147483648)
    (kk : x_E M mc ms nx ls (.int (ii (xM X a x)) :: st) X kc ks o Y) : x_E M mc ms pc ls (.int (ii x) :: .ref a :: st) X kc ks o Y := by
  subst hn
  intro p l e s m args below meth c H locs arr G base C w S hl
  have he : (x_wl base G X)[a]? = some (base + a, .inl (G.2 0, n, .inl fun j => ii (xM X a j))) := by rw [x_wl_at ha, hs]; rfl
  refine va_iald C.2.1 C.2.2.1 C.2.2.2.2.2.2.2.1.1 w.1 a 0 he rfl (ii_in h0 h1 h2) (x_dec C.1 hd) ?_
  have := kk p l e s m args below meth c H locs arr G base C w S hl
  rw [x_ix h0 (by omega)]
  exact this
theorem e_baload (k nx : Nat) {a n : Nat} {x : Int} (hd : (mIns M)[k]? = some (pc, .baload, 1)) (hn : pc + 1 = nx) (ha : a < xN X) (hs : xF X a = .inl (1, n)) (h0 : 0 ≤ x) (h1 : x < n) (h2 : n < 2147483648)
    (kk : x_E M mc ms nx ls (.int (ii (xM X a x)) :: st) X kc ks o Y) : x_E M mc ms pc ls (.int (ii x) :: .ref a :: st) X kc ks o Y := by
  subst hn
  intro p l e s m args below meth c H locs arr G base C w S hl
  have he : (x_wl base G X)[a]? = some (base + a, .inl (G.2 1, n, .inl fun j => ii (xM X a j))) := by rw [x_wl_at ha, hs]; rfl
  refine va_zald C.2.1 C.2.2.1 C.2.2.2.2.2.2.2.1.1 w.1 a 1 he rfl (ii_in h0 h1 h2) (x_dec C.1 hd) ?_
  have := kk p l e s m args below meth c H locs arr G base C w S hl
  rw [x_ix h0 (by omega)]
  exact this
theorem e_laload (k nx : Nat) {a n : Nat} {x : Int} (hd : (mIns M)[k]? = some (pc, .laload, 1)) (hn : pc + 1 = nx) (ha : a < xN X) (hs : xF X a = .inl (2, n)) (h0 : 0 ≤ x) (h1 : x < n) (h2 : n < 2147483648)
    (kk : x_E M mc ms nx ls (.long (ll (xM X a x)) :: st) X kc ks o Y) : x_E M mc ms pc ls (.int (ii x) :: .ref a :: st) X kc ks o Y := by
  subst hn
  intro p l e s m args below meth c H locs arr G base C w S hl
  have he : (x_wl base G X)[a]? = some (base + a, .inl (G.2 2, n, .inr (.inl fun j => ll (xM X a j)))) := by rw [x_wl_at ha, hs]; rfl
  refine va_lald C.2.1 C.2.2.1 C.2.2.2.2.2.2.2.1.1 w.1 a 2 he rfl (ii_in h0 h1 h2) (x_dec C.1 hd) ?_
  have := kk p l e s m args below meth c H locs arr G base C w S hl
  rw [x_ix h0 (by omega)]
  exact this
theorem e_aaload (k nx : Nat) {a b kd : Nat} {rs : List (Option Nat)} {x : Int} (hd : (mIns M)[k]? = some (pc, .aaload, 1)) (hn : pc + 1 = nx) (ha : a < xN X) (hs : xF X a = .inr (.inl (kd, rs))) (hkd : kd = 3 ∨ kd = 4) (h0 : 0 ≤ x) (hr : rs[x.toNat]? = some (some b)) (h2 : rs.length < 2147483648)
    (kk : x_E M mc ms nx ls (.ref b :: st) X kc ks o Y) : x_E M mc ms pc ls (.int (ii x) :: .ref a :: st) X kc ks o Y := by
  subst hn
  intro p l e s m args below meth c H locs arr G base C w S hl
  have hlt := (List.getElem?_eq_some_iff.mp hr).1
  have he : (x_wl base G X)[a]? = some (base + a, .inl (G.2 kd, rs.length, .inr (.inr (.inr (.inr fun j => (rs.getD j none).map (fun b => base + b)))))) := by rw [x_wl_at ha, hs]; rfl
  have ht : ∃ C, (x_tys G)[kd]? = some (G.2 kd, .object C) := by
    rcases hkd with rfl | rfl <;> exact ⟨_, rfl⟩
  obtain ⟨CC, ht⟩ := ht
  refine va_aldq C.2.1 C.2.2.1 C.2.2.2.2.2.2.2.1.1 w.1 a kd he ht (ii_in h0 (by omega) h2) (x_dec C.1 hd) ?_
  have := kk p l e s m args below meth c H locs arr G base C w S hl
  rw [ii_clamp h0 (by omega), List.getD_eq_getElem?_getD, hr]
  exact this
theorem x_updI (m : Int → Int) (j : Nat) (v : Int) : updV (fun i : Nat => Value.int (ii (m (i : Int)))) j (.int (ii v)) = fun i : Nat => Value.int (ii ((fun z : Int => if z = (j : Int) then v else m z) (i : Int))) := by
  funext i
  unfold updV
  by_cases h : i = j
  · subst h; simp
  · rw [if_neg h]
    show _ = Value.int (ii (if (i : Int) = (j : Int) then v else m i))
    rw [if_neg (by omega)]
theorem x_updL (m : Int → Int) (j : Nat) (v : Int) : updV (fun i : Nat => Value.long (ll (m (i : Int)))) j (.long (ll v)) = fun i : Nat => Value.long (ll ((fun z : Int => if z = (j : Int) then v else m z) (i : Int))) := by
  funext i
  unfold updV
  by_cases h : i = j
  · subst h; simp
  · rw [if_neg h]
    show _ = Value.long (ll (if (i : Int) = (j : Int) then v else m i))
    rw [if_neg (by omega)]
theorem e_iastore (k nx : Nat) {a n : Nat} {x v : Int} (hd : (mIns M)[k]? = some (pc, .iastore, 1)) (hn : pc + 1 = nx) (ha : a < xN X) (hs : xF X a = .inl (0, n)) (h0 : 0 ≤ x) (h1 : x < n) (h2 : n < 2147483648)
    (kk : x_E M mc ms nx ls st (xSet X (xu (xM X) a x v)) kc ks o Y) : x_E M mc ms pc ls (.int (ii v) :: .int (ii x) :: .ref a :: st) X kc ks o Y := by
  subst hn
  intro p l e s m args below meth c H locs arr G base C w S hl
  have hK := C.2.2.2.2.2.2.2.1.1
  have he : (x_wl base G X)[a]? = some (base + a, .inl (G.2 0, n, .inl fun j => ii (xM X a j))) := by rw [x_wl_at ha, hs]; rfl
  have hcell : H[base + a]? = some (vp_cell (G.2 0) (n, .inl fun j => ii (xM X a j))) := w.1 a _ he
  refine W.iast C.2.1 C.2.2.1 hcell ((hK.2 0 _ rfl).1 n (fun j => .int (ii (xM X a j)))) (fun q => by cases q) (by show ¬ ((ii x) < 0 ∨ (arrV _ _ _).slots.size ≤ _); rw [arrV_size]; exact ii_in h0 h1 h2) rfl rfl (x_dec C.1 hd) fun H1 e9 z oq => ?_
  have hat : va_at G.1 vwCl (base + a, x_cell base G (xF X a) (fun i => if i = x then v else xM X a i)) H1 := by
    rw [hs]
    show H1[base + a]? = some (vp_cell _ (n, .inl _))
    rw [e9, vp_cell_i, vp_cell_i, arrV_store, x_updI, x_ix h0 (by omega)]
  have hP2 := va_P.set w.1 x_D he hat oq
  rw [x_setM ha rfl] at hP2
  exact kk p l e s m args below meth c H1 _ arr G base C ⟨hP2, fun h => z.trans (w.2 h)⟩ (S.put z oq (Nat.le_add_right base a)) hl
theorem e_bastore (k nx : Nat) {a n : Nat} {x v : Int} (hd : (mIns M)[k]? = some (pc, .bastore, 1)) (hn : pc + 1 = nx) (hv : v = 0 ∨ v = 1) (ha : a < xN X) (hs : xF X a = .inl (1, n)) (h0 : 0 ≤ x) (h1 : x < n) (h2 : n < 2147483648)
    (kk : x_E M mc ms nx ls st (xSet X (xu (xM X) a x v)) kc ks o Y) : x_E M mc ms pc ls (.int (ii v) :: .int (ii x) :: .ref a :: st) X kc ks o Y := by
  subst hn
  intro p l e s m args below meth c H locs arr G base C w S hl
  have hK := C.2.2.2.2.2.2.2.1.1
  have he : (x_wl base G X)[a]? = some (base + a, .inl (G.2 1, n, .inl fun j => ii (xM X a j))) := by rw [x_wl_at ha, hs]; rfl
  have hcell : H[base + a]? = some (vp_cell (G.2 1) (n, .inl fun j => ii (xM X a j))) := w.1 a _ he
  have hnar : narrow .boolean (.int (ii v)) = .int (ii v) := by rcases hv with rfl | rfl <;> rfl
  refine W.zast C.2.1 C.2.2.1 hcell ((hK.2 1 _ rfl).1 n (fun j => .int (ii (xM X a j)))) (fun q => by cases q) (by show ¬ ((ii x) < 0 ∨ (arrV _ _ _).slots.size ≤ _); rw [arrV_size]; exact ii_in h0 h1 h2) rfl rfl (x_dec C.1 hd) fun H1 e9 z oq => ?_
  have hat : va_at G.1 vwCl (base + a, x_cell base G (xF X a) (fun i => if i = x then v else xM X a i)) H1 := by
    rw [hs]
    show H1[base + a]? = some (vp_cell _ (n, .inl _))
    rw [e9, hnar, vp_cell_i, vp_cell_i, arrV_store, x_updI, x_ix h0 (by omega)]
  have hP2 := va_P.set w.1 x_D he hat oq
  rw [x_setM ha rfl] at hP2
  exact kk p l e s m args below meth c H1 _ arr G base C ⟨hP2, fun h => z.trans (w.2 h)⟩ (S.put z oq (Nat.le_add_right base a)) hl
theorem e_lastore (k nx : Nat) {a n : Nat} {x v : Int} (hd : (mIns M)[k]? = some (pc, .lastore, 1)) (hn : pc + 1 = nx) (ha : a < xN X) (hs : xF X a = .inl (2, n)) (h0 : 0 ≤ x) (h1 : x < n) (h2 : n < 2147483648)
    (kk : x_E M mc ms nx ls st (xSet X (xu (xM X) a x v)) kc ks o Y) : x_E M mc ms pc ls (.long (ll v) :: .int (ii x) :: .ref a :: st) X kc ks o Y := by
  subst hn
  intro p l e s m args below meth c H locs arr G base C w S hl
  have hK := C.2.2.2.2.2.2.2.1.1
  have he : (x_wl base G X)[a]? = some (base + a, .inl (G.2 2, n, .inr (.inl fun j => ll (xM X a j)))) := by rw [x_wl_at ha, hs]; rfl
  have hcell : H[base + a]? = some (vp_cell (G.2 2) (n, .inr (.inl fun j => ll (xM X a j)))) := w.1 a _ he
  refine W.last C.2.1 C.2.2.1 hcell ((hK.2 2 _ rfl).1 n (fun j => .long (ll (xM X a j)))) (fun q => by cases q) (by show ¬ ((ii x) < 0 ∨ (arrV _ _ _).slots.size ≤ _); rw [arrV_size]; exact ii_in h0 h1 h2) rfl rfl (x_dec C.1 hd) fun H1 e9 z oq => ?_
  have hat : va_at G.1 vwCl (base + a, x_cell base G (xF X a) (fun i => if i = x then v else xM X a i)) H1 := by
    rw [hs]
    show H1[base + a]? = some (vp_cell _ (n, .inr (.inl _)))
    rw [e9, vp_cell_l, vp_cell_l, arrV_store, x_updL, x_ix h0 (by omega)]
  have hP2 := va_P.set w.1 x_D he hat oq
  rw [x_setM ha rfl] at hP2
  exact kk p l e s m args below meth c H1 _ arr G base C ⟨hP2, fun h => z.trans (w.2 h)⟩ (S.put z oq (Nat.le_add_right base a)) hl
/-- Math.max -/
theorem e_max (k nx : Nat) {idx : Nat} {x y : Int} (hd : (mIns M)[k]? = some (pc, .invokestatic idx, 3)) (hn : pc + 3 = nx) (hw : Cond.methodLink (mOwn M) idx Lib.Math.max.name ∈ tb0 ∧ Cond.static Lib.Math.max.name ∈ tb0 ∧ Cond.initialized "java/lang/Math" ∈ tb0 ∧ Cond.code Lib.Math.max.name Lib.Math.max.code 2 (some .int) ∈ tb0) (hfr : 1 ≤ mFr M) (hlo : 21 ≤ mLo M) (hrest : (st.map fun v => v.category).sum ≤ 8) (hc : kc ≤ mc) (hs : ks ≤ ms) (hrx : xr x) (hry : xr y)
    (kk : x_E M mc ms nx ls (.int (ii (if x < y then y else x)) :: st) X kc ks o Y) : x_E M mc ms pc ls (.int (ii y) :: .int (ii x) :: st) X kc ks o Y := by
  subst hn
  intro p l e s m args below meth c H locs arr G base C w S hl
  have hts := C.2.2.2.2.2.2.1
  refine va_mmax (x := ii x) (y := ii y) C.2.1 C.2.2.1 (C.2.2.2.2.1.trans hl.1.symm) C.2.2.2.2.2.1 (hts _ hw.1) (hts _ hw.2.1) (hts _ hw.2.2.1) (hts _ hw.2.2.2) hfr (by rw [x_cats]; show _ + 13 ≤ mLo M; omega) hc hs (x_dec C.1 hd) ?_
  have h9 : (if ii x < ii y then ii y else ii x) = ii (if x < y then y else x) := by
    by_cases h : x < y
    · rw [if_pos h, if_pos ((ii_lt hrx hry).mpr h)]
    · rw [if_neg h, if_neg (fun q => h ((ii_lt hrx hry).mp q))]
  rw [h9]
  exact kk p l e s m args below meth c H locs arr G base C w S hl
/-- System.arraycopy within one array of ints -/
theorem e_acopy (k nx : Nat) {idx a n : Nat} {sp dp m9 : Int} (hd : (mIns M)[k]? = some (pc, .invokestatic idx, 3)) (hn : pc + 3 = nx) (hw : Cond.methodLink (mOwn M) idx arraycopyName ∈ tb0 ∧ Cond.native arraycopyName ∈ tb0 ∧ Cond.static arraycopyName ∈ tb0 ∧ Cond.initialized "java/lang/System" ∈ tb0) (hfr : 1 ≤ mFr M) (hlo : 26 ≤ mLo M) (hrest : (st.map fun v => v.category).sum ≤ 8)
    (hB : xB X = false) (ha : a < xN X) (hs : xF X a = .inl (0, n)) (h1 : 0 ≤ sp) (h2 : 0 ≤ dp) (h3 : 0 ≤ m9) (h4 : sp + m9 ≤ n) (h5 : dp + m9 ≤ n) (h6 : n < 2147483648)
    (kk : x_E M mc ms nx ls st (xSet X (xcp (xM X) a sp dp m9)) kc ks o Y) : x_E M mc ms pc ls (.int (ii m9) :: .int (ii dp) :: .ref a :: .int (ii sp) :: .ref a :: st) X kc ks o Y := by
  subst hn
  intro p l e s m args below meth c H locs arr G base C w S hl
  have hts := C.2.2.2.2.2.2.1
  have he : (x_wl base G X)[a]? = some (base + a, .inl (G.2 0, n, .inl fun j => ii (xM X a j))) := by rw [x_wl_at ha, hs]; rfl
  have ng : ∀ z : Int, 0 ≤ z → z < 2147483648 → ¬ ii z < 0 := fun z z0 z1 q => by
    have := (ii_lt ⟨by omega, z1⟩ xr_0).mp q
    omega
  refine va_copyi C.2.1 C.2.2.1 (C.2.2.2.2.1.trans hl.1.symm) C.2.2.2.2.2.1 (hts _ hw.1) (hts _ hw.2.1) (hts _ hw.2.2.1) (hts _ hw.2.2.2) C.2.2.2.2.2.2.2.1.1 w.1 x_D S a a 0 0 he he rfl rfl rfl (sp := ii sp) (dp := ii dp) (n := ii m9) (ng _ h1 (by omega)) (ng _ h2 (by omega)) (ng _ h3 (by omega)) (by rw [ii_clamp h1 (by omega), ii_clamp h3 (by omega)]; omega) (by rw [ii_clamp h2 (by omega), ii_clamp h3 (by omega)]; omega) (fun _ _ => rfl) hfr (by rw [x_cats]; show _ + (7 + 11) ≤ mLo M; omega) (x_dec C.1 hd) fun H1 locs1 hP hD hS => ?_
  refine kk p l e s m args below meth c H1 locs1 arr G base C ⟨?_, fun h => by rw [hB] at h; cases h⟩ hS hl
  have hset : (x_wl base G X).set a (base + a, .inl (G.2 0, n, .inl (va_cpy (fun j : Nat => ii (xM X a j)) (fun j : Nat => ii (xM X a j)) (ii sp).toNatClampNeg (ii dp).toNatClampNeg (ii m9).toNatClampNeg))) = x_wl base G (xSet X (xcp (xM X) a sp dp m9)) := by
    rw [x_wl_set (Y := xSet X (xcp (xM X) a sp dp m9)) ha rfl (fun b hb => ?_)]
    · have e9 : x_cell base G (xF (xSet X (xcp (xM X) a sp dp m9)) a) (xM (xSet X (xcp (xM X) a sp dp m9)) a) = .inl (G.2 0, n, .inl fun j => ii (xcp (xM X) a sp dp m9 a j)) := by
        show x_cell base G (xF X a) _ = _
        rw [hs]; rfl
      rw [e9]
      congr 6
      funext j
      unfold va_cpy xcp
      rw [ii_clamp h1 (by omega), ii_clamp h2 (by omega), ii_clamp h3 (by omega)]
      by_cases hj : dp.toNat ≤ j ∧ j < dp.toNat + m9.toNat
      · rw [if_pos hj, if_pos ⟨rfl, by omega, by omega⟩]
        have h9 : ((sp.toNat + (j - dp.toNat) : Nat) : Int) = sp + ((j : Int) - dp) := by omega
        show ii (xM X a ((sp.toNat + (j - dp.toNat) : Nat) : Int)) = _
        rw [h9]
      · rw [if_neg hj, if_neg (fun q => hj ⟨by omega, by omega⟩)]
    · show x_cell base G (xF X b) (xcp (xM X) a sp dp m9 b) = _
      congr 1
      funext i
      unfold xcp
      rw [if_neg (fun q => hb q.1)]
  rw [← hset]
  exact hP
/-- throw new E("text") -/
theorem e_throw (k : Nat) {ik is ic : Nat} {E text : String} (hth : x_TH (mOwn M) ik ic E) (d0 : (mIns M)[k]? = some (pc, .new ik, 3)) (d1 : (mIns M)[k + 1]? = some (pc + 3, .dup, 1)) (d2 : (mIns M)[k + 2]? = some (pc + 4, .ldc is, 2)) (d3 : (mIns M)[k + 3]? = some (pc + 6, .invokespecial ic, 3)) (d4 : (mIns M)[k + 4]? = some (pc + 9, .athrow, 1))
    (hstr : (mOwn M, is, text) ∈ x_strs) (hfr : 6 ≤ mFr M) (hlo : 90 ≤ mLo M) (hrest : (st.map fun v => v.category).sum ≤ 8) (hc : kc + 1 ≤ mc) (hs : ks + 6 ≤ ms) : x_E M mc ms pc ls st X kc ks (.inr E) (xN X, xF X, xM X, false) := by
  intro p l e s m args below meth c H locs arr G base C w S hl
  have hts := C.2.2.2.2.2.2.1
  obtain ⟨t1, t2, t3, t4, t5, t6⟩ := hth
  obtain ⟨-, n2, n3, n4, n5, -⟩ := C.2.2.2.2.2.2.2.1
  obtain ⟨sa, hsa⟩ := n3 _ hstr
  refine vx_throwS C.2.1 C.2.2.1 C.2.2.2.2.2.2.2.2.2.2.2 (names := x_nms) (A := x_A base) (rest := st.map (x_v base)) C.2.2.2.2.2.1 t1 t2 (hts _ t3) (hts _ t4) hsa (fun w hw => ?_) t6 n4 n5 S (hl.1.trans C.2.2.2.2.1.symm) (x_dec C.1 d0) (x_dec C.1 d1) (x_dec C.1 d2) (x_dec C.1 d3) (x_dec C.1 d4) (fun x hx => (C.2.2.2.2.2.2.2.2.1 x hx).elim) (by show 2 + 3 < mFr M; omega) (by rw [x_cats]; show _ + (13 * 3 + 43) ≤ mLo M; omega) (by show kc + 1 ≤ mc; omega) (by show ks + 6 ≤ ms; omega) C.2.2.2.2.2.2.2.2.2.1 (fun t hA hz ho => ⟨rfl, ⟨?_, fun h => by cases h⟩, ?_⟩) S.2.2 hc hs
  · rcases t5 w hw with h | h
    · exact hts _ h
    · have hon : w.onTables = true := by
        have hg := (List.mem_filter.mp h).2
        cases w <;> first | rfl | exact absurd (show false = true from hg) Bool.false_ne_true
      exact va_Nw.use hon (n2 _ h)
  · exact w.1.kept fun q x hq => ho _ ((w.1 q x hq).lt)
  · refine ⟨Nat.le_trans S.1 hz, fun q h1 h2 => ?_⟩
    rw [ho q (Nat.lt_of_lt_of_le h1 S.1)]
    exact S.2.1 q h1 h2
theorem e_throwW (k : Nat) {ik is ic : Nat} {E text : String} (hth : x_TH (mOwn M) ik ic E) (d0 : (mIns M)[k]? = some (pc, .new ik, 3)) (d1 : (mIns M)[k + 1]? = some (pc + 3, .dup, 1)) (d2 : (mIns M)[k + 2]? = some (pc + 4, .ldc_w is, 3)) (d3 : (mIns M)[k + 3]? = some (pc + 7, .invokespecial ic, 3)) (d4 : (mIns M)[k + 4]? = some (pc + 10, .athrow, 1))
    (hstr : (mOwn M, is, text) ∈ x_strs) (hfr : 6 ≤ mFr M) (hlo : 90 ≤ mLo M) (hrest : (st.map fun v => v.category).sum ≤ 8) (hc : kc + 1 ≤ mc) (hs : ks + 6 ≤ ms) : x_E M mc ms pc ls st X kc ks (.inr E) (xN X, xF X, xM X, false) := by
  intro p l e s m args below meth c H locs arr G base C w S hl
  have hts := C.2.2.2.2.2.2.1
  obtain ⟨t1, t2, t3, t4, t5, t6⟩ := hth
  obtain ⟨-, n2, n3, n4, n5, -⟩ := C.2.2.2.2.2.2.2.1
  obtain ⟨sa, hsa⟩ := n3 _ hstr
  refine vx_throwSW C.2.1 C.2.2.1 C.2.2.2.2.2.2.2.2.2.2.2 (names := x_nms) (A := x_A base) (rest := st.map (x_v base)) C.2.2.2.2.2.1 t1 t2 (hts _ t3) (hts _ t4) hsa (fun w hw => ?_) t6 n4 n5 S (hl.1.trans C.2.2.2.2.1.symm) (x_dec C.1 d0) (x_dec C.1 d1) (x_dec C.1 d2) (x_dec C.1 d3) (x_dec C.1 d4) (fun x hx => (C.2.2.2.2.2.2.2.2.1 x hx).elim) (by show 2 + 3 < mFr M; omega) (by rw [x_cats]; show _ + (13 * 3 + 43) ≤ mLo M; omega) (by show kc + 1 ≤ mc; omega) (by show ks + 6 ≤ ms; omega) C.2.2.2.2.2.2.2.2.2.1 (fun t hA hz ho => ⟨rfl, ⟨?_, fun h => by cases h⟩, ?_⟩) S.2.2 hc hs
  · rcases t5 w hw with h | h
    · exact hts _ h
    · have hon : w.onTables = true := by
        have hg := (List.mem_filter.mp h).2
        cases w <;> first | rfl | exact absurd (show false = true from hg) Bool.false_ne_true
      exact va_Nw.use hon (n2 _ h)
  · exact w.1.kept fun q x hq => ho _ ((w.1 q x hq).lt)
  · refine ⟨Nat.le_trans S.1 hz, fun q h1 h2 => ?_⟩
    rw [ho q (Nat.lt_of_lt_of_le h1 S.1)]
    exact S.2.1 q h1 h2
end XM2
end
