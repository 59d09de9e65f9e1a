section
-- ===== PART A: goes FIRST, ahead of the names: the tables' words, and 'selects' of the private methods out of them =====
/-- a private method of a class that the tables say can be made, by its rows of tables_1 -/
def lw_okq (q : MethodName × Nat) : Prop := (q.1.cls ≠ "java/lang/invoke/MethodHandle" ∧ q.1.cls ≠ "java/lang/invoke/VarHandle") ∧ Cond.instantiable q.1.cls q.2 ∈ tables_1 ∧ Cond.privateMethod q.1 ∈ tables_1 ∧ Cond.instanceMethod q.1 ∈ tables_1
theorem lw_p0 : lw_okq (⟨"Shardmoor$Chart", "beginChunks", "()V"⟩, 13) := ⟨⟨by decide +kernel, by decide +kernel⟩, List.mem_of_getElem? (i := 88) (by decide +kernel), List.mem_of_getElem? (i := 94) (by decide +kernel), List.mem_of_getElem? (i := 95) (by decide +kernel)⟩
theorem lw_p1 : lw_okq (⟨"Shardmoor$Query", "fitsAll", "(LShardmoor$Value;)Z"⟩, 10) := ⟨⟨by decide +kernel, by decide +kernel⟩, List.mem_of_getElem? (i := 213) (by decide +kernel), List.mem_of_getElem? (i := 367) (by decide +kernel), List.mem_of_getElem? (i := 368) (by decide +kernel)⟩
theorem lw_p2 : lw_okq (⟨"Shardmoor$Query", "filterAt", "(I)LShardmoor$Filter;"⟩, 10) := ⟨⟨by decide +kernel, by decide +kernel⟩, List.mem_of_getElem? (i := 213) (by decide +kernel), List.mem_of_getElem? (i := 371) (by decide +kernel), List.mem_of_getElem? (i := 372) (by decide +kernel)⟩
theorem lw_p3 : lw_okq (⟨"Shardmoor$Places", "take", "(LShardmoor$Value;I)V"⟩, 2) := ⟨⟨by decide +kernel, by decide +kernel⟩, List.mem_of_getElem? (i := 178) (by decide +kernel), List.mem_of_getElem? (i := 394) (by decide +kernel), List.mem_of_getElem? (i := 395) (by decide +kernel)⟩
theorem lw_p4 : lw_okq (⟨"Shardmoor$Places", "note", "(I)V"⟩, 2) := ⟨⟨by decide +kernel, by decide +kernel⟩, List.mem_of_getElem? (i := 178) (by decide +kernel), List.mem_of_getElem? (i := 398) (by decide +kernel), List.mem_of_getElem? (i := 399) (by decide +kernel)⟩
theorem lw_p5 : lw_okq (⟨"Shardmoor$Places", "takeOfEach", "(LShardmoor$Value;II)V"⟩, 2) := ⟨⟨by decide +kernel, by decide +kernel⟩, List.mem_of_getElem? (i := 178) (by decide +kernel), List.mem_of_getElem? (i := 408) (by decide +kernel), List.mem_of_getElem? (i := 409) (by decide +kernel)⟩
theorem lw_p6 : lw_okq (⟨"Shardmoor$Filter", "fits", "(LShardmoor$Value;I)Z"⟩, 3) := ⟨⟨by decide +kernel, by decide +kernel⟩, List.mem_of_getElem? (i := 220) (by decide +kernel), List.mem_of_getElem? (i := 424) (by decide +kernel), List.mem_of_getElem? (i := 425) (by decide +kernel)⟩
theorem lw_p7 : lw_okq (⟨"Shardmoor$Filter", "isBeyond", "(I)Z"⟩, 3) := ⟨⟨by decide +kernel, by decide +kernel⟩, List.mem_of_getElem? (i := 220) (by decide +kernel), List.mem_of_getElem? (i := 441) (by decide +kernel), List.mem_of_getElem? (i := 442) (by decide +kernel)⟩
theorem lw_p8 : lw_okq (⟨"Shardmoor", "pileUp", "(I)I"⟩, 10) := ⟨⟨by decide +kernel, by decide +kernel⟩, List.mem_of_getElem? (i := 23) (by decide +kernel), List.mem_of_getElem? (i := 476) (by decide +kernel), List.mem_of_getElem? (i := 477) (by decide +kernel)⟩
theorem lw_p9 : lw_okq (⟨"java/lang/Throwable", "fillInStackTrace", "(I)Ljava/lang/Throwable;"⟩, 6) := ⟨⟨by decide +kernel, by decide +kernel⟩, List.mem_of_getElem? (i := 522) (by decide +kernel), List.mem_of_getElem? (i := 520) (by decide +kernel), List.mem_of_getElem? (i := 521) (by decide +kernel)⟩
theorem lw_p10 : lw_okq (⟨"Shardmoor$Pile", "at", "(I)LShardmoor$Value;"⟩, 3) := ⟨⟨by decide +kernel, by decide +kernel⟩, List.mem_of_getElem? (i := 31) (by decide +kernel), List.mem_of_getElem? (i := 561) (by decide +kernel), List.mem_of_getElem? (i := 562) (by decide +kernel)⟩
theorem lw_p11 : lw_okq (⟨"Shardmoor$Value", "putSign", "(II)V"⟩, 2) := ⟨⟨by decide +kernel, by decide +kernel⟩, List.mem_of_getElem? (i := 38) (by decide +kernel), List.mem_of_getElem? (i := 569) (by decide +kernel), List.mem_of_getElem? (i := 570) (by decide +kernel)⟩
theorem lw_p12 : lw_okq (⟨"Shardmoor$Value", "makeRoom", "(III)V"⟩, 2) := ⟨⟨by decide +kernel, by decide +kernel⟩, List.mem_of_getElem? (i := 38) (by decide +kernel), List.mem_of_getElem? (i := 573) (by decide +kernel), List.mem_of_getElem? (i := 574) (by decide +kernel)⟩
theorem lw_p13 : lw_okq (⟨"Shardmoor$Value", "putValue", "(IILShardmoor$Value;)V"⟩, 2) := ⟨⟨by decide +kernel, by decide +kernel⟩, List.mem_of_getElem? (i := 38) (by decide +kernel), List.mem_of_getElem? (i := 664) (by decide +kernel), List.mem_of_getElem? (i := 665) (by decide +kernel)⟩
theorem lw_p14 : lw_okq (⟨"Shardmoor", "tellChange", "(III)I"⟩, 10) := ⟨⟨by decide +kernel, by decide +kernel⟩, List.mem_of_getElem? (i := 23) (by decide +kernel), List.mem_of_getElem? (i := 722) (by decide +kernel), List.mem_of_getElem? (i := 723) (by decide +kernel)⟩
theorem lw_p15 : lw_okq (⟨"Shardmoor$Chart", "chunkOf", "(LShardmoor$Value;)I"⟩, 13) := ⟨⟨by decide +kernel, by decide +kernel⟩, List.mem_of_getElem? (i := 88) (by decide +kernel), List.mem_of_getElem? (i := 731) (by decide +kernel), List.mem_of_getElem? (i := 732) (by decide +kernel)⟩
def lw_privs_1 : List (MethodName × Nat) := [(⟨"Shardmoor$Chart", "beginChunks", "()V"⟩, 13), (⟨"Shardmoor$Query", "fitsAll", "(LShardmoor$Value;)Z"⟩, 10), (⟨"Shardmoor$Query", "filterAt", "(I)LShardmoor$Filter;"⟩, 10), (⟨"Shardmoor$Places", "take", "(LShardmoor$Value;I)V"⟩, 2), (⟨"Shardmoor$Places", "note", "(I)V"⟩, 2), (⟨"Shardmoor$Places", "takeOfEach", "(LShardmoor$Value;II)V"⟩, 2), (⟨"Shardmoor$Filter", "fits", "(LShardmoor$Value;I)Z"⟩, 3), (⟨"Shardmoor$Filter", "isBeyond", "(I)Z"⟩, 3), (⟨"Shardmoor", "pileUp", "(I)I"⟩, 10), (⟨"java/lang/Throwable", "fillInStackTrace", "(I)Ljava/lang/Throwable;"⟩, 6), (⟨"Shardmoor$Pile", "at", "(I)LShardmoor$Value;"⟩, 3), (⟨"Shardmoor$Value", "putSign", "(II)V"⟩, 2), (⟨"Shardmoor$Value", "makeRoom", "(III)V"⟩, 2), (⟨"Shardmoor$Value", "putValue", "(IILShardmoor$Value;)V"⟩, 2), (⟨"Shardmoor", "tellChange", "(III)I"⟩, 10), (⟨"Shardmoor$Chart", "chunkOf", "(LShardmoor$Value;)I"⟩, 13)]
theorem lw_r1 : ∀ q ∈ lw_privs_1, lw_okq q := List.forall_mem_cons.mpr ⟨lw_p0, List.forall_mem_cons.mpr ⟨lw_p1, List.forall_mem_cons.mpr ⟨lw_p2, List.forall_mem_cons.mpr ⟨lw_p3, List.forall_mem_cons.mpr ⟨lw_p4, List.forall_mem_cons.mpr ⟨lw_p5, List.forall_mem_cons.mpr ⟨lw_p6, List.forall_mem_cons.mpr ⟨lw_p7, List.forall_mem_cons.mpr ⟨lw_p8, List.forall_mem_cons.mpr ⟨lw_p9, List.forall_mem_cons.mpr ⟨lw_p10, List.forall_mem_cons.mpr ⟨lw_p11, List.forall_mem_cons.mpr ⟨lw_p12, List.forall_mem_cons.mpr ⟨lw_p13, List.forall_mem_cons.mpr ⟨lw_p14, List.forall_mem_cons.mpr ⟨lw_p15, fun _ h => absurd h List.not_mem_nil⟩⟩⟩⟩⟩⟩⟩⟩⟩⟩⟩⟩⟩⟩⟩⟩
theorem lw_p16 : lw_okq (⟨"Shardmoor$Editor", "editField", "(IIILShardmoor$Value;)Z"⟩, 2) := ⟨⟨by decide +kernel, by decide +kernel⟩, List.mem_of_getElem? (i := 157) (by decide +kernel), List.mem_of_getElem? (i := 815) (by decide +kernel), List.mem_of_getElem? (i := 816) (by decide +kernel)⟩
theorem lw_p17 : lw_okq (⟨"Shardmoor$Editor", "addTo", "(III)Z"⟩, 2) := ⟨⟨by decide +kernel, by decide +kernel⟩, List.mem_of_getElem? (i := 157) (by decide +kernel), List.mem_of_getElem? (i := 830) (by decide +kernel), List.mem_of_getElem? (i := 831) (by decide +kernel)⟩
theorem lw_p18 : lw_okq (⟨"Shardmoor$Editor", "addAt", "(II)Z"⟩, 2) := ⟨⟨by decide +kernel, by decide +kernel⟩, List.mem_of_getElem? (i := 157) (by decide +kernel), List.mem_of_getElem? (i := 835) (by decide +kernel), List.mem_of_getElem? (i := 836) (by decide +kernel)⟩
theorem lw_p19 : lw_okq (⟨"Shardmoor$Editor", "pushTo", "(IILShardmoor$Value;)Z"⟩, 2) := ⟨⟨by decide +kernel, by decide +kernel⟩, List.mem_of_getElem? (i := 157) (by decide +kernel), List.mem_of_getElem? (i := 841) (by decide +kernel), List.mem_of_getElem? (i := 842) (by decide +kernel)⟩
theorem lw_p20 : lw_okq (⟨"Shardmoor$Editor", "pullFrom", "(ILShardmoor$Value;)Z"⟩, 2) := ⟨⟨by decide +kernel, by decide +kernel⟩, List.mem_of_getElem? (i := 157) (by decide +kernel), List.mem_of_getElem? (i := 846) (by decide +kernel), List.mem_of_getElem? (i := 847) (by decide +kernel)⟩
theorem lw_p21 : lw_okq (⟨"Shardmoor$Editor", "addToEach", "(II)Z"⟩, 2) := ⟨⟨by decide +kernel, by decide +kernel⟩, List.mem_of_getElem? (i := 157) (by decide +kernel), List.mem_of_getElem? (i := 854) (by decide +kernel), List.mem_of_getElem? (i := 855) (by decide +kernel)⟩
theorem lw_p22 : lw_okq (⟨"Shardmoor", "takeAway", "(I)I"⟩, 10) := ⟨⟨by decide +kernel, by decide +kernel⟩, List.mem_of_getElem? (i := 23) (by decide +kernel), List.mem_of_getElem? (i := 873) (by decide +kernel), List.mem_of_getElem? (i := 874) (by decide +kernel)⟩
theorem lw_p23 : lw_okq (⟨"Shardmoor$Query", "shape", "()I"⟩, 10) := ⟨⟨by decide +kernel, by decide +kernel⟩, List.mem_of_getElem? (i := 213) (by decide +kernel), List.mem_of_getElem? (i := 986) (by decide +kernel), List.mem_of_getElem? (i := 987) (by decide +kernel)⟩
theorem lw_p24 : lw_okq (⟨"Shardmoor$Query", "filterFor", "(ILShardmoor$Indexes;)LShardmoor$Filter;"⟩, 10) := ⟨⟨by decide +kernel, by decide +kernel⟩, List.mem_of_getElem? (i := 213) (by decide +kernel), List.mem_of_getElem? (i := 1000) (by decide +kernel), List.mem_of_getElem? (i := 1001) (by decide +kernel)⟩
theorem lw_p25 : lw_okq (⟨"Shardmoor$Indexes", "hasEntryForNone", "(I)Z"⟩, 7) := ⟨⟨by decide +kernel, by decide +kernel⟩, List.mem_of_getElem? (i := 172) (by decide +kernel), List.mem_of_getElem? (i := 1023) (by decide +kernel), List.mem_of_getElem? (i := 1024) (by decide +kernel)⟩
theorem lw_p26 : lw_okq (⟨"Shardmoor$Query", "tryPlans", "(LShardmoor$Store;LShardmoor$Indexes;)V"⟩, 10) := ⟨⟨by decide +kernel, by decide +kernel⟩, List.mem_of_getElem? (i := 213) (by decide +kernel), List.mem_of_getElem? (i := 1036) (by decide +kernel), List.mem_of_getElem? (i := 1037) (by decide +kernel)⟩
theorem lw_p27 : lw_okq (⟨"Shardmoor$Query", "tryPlan", "(II)V"⟩, 10) := ⟨⟨by decide +kernel, by decide +kernel⟩, List.mem_of_getElem? (i := 213) (by decide +kernel), List.mem_of_getElem? (i := 1040) (by decide +kernel), List.mem_of_getElem? (i := 1041) (by decide +kernel)⟩
theorem lw_p28 : lw_okq (⟨"Shardmoor$Groups", "sumOf", "(LShardmoor$Value;I)J"⟩, 7) := ⟨⟨by decide +kernel, by decide +kernel⟩, List.mem_of_getElem? (i := 272) (by decide +kernel), List.mem_of_getElem? (i := 1099) (by decide +kernel), List.mem_of_getElem? (i := 1100) (by decide +kernel)⟩
theorem lw_p29 : lw_okq (⟨"Shardmoor$Groups", "takeIn", "(LShardmoor$Store;IIJ)V"⟩, 7) := ⟨⟨by decide +kernel, by decide +kernel⟩, List.mem_of_getElem? (i := 272) (by decide +kernel), List.mem_of_getElem? (i := 1108) (by decide +kernel), List.mem_of_getElem? (i := 1109) (by decide +kernel)⟩
theorem lw_p30 : lw_okq (⟨"Shardmoor$Groups", "groupFor", "(LShardmoor$Store;II)I"⟩, 7) := ⟨⟨by decide +kernel, by decide +kernel⟩, List.mem_of_getElem? (i := 272) (by decide +kernel), List.mem_of_getElem? (i := 1112) (by decide +kernel), List.mem_of_getElem? (i := 1113) (by decide +kernel)⟩
theorem lw_p31 : lw_okq (⟨"Shardmoor$Groups", "orderTo", "(LShardmoor$Store;ILShardmoor$Value;I)I"⟩, 7) := ⟨⟨by decide +kernel, by decide +kernel⟩, List.mem_of_getElem? (i := 272) (by decide +kernel), List.mem_of_getElem? (i := 1116) (by decide +kernel), List.mem_of_getElem? (i := 1117) (by decide +kernel)⟩
def lw_privs_2 : List (MethodName × Nat) := [(⟨"Shardmoor$Editor", "editField", "(IIILShardmoor$Value;)Z"⟩, 2), (⟨"Shardmoor$Editor", "addTo", "(III)Z"⟩, 2), (⟨"Shardmoor$Editor", "addAt", "(II)Z"⟩, 2), (⟨"Shardmoor$Editor", "pushTo", "(IILShardmoor$Value;)Z"⟩, 2), (⟨"Shardmoor$Editor", "pullFrom", "(ILShardmoor$Value;)Z"⟩, 2), (⟨"Shardmoor$Editor", "addToEach", "(II)Z"⟩, 2), (⟨"Shardmoor", "takeAway", "(I)I"⟩, 10), (⟨"Shardmoor$Query", "shape", "()I"⟩, 10), (⟨"Shardmoor$Query", "filterFor", "(ILShardmoor$Indexes;)LShardmoor$Filter;"⟩, 10), (⟨"Shardmoor$Indexes", "hasEntryForNone", "(I)Z"⟩, 7), (⟨"Shardmoor$Query", "tryPlans", "(LShardmoor$Store;LShardmoor$Indexes;)V"⟩, 10), (⟨"Shardmoor$Query", "tryPlan", "(II)V"⟩, 10), (⟨"Shardmoor$Groups", "sumOf", "(LShardmoor$Value;I)J"⟩, 7), (⟨"Shardmoor$Groups", "takeIn", "(LShardmoor$Store;IIJ)V"⟩, 7), (⟨"Shardmoor$Groups", "groupFor", "(LShardmoor$Store;II)I"⟩, 7), (⟨"Shardmoor$Groups", "orderTo", "(LShardmoor$Store;ILShardmoor$Value;I)I"⟩, 7)]
theorem lw_r2 : ∀ q ∈ lw_privs_2, lw_okq q := List.forall_mem_cons.mpr ⟨lw_p16, List.forall_mem_cons.mpr ⟨lw_p17, List.forall_mem_cons.mpr ⟨lw_p18, List.forall_mem_cons.mpr ⟨lw_p19, List.forall_mem_cons.mpr ⟨lw_p20, List.forall_mem_cons.mpr ⟨lw_p21, List.forall_mem_cons.mpr ⟨lw_p22, List.forall_mem_cons.mpr ⟨lw_p23, List.forall_mem_cons.mpr ⟨lw_p24, List.forall_mem_cons.mpr ⟨lw_p25, List.forall_mem_cons.mpr ⟨lw_p26, List.forall_mem_cons.mpr ⟨lw_p27, List.forall_mem_cons.mpr ⟨lw_p28, List.forall_mem_cons.mpr ⟨lw_p29, List.forall_mem_cons.mpr ⟨lw_p30, List.forall_mem_cons.mpr ⟨lw_p31, fun _ h => absurd h List.not_mem_nil⟩⟩⟩⟩⟩⟩⟩⟩⟩⟩⟩⟩⟩⟩⟩⟩
theorem lw_p32 : lw_okq (⟨"Shardmoor$Groups", "makeGroup", "(III)I"⟩, 7) := ⟨⟨by decide +kernel, by decide +kernel⟩, List.mem_of_getElem? (i := 272) (by decide +kernel), List.mem_of_getElem? (i := 1121) (by decide +kernel), List.mem_of_getElem? (i := 1122) (by decide +kernel)⟩
theorem lw_p33 : lw_okq (⟨"Shardmoor$Value", "printOn", "(JII)J"⟩, 2) := ⟨⟨by decide +kernel, by decide +kernel⟩, List.mem_of_getElem? (i := 38) (by decide +kernel), List.mem_of_getElem? (i := 1130) (by decide +kernel), List.mem_of_getElem? (i := 1131) (by decide +kernel)⟩
theorem lw_p34 : lw_okq (⟨"Shardmoor$Chart", "isLeft", "(LShardmoor$Store;I)Z"⟩, 13) := ⟨⟨by decide +kernel, by decide +kernel⟩, List.mem_of_getElem? (i := 88) (by decide +kernel), List.mem_of_getElem? (i := 1205) (by decide +kernel), List.mem_of_getElem? (i := 1206) (by decide +kernel)⟩
theorem lw_p35 : lw_okq (⟨"Shardmoor", "isExpired", "(I)Z"⟩, 10) := ⟨⟨by decide +kernel, by decide +kernel⟩, List.mem_of_getElem? (i := 23) (by decide +kernel), List.mem_of_getElem? (i := 1294) (by decide +kernel), List.mem_of_getElem? (i := 1295) (by decide +kernel)⟩
theorem lw_p36 : lw_okq (⟨"Shardmoor$Indexes", "entriesFor", "(LShardmoor$Value;I)I"⟩, 7) := ⟨⟨by decide +kernel, by decide +kernel⟩, List.mem_of_getElem? (i := 172) (by decide +kernel), List.mem_of_getElem? (i := 1326) (by decide +kernel), List.mem_of_getElem? (i := 1327) (by decide +kernel)⟩
theorem lw_p37 : lw_okq (⟨"Shardmoor$Indexes", "isFirst", "(LShardmoor$Value;I)Z"⟩, 7) := ⟨⟨by decide +kernel, by decide +kernel⟩, List.mem_of_getElem? (i := 172) (by decide +kernel), List.mem_of_getElem? (i := 1330) (by decide +kernel), List.mem_of_getElem? (i := 1331) (by decide +kernel)⟩
theorem lw_p38 : lw_okq (⟨"ShardmoorModel", "chunksAnew", "()V"⟩, 50) := ⟨⟨by decide +kernel, by decide +kernel⟩, List.mem_of_getElem? (i := 1400) (by decide +kernel), List.mem_of_getElem? (i := 1406) (by decide +kernel), List.mem_of_getElem? (i := 1407) (by decide +kernel)⟩
theorem lw_p39 : lw_okq (⟨"ShardmoorModel", "goes", "(ZZZ)Z"⟩, 50) := ⟨⟨by decide +kernel, by decide +kernel⟩, List.mem_of_getElem? (i := 1400) (by decide +kernel), List.mem_of_getElem? (i := 1569) (by decide +kernel), List.mem_of_getElem? (i := 1570) (by decide +kernel)⟩
theorem lw_p40 : lw_okq (⟨"ShardmoorModel", "puts", "(ZII)I"⟩, 50) := ⟨⟨by decide +kernel, by decide +kernel⟩, List.mem_of_getElem? (i := 1400) (by decide +kernel), List.mem_of_getElem? (i := 1573) (by decide +kernel), List.mem_of_getElem? (i := 1574) (by decide +kernel)⟩
theorem lw_p41 : lw_okq (⟨"ShardmoorModel", "top", "()I"⟩, 50) := ⟨⟨by decide +kernel, by decide +kernel⟩, List.mem_of_getElem? (i := 1400) (by decide +kernel), List.mem_of_getElem? (i := 1606) (by decide +kernel), List.mem_of_getElem? (i := 1607) (by decide +kernel)⟩
theorem lw_p42 : lw_okq (⟨"ShardmoorModel", "parts", "([II)I"⟩, 50) := ⟨⟨by decide +kernel, by decide +kernel⟩, List.mem_of_getElem? (i := 1400) (by decide +kernel), List.mem_of_getElem? (i := 1610) (by decide +kernel), List.mem_of_getElem? (i := 1611) (by decide +kernel)⟩
theorem lw_p43 : lw_okq (⟨"ShardmoorModel", "end", "([II)I"⟩, 50) := ⟨⟨by decide +kernel, by decide +kernel⟩, List.mem_of_getElem? (i := 1400) (by decide +kernel), List.mem_of_getElem? (i := 1621) (by decide +kernel), List.mem_of_getElem? (i := 1622) (by decide +kernel)⟩
theorem lw_p44 : lw_okq (⟨"ShardmoorModel", "adds", "([III)V"⟩, 50) := ⟨⟨by decide +kernel, by decide +kernel⟩, List.mem_of_getElem? (i := 1400) (by decide +kernel), List.mem_of_getElem? (i := 1625) (by decide +kernel), List.mem_of_getElem? (i := 1626) (by decide +kernel)⟩
theorem lw_p45 : lw_okq (⟨"ShardmoorModel", "lays", "(I)V"⟩, 50) := ⟨⟨by decide +kernel, by decide +kernel⟩, List.mem_of_getElem? (i := 1400) (by decide +kernel), List.mem_of_getElem? (i := 1629) (by decide +kernel), List.mem_of_getElem? (i := 1630) (by decide +kernel)⟩
theorem lw_p46 : lw_okq (⟨"ShardmoorModel", "builds", "([IIII[III)V"⟩, 50) := ⟨⟨by decide +kernel, by decide +kernel⟩, List.mem_of_getElem? (i := 1400) (by decide +kernel), List.mem_of_getElem? (i := 1637) (by decide +kernel), List.mem_of_getElem? (i := 1638) (by decide +kernel)⟩
theorem lw_p47 : lw_okq (⟨"ShardmoorModel", "keepsAll", "([II)Z"⟩, 50) := ⟨⟨by decide +kernel, by decide +kernel⟩, List.mem_of_getElem? (i := 1400) (by decide +kernel), List.mem_of_getElem? (i := 1649) (by decide +kernel), List.mem_of_getElem? (i := 1650) (by decide +kernel)⟩
def lw_privs_3 : List (MethodName × Nat) := [(⟨"Shardmoor$Groups", "makeGroup", "(III)I"⟩, 7), (⟨"Shardmoor$Value", "printOn", "(JII)J"⟩, 2), (⟨"Shardmoor$Chart", "isLeft", "(LShardmoor$Store;I)Z"⟩, 13), (⟨"Shardmoor", "isExpired", "(I)Z"⟩, 10), (⟨"Shardmoor$Indexes", "entriesFor", "(LShardmoor$Value;I)I"⟩, 7), (⟨"Shardmoor$Indexes", "isFirst", "(LShardmoor$Value;I)Z"⟩, 7), (⟨"ShardmoorModel", "chunksAnew", "()V"⟩, 50), (⟨"ShardmoorModel", "goes", "(ZZZ)Z"⟩, 50), (⟨"ShardmoorModel", "puts", "(ZII)I"⟩, 50), (⟨"ShardmoorModel", "top", "()I"⟩, 50), (⟨"ShardmoorModel", "parts", "([II)I"⟩, 50), (⟨"ShardmoorModel", "end", "([II)I"⟩, 50), (⟨"ShardmoorModel", "adds", "([III)V"⟩, 50), (⟨"ShardmoorModel", "lays", "(I)V"⟩, 50), (⟨"ShardmoorModel", "builds", "([IIII[III)V"⟩, 50), (⟨"ShardmoorModel", "keepsAll", "([II)Z"⟩, 50)]
theorem lw_r3 : ∀ q ∈ lw_privs_3, lw_okq q := List.forall_mem_cons.mpr ⟨lw_p32, List.forall_mem_cons.mpr ⟨lw_p33, List.forall_mem_cons.mpr ⟨lw_p34, List.forall_mem_cons.mpr ⟨lw_p35, List.forall_mem_cons.mpr ⟨lw_p36, List.forall_mem_cons.mpr ⟨lw_p37, List.forall_mem_cons.mpr ⟨lw_p38, List.forall_mem_cons.mpr ⟨lw_p39, List.forall_mem_cons.mpr ⟨lw_p40, List.forall_mem_cons.mpr ⟨lw_p41, List.forall_mem_cons.mpr ⟨lw_p42, List.forall_mem_cons.mpr ⟨lw_p43, List.forall_mem_cons.mpr ⟨lw_p44, List.forall_mem_cons.mpr ⟨lw_p45, List.forall_mem_cons.mpr ⟨lw_p46, List.forall_mem_cons.mpr ⟨lw_p47, fun _ h => absurd h List.not_mem_nil⟩⟩⟩⟩⟩⟩⟩⟩⟩⟩⟩⟩⟩⟩⟩⟩
theorem lw_p48 : lw_okq (⟨"ShardmoorModel", "fieldOf", "([III)I"⟩, 50) := ⟨⟨by decide +kernel, by decide +kernel⟩, List.mem_of_getElem? (i := 1400) (by decide +kernel), List.mem_of_getElem? (i := 1653) (by decide +kernel), List.mem_of_getElem? (i := 1654) (by decide +kernel)⟩
theorem lw_p49 : lw_okq (⟨"ShardmoorModel", "uses", "(I)V"⟩, 50) := ⟨⟨by decide +kernel, by decide +kernel⟩, List.mem_of_getElem? (i := 1400) (by decide +kernel), List.mem_of_getElem? (i := 1660) (by decide +kernel), List.mem_of_getElem? (i := 1661) (by decide +kernel)⟩
theorem lw_p50 : lw_okq (⟨"ShardmoorModel", "shardOf", "(I)I"⟩, 50) := ⟨⟨by decide +kernel, by decide +kernel⟩, List.mem_of_getElem? (i := 1400) (by decide +kernel), List.mem_of_getElem? (i := 1664) (by decide +kernel), List.mem_of_getElem? (i := 1665) (by decide +kernel)⟩
theorem lw_p51 : lw_okq (⟨"ShardmoorModel", "chunkOf", "(I)I"⟩, 50) := ⟨⟨by decide +kernel, by decide +kernel⟩, List.mem_of_getElem? (i := 1400) (by decide +kernel), List.mem_of_getElem? (i := 1668) (by decide +kernel), List.mem_of_getElem? (i := 1669) (by decide +kernel)⟩
theorem lw_p52 : lw_okq (⟨"ShardmoorModel", "keyOf", "(I)I"⟩, 50) := ⟨⟨by decide +kernel, by decide +kernel⟩, List.mem_of_getElem? (i := 1400) (by decide +kernel), List.mem_of_getElem? (i := 1672) (by decide +kernel), List.mem_of_getElem? (i := 1673) (by decide +kernel)⟩
theorem lw_p53 : lw_okq (⟨"ShardmoorModel", "moving", "()I"⟩, 50) := ⟨⟨by decide +kernel, by decide +kernel⟩, List.mem_of_getElem? (i := 1400) (by decide +kernel), List.mem_of_getElem? (i := 1680) (by decide +kernel), List.mem_of_getElem? (i := 1681) (by decide +kernel)⟩
theorem lw_p54 : lw_okq (⟨"ShardmoorModel", "enters", "(III)V"⟩, 50) := ⟨⟨by decide +kernel, by decide +kernel⟩, List.mem_of_getElem? (i := 1400) (by decide +kernel), List.mem_of_getElem? (i := 1684) (by decide +kernel), List.mem_of_getElem? (i := 1685) (by decide +kernel)⟩
theorem lw_p55 : lw_okq (⟨"ShardmoorModel", "isThere", "(I)Z"⟩, 50) := ⟨⟨by decide +kernel, by decide +kernel⟩, List.mem_of_getElem? (i := 1400) (by decide +kernel), List.mem_of_getElem? (i := 1692) (by decide +kernel), List.mem_of_getElem? (i := 1693) (by decide +kernel)⟩
theorem lw_p56 : lw_okq (⟨"ShardmoorModel", "updates", "(III)Z"⟩, 50) := ⟨⟨by decide +kernel, by decide +kernel⟩, List.mem_of_getElem? (i := 1400) (by decide +kernel), List.mem_of_getElem? (i := 1696) (by decide +kernel), List.mem_of_getElem? (i := 1697) (by decide +kernel)⟩
theorem lw_p57 : lw_okq (⟨"ShardmoorModel", "works", "(II)Z"⟩, 50) := ⟨⟨by decide +kernel, by decide +kernel⟩, List.mem_of_getElem? (i := 1400) (by decide +kernel), List.mem_of_getElem? (i := 1700) (by decide +kernel), List.mem_of_getElem? (i := 1701) (by decide +kernel)⟩
theorem lw_p58 : lw_okq (⟨"ShardmoorModel", "values", "([III)V"⟩, 50) := ⟨⟨by decide +kernel, by decide +kernel⟩, List.mem_of_getElem? (i := 1400) (by decide +kernel), List.mem_of_getElem? (i := 1704) (by decide +kernel), List.mem_of_getElem? (i := 1705) (by decide +kernel)⟩
theorem lw_p59 : lw_okq (⟨"ShardmoorModel", "compare", "([II[II)I"⟩, 50) := ⟨⟨by decide +kernel, by decide +kernel⟩, List.mem_of_getElem? (i := 1400) (by decide +kernel), List.mem_of_getElem? (i := 1708) (by decide +kernel), List.mem_of_getElem? (i := 1709) (by decide +kernel)⟩
theorem lw_p60 : lw_okq (⟨"ShardmoorModel", "removes", "(I)I"⟩, 50) := ⟨⟨by decide +kernel, by decide +kernel⟩, List.mem_of_getElem? (i := 1400) (by decide +kernel), List.mem_of_getElem? (i := 1716) (by decide +kernel), List.mem_of_getElem? (i := 1717) (by decide +kernel)⟩
theorem lw_p61 : lw_okq (⟨"ShardmoorModel", "isIndex", "(I)Z"⟩, 50) := ⟨⟨by decide +kernel, by decide +kernel⟩, List.mem_of_getElem? (i := 1400) (by decide +kernel), List.mem_of_getElem? (i := 1732) (by decide +kernel), List.mem_of_getElem? (i := 1733) (by decide +kernel)⟩
theorem lw_p62 : lw_okq (⟨"ShardmoorModel", "dropPlan", "(I)V"⟩, 50) := ⟨⟨by decide +kernel, by decide +kernel⟩, List.mem_of_getElem? (i := 1400) (by decide +kernel), List.mem_of_getElem? (i := 1736) (by decide +kernel), List.mem_of_getElem? (i := 1737) (by decide +kernel)⟩
theorem lw_p63 : lw_okq (⟨"ShardmoorModel", "filterAt", "(I)I"⟩, 50) := ⟨⟨by decide +kernel, by decide +kernel⟩, List.mem_of_getElem? (i := 1400) (by decide +kernel), List.mem_of_getElem? (i := 1744) (by decide +kernel), List.mem_of_getElem? (i := 1745) (by decide +kernel)⟩
def lw_privs_4 : List (MethodName × Nat) := [(⟨"ShardmoorModel", "fieldOf", "([III)I"⟩, 50), (⟨"ShardmoorModel", "uses", "(I)V"⟩, 50), (⟨"ShardmoorModel", "shardOf", "(I)I"⟩, 50), (⟨"ShardmoorModel", "chunkOf", "(I)I"⟩, 50), (⟨"ShardmoorModel", "keyOf", "(I)I"⟩, 50), (⟨"ShardmoorModel", "moving", "()I"⟩, 50), (⟨"ShardmoorModel", "enters", "(III)V"⟩, 50), (⟨"ShardmoorModel", "isThere", "(I)Z"⟩, 50), (⟨"ShardmoorModel", "updates", "(III)Z"⟩, 50), (⟨"ShardmoorModel", "works", "(II)Z"⟩, 50), (⟨"ShardmoorModel", "values", "([III)V"⟩, 50), (⟨"ShardmoorModel", "compare", "([II[II)I"⟩, 50), (⟨"ShardmoorModel", "removes", "(I)I"⟩, 50), (⟨"ShardmoorModel", "isIndex", "(I)Z"⟩, 50), (⟨"ShardmoorModel", "dropPlan", "(I)V"⟩, 50), (⟨"ShardmoorModel", "filterAt", "(I)I"⟩, 50)]
theorem lw_r4 : ∀ q ∈ lw_privs_4, lw_okq q := List.forall_mem_cons.mpr ⟨lw_p48, List.forall_mem_cons.mpr ⟨lw_p49, List.forall_mem_cons.mpr ⟨lw_p50, List.forall_mem_cons.mpr ⟨lw_p51, List.forall_mem_cons.mpr ⟨lw_p52, List.forall_mem_cons.mpr ⟨lw_p53, List.forall_mem_cons.mpr ⟨lw_p54, List.forall_mem_cons.mpr ⟨lw_p55, List.forall_mem_cons.mpr ⟨lw_p56, List.forall_mem_cons.mpr ⟨lw_p57, List.forall_mem_cons.mpr ⟨lw_p58, List.forall_mem_cons.mpr ⟨lw_p59, List.forall_mem_cons.mpr ⟨lw_p60, List.forall_mem_cons.mpr ⟨lw_p61, List.forall_mem_cons.mpr ⟨lw_p62, List.forall_mem_cons.mpr ⟨lw_p63, fun _ h => absurd h List.not_mem_nil⟩⟩⟩⟩⟩⟩⟩⟩⟩⟩⟩⟩⟩⟩⟩⟩
theorem lw_p64 : lw_okq (⟨"ShardmoorModel", "shape", "()J"⟩, 50) := ⟨⟨by decide +kernel, by decide +kernel⟩, List.mem_of_getElem? (i := 1400) (by decide +kernel), List.mem_of_getElem? (i := 1756) (by decide +kernel), List.mem_of_getElem? (i := 1757) (by decide +kernel)⟩
theorem lw_p65 : lw_okq (⟨"ShardmoorModel", "looked", "(I)I"⟩, 50) := ⟨⟨by decide +kernel, by decide +kernel⟩, List.mem_of_getElem? (i := 1400) (by decide +kernel), List.mem_of_getElem? (i := 1762) (by decide +kernel), List.mem_of_getElem? (i := 1763) (by decide +kernel)⟩
theorem lw_p66 : lw_okq (⟨"ShardmoorModel", "lookFilter", "(I)I"⟩, 50) := ⟨⟨by decide +kernel, by decide +kernel⟩, List.mem_of_getElem? (i := 1400) (by decide +kernel), List.mem_of_getElem? (i := 1766) (by decide +kernel), List.mem_of_getElem? (i := 1767) (by decide +kernel)⟩
theorem lw_p67 : lw_okq (⟨"ShardmoorModel", "looks", "(II)V"⟩, 50) := ⟨⟨by decide +kernel, by decide +kernel⟩, List.mem_of_getElem? (i := 1400) (by decide +kernel), List.mem_of_getElem? (i := 1770) (by decide +kernel), List.mem_of_getElem? (i := 1771) (by decide +kernel)⟩
theorem lw_p68 : lw_okq (⟨"ShardmoorModel", "spotOf", "(II)V"⟩, 50) := ⟨⟨by decide +kernel, by decide +kernel⟩, List.mem_of_getElem? (i := 1400) (by decide +kernel), List.mem_of_getElem? (i := 1774) (by decide +kernel), List.mem_of_getElem? (i := 1775) (by decide +kernel)⟩
theorem lw_p69 : lw_okq (⟨"ShardmoorModel", "spot", "(I)V"⟩, 50) := ⟨⟨by decide +kernel, by decide +kernel⟩, List.mem_of_getElem? (i := 1400) (by decide +kernel), List.mem_of_getElem? (i := 1778) (by decide +kernel), List.mem_of_getElem? (i := 1779) (by decide +kernel)⟩
theorem lw_p70 : lw_okq (⟨"ShardmoorModel", "fitsAt", "(II)Z"⟩, 50) := ⟨⟨by decide +kernel, by decide +kernel⟩, List.mem_of_getElem? (i := 1400) (by decide +kernel), List.mem_of_getElem? (i := 1782) (by decide +kernel), List.mem_of_getElem? (i := 1783) (by decide +kernel)⟩
theorem lw_p71 : lw_okq (⟨"ShardmoorModel", "fitsAll", "(I)Z"⟩, 50) := ⟨⟨by decide +kernel, by decide +kernel⟩, List.mem_of_getElem? (i := 1400) (by decide +kernel), List.mem_of_getElem? (i := 1786) (by decide +kernel), List.mem_of_getElem? (i := 1787) (by decide +kernel)⟩
theorem lw_p72 : lw_okq (⟨"ShardmoorModel", "fits", "(II)Z"⟩, 50) := ⟨⟨by decide +kernel, by decide +kernel⟩, List.mem_of_getElem? (i := 1400) (by decide +kernel), List.mem_of_getElem? (i := 1790) (by decide +kernel), List.mem_of_getElem? (i := 1791) (by decide +kernel)⟩
theorem lw_p73 : lw_okq (⟨"ShardmoorModel", "membersOf", "([II)I"⟩, 50) := ⟨⟨by decide +kernel, by decide +kernel⟩, List.mem_of_getElem? (i := 1400) (by decide +kernel), List.mem_of_getElem? (i := 1794) (by decide +kernel), List.mem_of_getElem? (i := 1795) (by decide +kernel)⟩
theorem lw_p74 : lw_okq (⟨"ShardmoorModel", "groupsAt", "(IJ)V"⟩, 50) := ⟨⟨by decide +kernel, by decide +kernel⟩, List.mem_of_getElem? (i := 1400) (by decide +kernel), List.mem_of_getElem? (i := 1814) (by decide +kernel), List.mem_of_getElem? (i := 1815) (by decide +kernel)⟩
theorem lw_p75 : lw_okq (⟨"ShardmoorModel", "printOf", "([II)J"⟩, 50) := ⟨⟨by decide +kernel, by decide +kernel⟩, List.mem_of_getElem? (i := 1400) (by decide +kernel), List.mem_of_getElem? (i := 1818) (by decide +kernel), List.mem_of_getElem? (i := 1819) (by decide +kernel)⟩
theorem lw_p76 : lw_okq (⟨"ShardmoorModel", "isChunk", "(I)Z"⟩, 50) := ⟨⟨by decide +kernel, by decide +kernel⟩, List.mem_of_getElem? (i := 1400) (by decide +kernel), List.mem_of_getElem? (i := 1832) (by decide +kernel), List.mem_of_getElem? (i := 1833) (by decide +kernel)⟩
theorem lw_p77 : lw_okq (⟨"ShardmoorModel", "forgets", "()V"⟩, 50) := ⟨⟨by decide +kernel, by decide +kernel⟩, List.mem_of_getElem? (i := 1400) (by decide +kernel), List.mem_of_getElem? (i := 1840) (by decide +kernel), List.mem_of_getElem? (i := 1841) (by decide +kernel)⟩
theorem lw_p78 : lw_okq (⟨"ShardmoorModel", "documentsOf", "(I)I"⟩, 50) := ⟨⟨by decide +kernel, by decide +kernel⟩, List.mem_of_getElem? (i := 1400) (by decide +kernel), List.mem_of_getElem? (i := 1844) (by decide +kernel), List.mem_of_getElem? (i := 1845) (by decide +kernel)⟩
theorem lw_p79 : lw_okq (⟨"ShardmoorModel", "copies", "()I"⟩, 50) := ⟨⟨by decide +kernel, by decide +kernel⟩, List.mem_of_getElem? (i := 1400) (by decide +kernel), List.mem_of_getElem? (i := 1852) (by decide +kernel), List.mem_of_getElem? (i := 1853) (by decide +kernel)⟩
def lw_privs_5 : List (MethodName × Nat) := [(⟨"ShardmoorModel", "shape", "()J"⟩, 50), (⟨"ShardmoorModel", "looked", "(I)I"⟩, 50), (⟨"ShardmoorModel", "lookFilter", "(I)I"⟩, 50), (⟨"ShardmoorModel", "looks", "(II)V"⟩, 50), (⟨"ShardmoorModel", "spotOf", "(II)V"⟩, 50), (⟨"ShardmoorModel", "spot", "(I)V"⟩, 50), (⟨"ShardmoorModel", "fitsAt", "(II)Z"⟩, 50), (⟨"ShardmoorModel", "fitsAll", "(I)Z"⟩, 50), (⟨"ShardmoorModel", "fits", "(II)Z"⟩, 50), (⟨"ShardmoorModel", "membersOf", "([II)I"⟩, 50), (⟨"ShardmoorModel", "groupsAt", "(IJ)V"⟩, 50), (⟨"ShardmoorModel", "printOf", "([II)J"⟩, 50), (⟨"ShardmoorModel", "isChunk", "(I)Z"⟩, 50), (⟨"ShardmoorModel", "forgets", "()V"⟩, 50), (⟨"ShardmoorModel", "documentsOf", "(I)I"⟩, 50), (⟨"ShardmoorModel", "copies", "()I"⟩, 50)]
theorem lw_r5 : ∀ q ∈ lw_privs_5, lw_okq q := List.forall_mem_cons.mpr ⟨lw_p64, List.forall_mem_cons.mpr ⟨lw_p65, List.forall_mem_cons.mpr ⟨lw_p66, List.forall_mem_cons.mpr ⟨lw_p67, List.forall_mem_cons.mpr ⟨lw_p68, List.forall_mem_cons.mpr ⟨lw_p69, List.forall_mem_cons.mpr ⟨lw_p70, List.forall_mem_cons.mpr ⟨lw_p71, List.forall_mem_cons.mpr ⟨lw_p72, List.forall_mem_cons.mpr ⟨lw_p73, List.forall_mem_cons.mpr ⟨lw_p74, List.forall_mem_cons.mpr ⟨lw_p75, List.forall_mem_cons.mpr ⟨lw_p76, List.forall_mem_cons.mpr ⟨lw_p77, List.forall_mem_cons.mpr ⟨lw_p78, List.forall_mem_cons.mpr ⟨lw_p79, fun _ h => absurd h List.not_mem_nil⟩⟩⟩⟩⟩⟩⟩⟩⟩⟩⟩⟩⟩⟩⟩⟩
theorem lw_p80 : lw_okq (⟨"ShardmoorModel", "entriesOf", "(I)I"⟩, 50) := ⟨⟨by decide +kernel, by decide +kernel⟩, List.mem_of_getElem? (i := 1400) (by decide +kernel), List.mem_of_getElem? (i := 1896) (by decide +kernel), List.mem_of_getElem? (i := 1897) (by decide +kernel)⟩
def lw_privs_6 : List (MethodName × Nat) := [(⟨"ShardmoorModel", "entriesOf", "(I)I"⟩, 50)]
theorem lw_r6 : ∀ q ∈ lw_privs_6, lw_okq q := List.forall_mem_cons.mpr ⟨lw_p80, fun _ h => absurd h List.not_mem_nil⟩
def lw_privs : List (MethodName × Nat) := lw_privs_1 ++ (lw_privs_2 ++ (lw_privs_3 ++ (lw_privs_4 ++ (lw_privs_5 ++ (lw_privs_6)))))
def lw_tbl : List Cond := k2_sels lw_privs ++ tables_1
theorem lw_privs_ok : ∀ q ∈ lw_privs, lw_okq q := by
  show ∀ q ∈ lw_privs_1 ++ (lw_privs_2 ++ (lw_privs_3 ++ (lw_privs_4 ++ (lw_privs_5 ++ (lw_privs_6))))), lw_okq q
  exact List.forall_mem_append.mpr ⟨lw_r1, List.forall_mem_append.mpr ⟨lw_r2, List.forall_mem_append.mpr ⟨lw_r3, List.forall_mem_append.mpr ⟨lw_r4, List.forall_mem_append.mpr ⟨lw_r5, lw_r6⟩⟩⟩⟩⟩
-- ===== end of PART A; then your names; then what follows =====
end
section
/-! ===== BEGIN words of one list among another's, by their places ===== -/
theorem goodIn_r {big : List Cond} (ws : List Cond) (ps : List Nat) (hp : ws = ps.filterMap (fun i => big[i]?)) (h : ws.all goodWord = true) : GoodIn big ws := by
  intro w hw
  have h1 := List.all_eq_true.mp h w hw
  rw [hp] at hw
  obtain ⟨i, -, hi⟩ := List.mem_filterMap.mp hw
  have hm : w ∈ big := by first | exact List.mem_of_getElem? hi | exact List.getElem?_mem hi
  exact ⟨hm, good_of_word h1⟩
theorem goodIn_app {big a b : List Cond} (ha : GoodIn big a) (hb : GoodIn big b) : GoodIn big (a ++ b) := fun w h => (List.mem_append.mp h).elim (ha w) (hb w)
theorem goodIn_ca {big a b : List Cond} {c : Cond} (ha : GoodIn big (c :: a)) (hb : GoodIn big b) : GoodIn big (c :: (a ++ b)) := fun w h => (List.mem_cons.mp h).elim (fun e => ha w (List.mem_cons.mpr (Or.inl e))) (fun h => (List.mem_append.mp h).elim (fun h => ha w (List.mem_cons.mpr (Or.inr h))) (hb w))
theorem goodIn_sub {big ws : List Cond} (hm : ∀ w ∈ ws, w ∈ big) (h : ws.all goodWord = true) : GoodIn big ws := fun w hw => ⟨hm w hw, good_of_word (List.all_eq_true.mp h w hw)⟩
/-! ===== END ===== -/

/-! ===== BEGIN exceptions that leave a method, and their catching by the caller (launches without stack traces) ===== -/
section VXA
/-! The laws vx_back, vx_callV, vx_callS, vx_callSW, vx_throw0, vx_throwS follow proofs of the library, with one case more: JvmDerived/Free/Laws.lean (Back.of_free), Shelf42/LK1.lean (callV, callS), Shelf/KitTraced.lean (throwNew0V, throwNewS). -/
/-- where a method has thrown q: the class by its name, the cell, what was written, the world -/
def vx_T (XC : String → State → State → Prop) (st : State) (q : Addr) (t : State) (mc ms : Nat) (free : Addr → Prop) : Prop :=
  ∃ (E : String) (ce : Cell) (L : List Loc), XC E st t ∧ t.heap[q]? = some ce ∧ ce.vm = .none ∧ st.vm.findClass E = some ce.cls ∧ st.WarmedH t.vm ∧ st.sameButNew ({ t with vm := st.vm } : State) L mc ms ∧ ∀ z ∈ L, free z.base
def vx_Q (Qc : Array Value → State → Outcome → State → Prop) (XC : String → State → State → Prop) (mc ms : Nat) (free : Addr → Prop) : Array Value → State → Outcome → State → Prop := fun a st o t =>
  (Qc a st o t ∧ ∃ L, FrameEnd st o t L mc ms ∧ ∀ q ∈ L, free q.base) ∨ ∃ q, o = .threw q ∧ vx_T XC st q t mc ms free
/-- a callee that returns or throws -/
def vx_Met (l : Launch) (y : MethodName) (ws : List Cond) (rm : Room) (Pc : Array Value → State → Prop) (Qc : Array Value → State → Outcome → State → Prop) (XC : String → State → State → Prop) (mc ms : Nat) (free : Addr → Prop) : Prop :=
  MetFree l y (headSpec ws rm) Pc (fun _ _ _ _ _ => True) (vx_Q Qc XC mc ms free)
def vx_Post (XC : String → State → State → Prop) (mc ms : Nat) (free : Addr → Prop) : Pt → Array Value → Addr → Pt → Prop := fun A a q B =>
  ∃ (g : JFrame) (mk : MethodId) (t : State) (L : List Loc) (E : String) (ce : Cell), B.U.heap = t.heap ∧ B.U.vm = t.vm ∧ XC E (A.U.calling g mk a) t ∧ t.heap[q]? = some ce ∧ ce.vm = .none ∧ A.U.vm.findClass E = some ce.cls ∧ B.locs = A.locs ++ L ∧ (∀ z ∈ L, free z.base) ∧ B.cells = A.cells + mc ∧ B.slots = A.slots + ms
def vx_Back (l : Launch) (R : Room) (p : Program) (e : Env) (below : List Frame) (s : State) (sargs : Array Value) (y : MethodName) (len W9 : Nat)
    (Pre : Pt → Array Value → Prop) (Post : Pt → Array Value → Option Value → Pt → Prop) (PostX : Pt → Array Value → Addr → Pt → Prop) : Prop :=
  ∀ (m : MethodId) (meth : Method) (c : Code) (A : Pt) (g : JFrame) (ig : Instr) (mk : MethodId) (a : Array Value),
    Stand p l e R s m sargs below meth c A.U A.locs A.cells A.slots → g.method = m → g.locals.size = c.maxLocals → decode c.code g.pc = .ok (ig, len) →
    2 * g.monitorRoom + (g.stack.map fun v => v.category).sum ≤ W9 → A.U.methodNamed? y = some mk → Pre A a →
    (∃ (v : Option Value) (B : Pt), Stand p l e R s m sargs below meth c B.U B.locs B.cells B.slots ∧ Post A a v B ∧
      Steps p.tables e below (doInvoke e (A.U.setTop g) [] mk a).1 (B.U.setTop { g with pc := g.pc + len, stack := v.toList ++ g.stack })) ∨
    (∃ (q : Addr) (B : Pt), Stand p l e R s m sargs below meth c B.U B.locs B.cells B.slots ∧ PostX A a q B ∧
      Steps p.tables e below (doInvoke e (A.U.setTop g) [] mk a).1 ((B.U.setTop g).pushFrame (.throwing q)))
section Payer
variable {l : Launch} {R : Room} {p : Program} {e : Env} {below : List Frame} {s : State} {sargs : Array Value} {y : MethodName} {len W9 : Nat}
theorem vx_back {ws : List Cond} {rm : Room} {Pc : Array Value → State → Prop} {Qc : Array Value → State → Outcome → State → Prop} {XC : String → State → State → Prop} {mc ms : Nat} {free : Addr → Prop} {bytes : ByteArray} {maxL : Nat} {ret : Option FieldType}
    (hM : vx_Met l y ws rm Pc Qc XC mc ms free) (hblind : FrameBlind Pc) (hrc : rm.cells = mc) (hrs : rm.slots = ms)
    (hframes : rm.frames + 1 ≤ R.frames) (hlocals : W9 + (maxL + 11) + rm.locals ≤ R.locals)
    (hws : ∀ w ∈ ws, ∀ a' U, s.WarmedH U.vm → w.before a' U = true) (hcode : Cond.code y bytes maxL ret ∈ ws) (hinit : ∀ a' U, s.WarmedH U.vm → (Cond.initialized y.cls).before a' U = true) :
    vx_Back l R p e below s sargs y len W9 (PreOf R mc ms Pc) (PostOf Qc mc ms free) (vx_Post XC mc ms free) := by
  intro m meth c A g ig mk a X hg hsize hdg hW hn hp
  have h1 : (headSpec ws rm).pre.before a A.U = true := atoms_intro fun w hw => hws w hw _ _ X.warmed
  have h2 : (Cond.code y bytes maxL ret).before a A.U = true := hws _ hcode _ _ X.warmed
  have h3 : (Cond.initialized y.cls).before a A.U = true := hinit _ _ X.warmed
  have h4 : A.cells + (headSpec ws rm).room.cells ≤ R.cells := by rw [show (headSpec ws rm).room.cells = mc from hrc]; exact hp.1
  have h5 : A.slots + (headSpec ws rm).room.slots ≤ R.slots := by rw [show (headSpec ws rm).room.slots = ms from hrs]; exact hp.2.1
  have hPc : Pc a (A.U.calling g mk a) := hblind _ _ _ _ hp.2.2
  obtain ⟨U, Ls, c0, s0⟩ := A
  dsimp only [Pt.U, Pt.locs, Pt.cells, Pt.slots] at h1 h2 h3 h4 h5 X hn hPc ⊢
  obtain ⟨methY, cY, hmY, hcY, -, hlY, -, -, -, -⟩ := Cond.code_spec hn h2
  obtain ⟨kY, hkY, -⟩ := className_of_methodNamed hn
  have hinitY : kY.init = .initialized := Cond.initialized_spec (findClass_of_methodNamed hn) hkY h3
  have h : At U g.method c below := by rw [hg]; exact X.here
  have hlocals9 : W9 + (maxL + 11) + (headSpec ws rm).room.locals ≤ R.locals := hlocals
  have happ : (headSpec ws rm).appliesLoose y e.platform (U.calling g mk a) = true :=
    Spec.appliesLoose_calling (g := g) h hdg hn hkY hinitY
      (X.room_calling (g := g) (R' := (headSpec ws rm).room) hsize hmY hcY hframes (by rw [hlY]; omega) h4 h5) h1
  obtain ⟨mid, hmid⟩ := h.above
  have hfr : (U.setTop g).frames = (.java g :: mid) ++ below := by rw [State.frames_setTop' g h.top, hmid]; rfl
  obtain ⟨o, s₂, hsteps, -, hend, hq⟩ := Steps.callFree hM p X.admits X.cas X.clock (acts := []) hfr happ hPc trivial
  have hq' : vx_Q Qc XC mc ms free a (U.calling g mk a) o s₂ := hq
  rw [State.frames_setTop' g h.top] at hend
  obtain ⟨g₀, hg0⟩ := Option.isSome_iff_exists.mp h.top
  obtain ⟨r, hr⟩ := State.topJava?_eq_some.mp hg0
  have hr' : (({ U with heap := s₂.heap, slotsUsed := s₂.slotsUsed } : State).setVm s₂.vm).frames = .java g₀ :: r := hr
  rcases hq' with ⟨hqc, L, hfe, hL⟩ | ⟨q, rfl, E, ce, L, hx, hce, hcv, hcl, hW₂, hsm, hL⟩
  · obtain ⟨⟨v, rfl⟩, hW₂, e2, q2, q3, q4, q5, q6⟩ := id hfe
    have e3 : s₂ = ({ (U.calling g mk a).setFrames s₂.frames with heap := s₂.heap, slotsUsed := s₂.slotsUsed } : State).setVm s₂.vm := by
      have : s₂ = ({ s₂ with vm := (U.calling g mk a).vm } : State).setVm s₂.vm := rfl
      rw [e2] at this
      exact this
    obtain ⟨c₂, i₂, len₂, hc₂, hd₂, hf₂⟩ := hend
    have hW' : U.WarmedH s₂.vm := hW₂
    have hcc : c₂ = c := by
      have h1 : s₂.code? g.method = U.code? g.method := by
        rw [State.code?_eq, State.code?_eq, hW'.alike.method?]
      exact Option.some.inj (hc₂.symm.trans (h1.trans h.code))
    subst hcc
    have hlen : len₂ = len := by rw [hdg] at hd₂; cases hd₂; rfl
    subst hlen
    have hs₂ : s₂ = (({ U with heap := s₂.heap, slotsUsed := s₂.slotsUsed } : State).setVm s₂.vm).setTop { g with pc := g.pc + len₂, stack := v.toList ++ g.stack } := by
      refine e3.trans ?_
      rw [hf₂, State.calling_eq h.top, State.setFrames_setFrames, State.setTop_of_frames _ hr', hr]
      rfl
    have hsame : U.sameButNew ({ U with heap := s₂.heap, slotsUsed := s₂.slotsUsed } : State) L mc ms := by
      refine ⟨?_, q2, q3, q4, q5, q6⟩
      obtain ⟨t, ht, -⟩ := State.frames_cons hr
      show ({ U with heap := s₂.heap, slotsUsed := s₂.slotsUsed } : State) = { U.setFrames U.frames with heap := s₂.heap, slotsUsed := s₂.slotsUsed }
      rw [State.setFrames_self ht]
    subst hg
    refine Or.inl ⟨v, ⟨(({ U with heap := s₂.heap, slotsUsed := s₂.slotsUsed } : State).setVm s₂.vm), Ls ++ L, c0 + mc, s0 + ms⟩,
      ⟨X.admits, X.cas, X.clock, X.frames, X.room, X.hears, X.method, X.code, (X.here.setHeapUsed s₂.heap s₂.slotsUsed).setVm hW'.alike, X.tail, State.WarmedH.trans X.warmed hW', X.limits, X.bytes, X.same.trans (hsame.setVm s.vm)⟩,
      ⟨g, mk, s₂, L, rfl, rfl, hqc, rfl, hL, rfl, rfl⟩, ?_⟩
    show Steps p.tables e below _ ((({ U with heap := s₂.heap, slotsUsed := s₂.slotsUsed } : State).setVm s₂.vm).setTop { g with pc := g.pc + len₂, stack := v.toList ++ g.stack })
    rw [← hs₂]
    exact hsteps
  · obtain ⟨e2, q2, q3, q4, q5, q6⟩ := id hsm
    have e3 : s₂ = ({ (U.calling g mk a).setFrames s₂.frames with heap := s₂.heap, slotsUsed := s₂.slotsUsed } : State).setVm s₂.vm := by
      have : s₂ = ({ s₂ with vm := (U.calling g mk a).vm } : State).setVm s₂.vm := rfl
      rw [e2] at this
      exact this
    have hf₂ : s₂.frames = .throwing q :: .java g :: U.frames.tail := hend
    have hW' : U.WarmedH s₂.vm := hW₂
    have hs₂ : s₂ = ((({ U with heap := s₂.heap, slotsUsed := s₂.slotsUsed } : State).setVm s₂.vm).setTop g).pushFrame (.throwing q) := by
      refine e3.trans ?_
      rw [hf₂, State.calling_eq h.top, State.setFrames_setFrames, State.pushFrame, State.frames_setTop _ hr', State.setTop_of_frames _ hr', State.setFrames_setFrames, hr]
      rfl
    have hsame : U.sameButNew ({ U with heap := s₂.heap, slotsUsed := s₂.slotsUsed } : State) L mc ms := by
      refine ⟨?_, q2, q3, q4, q5, q6⟩
      obtain ⟨t, ht, -⟩ := State.frames_cons hr
      show ({ U with heap := s₂.heap, slotsUsed := s₂.slotsUsed } : State) = { U.setFrames U.frames with heap := s₂.heap, slotsUsed := s₂.slotsUsed }
      rw [State.setFrames_self ht]
    subst hg
    refine Or.inr ⟨q, ⟨(({ U with heap := s₂.heap, slotsUsed := s₂.slotsUsed } : State).setVm s₂.vm), Ls ++ L, c0 + mc, s0 + ms⟩,
      ⟨X.admits, X.cas, X.clock, X.frames, X.room, X.hears, X.method, X.code, (X.here.setHeapUsed s₂.heap s₂.slotsUsed).setVm hW'.alike, X.tail, State.WarmedH.trans X.warmed hW', X.limits, X.bytes, X.same.trans (hsame.setVm s.vm)⟩,
      ⟨g, mk, s₂, L, E, ce, rfl, rfl, hx, hce, hcv, hcl, rfl, hL, rfl, rfl⟩, ?_⟩
    show Steps p.tables e below _ (((({ U with heap := s₂.heap, slotsUsed := s₂.slotsUsed } : State).setVm s₂.vm).setTop g).pushFrame (.throwing q))
    rw [← hs₂]
    exact hsteps
end Payer
section Calls
variable {p : Program} {l : Launch} {e : Env} {R : Room} {s : State} {m : MethodId} {args : Array Value} {below : List Frame} {meth : Method} {c : Code} {T : State} {locs : List Loc} {cells slots : Nat}
theorem vx_callV (X : Stand p l e R s m args below meth c T locs cells slots) (hexec : p.tables.exec = Jvm.exec) {own C : String} {index : Nat} {y : MethodName} {bytes : ByteArray} {maxL : Nat} {ret : Option FieldType}
    (hown : s.vm.findClass own = some m.cls) (hlink : (Cond.methodLink own index y).before args s = true) (hinst : (Cond.instanceMethod y).before args s = true) (hsel : (Cond.selects C y y).before args s = true)
    (hcode : (Cond.code y bytes maxL ret).before args s = true) (hy : y.cls ≠ "java/lang/invoke/MethodHandle" ∧ y.cls ≠ "java/lang/invoke/VarHandle")
    {W9 : Nat} {Pre : Pt → Array Value → Prop} {Post : Pt → Array Value → Option Value → Pt → Prop} {PostX : Pt → Array Value → Addr → Pt → Prop} (hK : vx_Back l R p e below s args y 3 W9 Pre Post PostX)
    {b : Addr} {cellB : Cell} (hcell : T.heap[b]? = some cellB) (hobj : cellB.vm.isStatics = false) (hcls : s.vm.findClass C = some cellB.cls)
    {g : JFrame} (hg : g.method = m) (hsize : g.locals.size = c.maxLocals) {argsL rest : List Value} (hlen : ∀ sig, parseMethodDescriptor y.desc = some sig → argsL.length = sig.parameters.length)
    (hstack : g.stack = argsL.reverse ++ .ref b :: rest) (hW : 2 * g.monitorRoom + (rest.map fun v => v.category).sum ≤ W9) (hdg : decode c.code g.pc = .ok (.invokevirtual index, 3))
    (hpre : ∀ vm₁, s.WarmedH vm₁ → Pre ⟨T.setVm vm₁, locs, cells, slots⟩ (Value.ref b :: argsL).toArray) :
    (∃ (v : Option Value) (vm₁ : Vm) (B : Pt), s.WarmedH vm₁ ∧ Stand p l e R s m args below meth c B.U B.locs B.cells B.slots ∧ Post ⟨T.setVm vm₁, locs, cells, slots⟩ (Value.ref b :: argsL).toArray v B ∧
      ∀ target, Steps p.tables e below (B.U.setTop { g with pc := g.pc + 3, stack := v.toList ++ rest }) target → Steps p.tables e below (T.setTop g) target) ∨
    (∃ (q : Addr) (vm₁ : Vm) (B : Pt), s.WarmedH vm₁ ∧ Stand p l e R s m args below meth c B.U B.locs B.cells B.slots ∧ PostX ⟨T.setVm vm₁, locs, cells, slots⟩ (Value.ref b :: argsL).toArray q B ∧
      Steps p.tables e below (T.setTop g) ((B.U.setTop { g with stack := rest }).pushFrame (.throwing q))) := by
  obtain ⟨mk, methM, hnamed, hmethM, hstM, habM⟩ := Cond.instanceMethod_spec hinst
  obtain ⟨methM', cM, hmethM', -, -, -, -, -, -, hsigM⟩ := Cond.code_spec hnamed hcode
  cases hmethM.symm.trans hmethM'
  obtain ⟨c2, r2, m2, q1, q2, q3, q4, kP, hkP, hkPi⟩ := Cond.selects_spec hsel
  cases hcls.symm.trans q1
  cases (State.methodFound?_of_named hnamed hy).symm.trans q2
  cases hnamed.symm.trans q3
  have hselP : selectMethod e.platform s.vm cellB.cls mk = .method mk := by rw [Launch.admits_selectMethod X.admits]; exact q4
  obtain ⟨vm₁, X₁, hstep₁⟩ := X.invokevirtual hexec hown hlink hnamed hmethM hstM hkP hkPi hy (a := b) (cell := cellB) hcell
    (fun z h => by rw [h] at hobj; cases hobj) hselP hmethM habM hkP hkPi (g := g) hg (argsL := argsL) (rest := rest) (hlen _ hsigM) hstack hdg
  rcases hK m meth c ⟨T.setVm vm₁, locs, cells, slots⟩ { g with stack := rest } (.invokevirtual index) mk (Value.ref b :: argsL).toArray X₁ hg hsize hdg hW (X₁.named hnamed) (hpre vm₁ X₁.warmed) with ⟨v, B, X', hpost, hsteps⟩ | ⟨q, B, X', hpost, hsteps⟩
  · exact Or.inl ⟨v, vm₁, B, X₁.warmed, X', hpost, fun target h => hstep₁ _ fun acts => by rw [doInvoke_state]; exact hsteps.trans h⟩
  · exact Or.inr ⟨q, vm₁, B, X₁.warmed, X', hpost, hstep₁ _ fun acts => by rw [doInvoke_state]; exact hsteps⟩
theorem vx_callS (X : Stand p l e R s m args below meth c T locs cells slots) (hexec : p.tables.exec = Jvm.exec) {own : String} {index : Nat} {y : MethodName} {bytes : ByteArray} {maxL : Nat} {ret : Option FieldType}
    (hown : s.vm.findClass own = some m.cls) (hlink : (Cond.methodLink own index y).before args s = true) (hstat : (Cond.static y).before args s = true) (hinit : (Cond.initialized y.cls).before args s = true)
    (hcode : (Cond.code y bytes maxL ret).before args s = true) (hy : y.cls ≠ "java/lang/invoke/MethodHandle" ∧ y.cls ≠ "java/lang/invoke/VarHandle")
    {W9 : Nat} {Pre : Pt → Array Value → Prop} {Post : Pt → Array Value → Option Value → Pt → Prop} {PostX : Pt → Array Value → Addr → Pt → Prop} (hK : vx_Back l R p e below s args y 3 W9 Pre Post PostX)
    {g : JFrame} (hg : g.method = m) (hsize : g.locals.size = c.maxLocals) {argsL rest : List Value} (hlen : ∀ sig, parseMethodDescriptor y.desc = some sig → argsL.length = sig.parameters.length)
    (hstack : g.stack = argsL.reverse ++ rest) (hW : 2 * g.monitorRoom + (rest.map fun v => v.category).sum ≤ W9) (hdg : decode c.code g.pc = .ok (.invokestatic index, 3))
    (hpre : ∀ vm₁, s.WarmedH vm₁ → Pre ⟨T.setVm vm₁, locs, cells, slots⟩ argsL.toArray) :
    (∃ (v : Option Value) (vm₁ : Vm) (B : Pt), s.WarmedH vm₁ ∧ Stand p l e R s m args below meth c B.U B.locs B.cells B.slots ∧ Post ⟨T.setVm vm₁, locs, cells, slots⟩ argsL.toArray v B ∧
      ∀ target, Steps p.tables e below (B.U.setTop { g with pc := g.pc + 3, stack := v.toList ++ rest }) target → Steps p.tables e below (T.setTop g) target) ∨
    (∃ (q : Addr) (vm₁ : Vm) (B : Pt), s.WarmedH vm₁ ∧ Stand p l e R s m args below meth c B.U B.locs B.cells B.slots ∧ PostX ⟨T.setVm vm₁, locs, cells, slots⟩ argsL.toArray q B ∧
      Steps p.tables e below (T.setTop g) ((B.U.setTop { g with stack := rest }).pushFrame (.throwing q))) := by
  obtain ⟨mk, hnamed⟩ := Cond.code_named hcode
  obtain ⟨methM, cM, hmethM, -, -, -, -, -, -, hsigM⟩ := Cond.code_spec hnamed hcode
  have hstatic : methM.isStatic = true := Cond.static_spec hnamed hmethM hstat
  obtain ⟨kP, hkP, -⟩ := className_of_methodNamed hnamed
  have hinitP : kP.init = .initialized := Cond.initialized_spec (findClass_of_methodNamed hnamed) hkP hinit
  obtain ⟨vm₁, X₁, hstep₁⟩ := X.invokestatic hexec hown hlink hnamed hmethM hstatic hkP hinitP hy (g := g) hg (argsL := argsL) (rest := rest) (hlen _ hsigM) hstack hdg
  rcases hK m meth c ⟨T.setVm vm₁, locs, cells, slots⟩ { g with stack := rest } (.invokestatic index) mk argsL.toArray X₁ hg hsize hdg hW (X₁.named hnamed) (hpre vm₁ X₁.warmed) with ⟨v, B, X', hpost, hsteps⟩ | ⟨q, B, X', hpost, hsteps⟩
  · exact Or.inl ⟨v, vm₁, B, X₁.warmed, X', hpost, fun target h => hstep₁ _ fun acts => by rw [doInvoke_state]; exact hsteps.trans h⟩
  · exact Or.inr ⟨q, vm₁, B, X₁.warmed, X', hpost, hstep₁ _ fun acts => by rw [doInvoke_state]; exact hsteps⟩
end Calls
theorem vx_cls {s : State} {T : State} {vm₁ : Vm} {E : String} {k : ClassId} (hW : s.WarmedH vm₁) (h : (T.setVm vm₁).vm.findClass E = some k) : s.vm.findClass E = some k := by
  have h1 : vm₁.findClass E = some k := h
  rw [hW.alike.findClass] at h1
  exact h1
/-- the method's frame g, with q thrown over it -/
def vx_W (p : Program) (l : Launch) (e : Env) (R : Room) (s : State) (m : MethodId) (args : Array Value) (below : List Frame) (meth : Method) (c : Code) (H : Heap) (locs : List Loc) (cells slots : Nat) (Q : State → Prop) (g : JFrame) (q : Addr) : Prop :=
  ∀ T : State, T.heap = H → Stand p l e R s m args below meth c T locs cells slots → ∃ t, Steps p.tables e below ((T.setTop g).pushFrame (.throwing q)) t ∧ Q t
def vx_Run (p : Program) (l : Launch) (e : Env) (R : Room) (s : State) (m : MethodId) (args : Array Value) (below : List Frame) (meth : Method) (c : Code) (H : Heap) (locs : List Loc) (cells slots mc ms : Nat) (g : JFrame) (rest : List Value) (Qa : State → Outcome → State → Prop) (XC : String → State → State → Prop) (free : Addr → Prop) : Prop :=
  ∀ T : State, T.heap = H → Stand p l e R s m args below meth c T locs cells slots →
    (∃ (v : Option Value) (st₀ t T' : State) (L : List Loc), st₀.heap = H ∧ Stand p l e R s m args below meth c T' (locs ++ L) (cells + mc) (slots + ms) ∧ (∀ q ∈ L, free q.base) ∧ T'.heap = t.heap ∧ T'.vm = t.vm ∧ Qa st₀ (.returned v) t ∧
      Goes p e below T g T' { g with pc := g.pc + 3, stack := v.toList ++ rest }) ∨
    (∃ (q : Addr) (st₀ t T' : State) (L : List Loc) (E : String) (ce : Cell), st₀.heap = H ∧ Stand p l e R s m args below meth c T' (locs ++ L) (cells + mc) (slots + ms) ∧ (∀ z ∈ L, free z.base) ∧ T'.heap = t.heap ∧ T'.vm = t.vm ∧ XC E st₀ t ∧ t.heap[q]? = some ce ∧ ce.vm = .none ∧ s.vm.findClass E = some ce.cls ∧
      Steps p.tables e below (T.setTop g) ((T'.setTop { g with stack := rest }).pushFrame (.throwing q)))
def vx_X {S : Type} (px : S → Prop) (B : String → S → State → Prop) (A : Nat → Prop) : String → State → State → Prop := fun E st t => ∃ u : S, px u ∧ B E u t ∧ va_F A st t
section Runs
variable {p : Program} {l : Launch} {e : Env} {R : Room} {s : State} {m : MethodId} {args : Array Value} {below : List Frame} {meth : Method} {c : Code} {H : Heap} {locs : List Loc} {cells slots : Nat}
variable {y : MethodName} {bytes cc : ByteArray} {maxL nL mc ms n index : Nat} {ret : Option FieldType} {ws : List Cond} {rm : Room} {Pc : Array Value → State → Prop} {Qc : Array Value → State → Outcome → State → Prop} {XC : String → State → State → Prop} {free : Addr → Prop} {Ts : List Cond} {own C : String} {b : Addr} {As rest : List Value} {g : JFrame}
theorem vx_callBack (cb : CallB R s args own index y bytes maxL ret ws rm mc ms n) (hM : vx_Met l y ws rm Pc Qc XC mc ms free) (hbl : FrameBlind Pc) : vx_Back l R p e below s args y 3 8 (PreOf R mc ms Pc) (PostOf Qc mc ms free) (vx_Post XC mc ms free) := by
  obtain ⟨hrc, hrs, hfr, hlo, hws, hcw, -, hini, -⟩ := cb
  exact vx_back (bytes := bytes) (maxL := maxL) (ret := ret) hM hbl hrc hrs hfr hlo hws hcw (fun a' U hW => word_at hW (Or.inl (by first | rfl | simp [Cond.onTables, Cond.keeps, Cond.steady])) hini)
theorem vx_runV (S : CallFix p m c cc nL s args Ts own) (hM : vx_Met l y ws rm Pc Qc XC mc ms free) (cw : CallW R s args own C index y bytes maxL ret ws rm mc ms n) (hp : PreV s H C b Pc As)
    (hg : g.method = m) (hn : As.length = n) (hsize : g.locals.size = nL) (hstack : g.stack = As.reverse ++ .ref b :: rest) (hW : 2 * g.monitorRoom + (rest.map fun v => v.category).sum ≤ 8) (hdg : decode cc g.pc = .ok (.invokevirtual index, 3)) (hf : cells + mc ≤ R.cells ∧ slots + ms ≤ R.slots) :
    vx_Run p l e R s m args below meth c H locs cells slots mc ms g rest (Qc (Value.ref b :: As).toArray) XC free := by
  have hK : vx_Back l R p e below s args y 3 8 (PreOf R mc ms Pc) (PostOf Qc mc ms free) (vx_Post XC mc ms free) := vx_callBack cw.1 hM hp.1
  obtain ⟨⟨-, -, -, -, -, -, hcode, -, hy, hlen, hl⟩, hin, hse⟩ := cw
  obtain ⟨hx, hb, hml, ho, -⟩ := S
  obtain ⟨-, ⟨cellB, hcB, hoB, hclB⟩, hPc⟩ := hp
  intro T hT X
  rcases vx_callV X hx (C := C) (bytes := bytes) (maxL := maxL) (ret := ret) ho hl hin hse hcode hy hK (by rw [hT]; exact hcB) hoB hclB hg (hsize.trans hml.symm) (argsL := As) (rest := rest) (fun sig h => hn.trans (hlen sig h)) hstack hW (by rw [hb]; exact hdg)
    (fun vm₁ hW₁ => ⟨hf.1, hf.2, hPc (T.setVm vm₁) hT hW₁⟩) with ⟨v, vm₁, ⟨U', l2, c2, s2⟩, hW₁, X', ⟨g', mk, t, L, e1, e2, hq, h1, hL, h2, h3⟩, st⟩ | ⟨q, vm₁, ⟨U', l2, c2, s2⟩, hW₁, X', ⟨g', mk, t, L, E, ce, e1, e2, hq, hce, hcv, hcl, h1, hL, h2, h3⟩, st⟩
  · dsimp only [Pt.U, Pt.locs, Pt.cells, Pt.slots] at X' e1 e2 h1 h2 h3 st
    subst h1; subst h2; subst h3
    exact Or.inl ⟨v, (T.setVm vm₁).calling g' mk (Value.ref b :: As).toArray, t, U', L, hT, X', hL, e1, e2, hq, st⟩
  · dsimp only [Pt.U, Pt.locs, Pt.cells, Pt.slots] at X' e1 e2 h1 h2 h3 st hcl
    subst h1; subst h2; subst h3
    exact Or.inr ⟨q, (T.setVm vm₁).calling g' mk (Value.ref b :: As).toArray, t, U', L, E, ce, hT, X', hL, e1, e2, hq, hce, hcv, vx_cls hW₁ hcl, st⟩
theorem vx_runS (S : CallFix p m c cc nL s args Ts own) (hM : vx_Met l y ws rm Pc Qc XC mc ms free) (cw : CallB R s args own index y bytes maxL ret ws rm mc ms n ∧ (Cond.static y).before args s = true) (hp : PreS s H Pc As)
    (hg : g.method = m) (hn : As.length = n) (hsize : g.locals.size = nL) (hstack : g.stack = As.reverse ++ rest) (hW : 2 * g.monitorRoom + (rest.map fun v => v.category).sum ≤ 8) (hdg : decode cc g.pc = .ok (.invokestatic index, 3)) (hf : cells + mc ≤ R.cells ∧ slots + ms ≤ R.slots) :
    vx_Run p l e R s m args below meth c H locs cells slots mc ms g rest (Qc As.toArray) XC free := by
  have hK : vx_Back l R p e below s args y 3 8 (PreOf R mc ms Pc) (PostOf Qc mc ms free) (vx_Post XC mc ms free) := vx_callBack cw.1 hM hp.1
  obtain ⟨⟨-, -, -, -, -, -, hcode, hini, hy, hlen, hl⟩, hstt⟩ := cw
  obtain ⟨hx, hb, hml, ho, -⟩ := S
  intro T hT X
  rcases vx_callS X hx (bytes := bytes) (maxL := maxL) (ret := ret) ho hl hstt hini hcode hy hK hg (hsize.trans hml.symm) (argsL := As) (rest := rest) (fun sig h => hn.trans (hlen sig h)) hstack hW (by rw [hb]; exact hdg)
    (fun vm₁ hW₁ => ⟨hf.1, hf.2, hp.2 (T.setVm vm₁) hT hW₁⟩) with ⟨v, vm₁, ⟨U', l2, c2, s2⟩, hW₁, X', ⟨g', mk, t, L, e1, e2, hq, h1, hL, h2, h3⟩, st⟩ | ⟨q, vm₁, ⟨U', l2, c2, s2⟩, hW₁, X', ⟨g', mk, t, L, E, ce, e1, e2, hq, hce, hcv, hcl, h1, hL, h2, h3⟩, st⟩
  · dsimp only [Pt.U, Pt.locs, Pt.cells, Pt.slots] at X' e1 e2 h1 h2 h3 st
    subst h1; subst h2; subst h3
    exact Or.inl ⟨v, (T.setVm vm₁).calling g' mk As.toArray, t, U', L, hT, X', hL, e1, e2, hq, st⟩
  · dsimp only [Pt.U, Pt.locs, Pt.cells, Pt.slots] at X' e1 e2 h1 h2 h3 st hcl
    subst h1; subst h2; subst h3
    exact Or.inr ⟨q, (T.setVm vm₁).calling g' mk As.toArray, t, U', L, E, ce, hT, X', hL, e1, e2, hq, hce, hcv, vx_cls hW₁ hcl, st⟩
end Runs
section Rows
variable {p : Program} {l : Launch} {e : Env} {R : Room} {s : State} {m : MethodId} {args : Array Value} {below : List Frame} {meth : Method} {c : Code} {H : Heap} {locs : List Loc} {cells slots : Nat} {Q : State → Prop}
variable {mc ms : Nat} {free : Addr → Prop} {A0 A1 : Nat → Prop} {H0 : Heap} {a : Array Value} {pc : Nat} {ls : Array Slot} {st0 rest : List Value}
theorem vx_keep {st₀ t T' : State} {L : List Loc} (h0 : st₀.heap = H) (e1 : T'.heap = t.heap) (hS : va_S A0 H0 H locs) (hA : ∀ q, q < H.size → A1 q → A0 q) (hf : ∀ q, free q → A0 q) (hL : ∀ q ∈ L, free q.base) (hF : va_F A1 st₀ t) :
    H.size ≤ T'.heap.size ∧ (∀ q : Nat, q < H.size → ¬ A1 q → T'.heap[q]? = H[q]?) ∧ va_S A0 H0 T'.heap (locs ++ L) := by
  obtain ⟨hz, hk⟩ := hF
  rw [h0] at hz hk
  exact ⟨by rw [e1]; exact hz, fun q h1 h2 => by rw [e1]; exact hk q h1 h2,
    ⟨Nat.le_trans hS.1 (by rw [e1]; exact hz), fun q h1 h2 => by rw [e1, hk q (Nat.lt_of_lt_of_le h1 hS.1) (fun z => h2 (hA q (Nat.lt_of_lt_of_le h1 hS.1) z))]; exact hS.2.1 q h1 h2, fun q hq => by
      rcases List.mem_append.mp hq with h | h
      · exact hS.2.2 q h
      · exact hf _ (hL q h)⟩⟩
theorem vx_calli {S SX : Type} {post : Int32 → S → Prop} {px : SX → Prop} {B : S → State → Prop} {BX : String → SX → State → Prop} {AX : Nat → Prop} (hr : vx_Run p l e R s m args below meth c H locs cells slots mc ms (F0 m pc ls st0) rest (va_Qi post B A1 a) (vx_X px BX AX) free) (hS : va_S A0 H0 H locs) (hA : ∀ q, q < H.size → A1 q → A0 q) (hf : ∀ q, free q → A0 q) (hAX : ∀ q, q < H.size → AX q → A0 q)
    (kx : ∀ (E : String) (ce : Cell) (q9 : Addr) (u : SX) (t : State) (H1 : Heap) (locs1 : List Loc), t.heap = H1 → s.vm.Alike t.vm → px u → BX E u t → H.size ≤ H1.size → (∀ q : Nat, q < H.size → ¬ AX q → H1[q]? = H[q]?) → va_S A0 H0 H1 locs1 → H1[q9]? = some ce → ce.vm = .none → s.vm.findClass E = some ce.cls → vx_W p l e R s m args below meth c H1 locs1 (cells + mc) (slots + ms) Q (F0 m pc ls rest) q9)
    (kk : ∀ (r : Int32) (u : S) (t : State) (H1 : Heap) (locs1 : List Loc), t.heap = H1 → s.vm.Alike t.vm → post r u → B u t → H.size ≤ H1.size → (∀ q : Nat, q < H.size → ¬ A1 q → H1[q]? = H[q]?) → va_S A0 H0 H1 locs1 → W p l e R s m args below meth c H1 locs1 (cells + mc) (slots + ms) Q (F0 m (pc + 3) ls (.int r :: rest))) : W p l e R s m args below meth c H locs cells slots Q (F0 m pc ls st0) := by
  intro T hT X
  rcases hr T hT X with ⟨v, st₀, t, T', L, h0, X', hL, e1, e2, ⟨⟨r, u, hv, hp, hb⟩, hF⟩, st⟩ | ⟨q, st₀, t, T', L, E, ce, h0, X', hL, e1, e2, ⟨u, hp, hb, hF⟩, hce, hcv, hcl, st⟩
  · cases hv
    obtain ⟨k1, k2, k3⟩ := vx_keep h0 e1 hS hA hf hL hF
    obtain ⟨t2, a1, b1⟩ := kk r u t T'.heap (locs ++ L) e1.symm (by rw [← e2]; exact X'.warmed.alike) hp hb k1 k2 k3 T' rfl X'
    exact ⟨t2, st t2 a1, b1⟩
  · obtain ⟨k1, k2, k3⟩ := vx_keep h0 e1 hS hAX hf hL hF
    obtain ⟨t2, a1, b1⟩ := kx E ce q u t T'.heap (locs ++ L) e1.symm (by rw [← e2]; exact X'.warmed.alike) hp hb k1 k2 k3 (by rw [e1]; exact hce) hcv hcl T' rfl X'
    exact ⟨t2, st.trans a1, b1⟩
theorem vx_calll {S SX : Type} {post : Int64 → S → Prop} {px : SX → Prop} {B : S → State → Prop} {BX : String → SX → State → Prop} {AX : Nat → Prop} (hr : vx_Run p l e R s m args below meth c H locs cells slots mc ms (F0 m pc ls st0) rest (va_Ql post B A1 a) (vx_X px BX AX) free) (hS : va_S A0 H0 H locs) (hA : ∀ q, q < H.size → A1 q → A0 q) (hf : ∀ q, free q → A0 q) (hAX : ∀ q, q < H.size → AX q → A0 q)
    (kx : ∀ (E : String) (ce : Cell) (q9 : Addr) (u : SX) (t : State) (H1 : Heap) (locs1 : List Loc), t.heap = H1 → s.vm.Alike t.vm → px u → BX E u t → H.size ≤ H1.size → (∀ q : Nat, q < H.size → ¬ AX q → H1[q]? = H[q]?) → va_S A0 H0 H1 locs1 → H1[q9]? = some ce → ce.vm = .none → s.vm.findClass E = some ce.cls → vx_W p l e R s m args below meth c H1 locs1 (cells + mc) (slots + ms) Q (F0 m pc ls rest) q9)
    (kk : ∀ (r : Int64) (u : S) (t : State) (H1 : Heap) (locs1 : List Loc), t.heap = H1 → s.vm.Alike t.vm → post r u → B u t → H.size ≤ H1.size → (∀ q : Nat, q < H.size → ¬ A1 q → H1[q]? = H[q]?) → va_S A0 H0 H1 locs1 → W p l e R s m args below meth c H1 locs1 (cells + mc) (slots + ms) Q (F0 m (pc + 3) ls (.long r :: rest))) : W p l e R s m args below meth c H locs cells slots Q (F0 m pc ls st0) := by
  intro T hT X
  rcases hr T hT X with ⟨v, st₀, t, T', L, h0, X', hL, e1, e2, ⟨⟨r, u, hv, hp, hb⟩, hF⟩, st⟩ | ⟨q, st₀, t, T', L, E, ce, h0, X', hL, e1, e2, ⟨u, hp, hb, hF⟩, hce, hcv, hcl, st⟩
  · cases hv
    obtain ⟨k1, k2, k3⟩ := vx_keep h0 e1 hS hA hf hL hF
    obtain ⟨t2, a1, b1⟩ := kk r u t T'.heap (locs ++ L) e1.symm (by rw [← e2]; exact X'.warmed.alike) hp hb k1 k2 k3 T' rfl X'
    exact ⟨t2, st t2 a1, b1⟩
  · obtain ⟨k1, k2, k3⟩ := vx_keep h0 e1 hS hAX hf hL hF
    obtain ⟨t2, a1, b1⟩ := kx E ce q u t T'.heap (locs ++ L) e1.symm (by rw [← e2]; exact X'.warmed.alike) hp hb k1 k2 k3 (by rw [e1]; exact hce) hcv hcl T' rfl X'
    exact ⟨t2, st.trans a1, b1⟩
theorem vx_callf {S SX : Type} {post : UInt32 → S → Prop} {px : SX → Prop} {B : S → State → Prop} {BX : String → SX → State → Prop} {AX : Nat → Prop} (hr : vx_Run p l e R s m args below meth c H locs cells slots mc ms (F0 m pc ls st0) rest (va_Qf post B A1 a) (vx_X px BX AX) free) (hS : va_S A0 H0 H locs) (hA : ∀ q, q < H.size → A1 q → A0 q) (hf : ∀ q, free q → A0 q) (hAX : ∀ q, q < H.size → AX q → A0 q)
    (kx : ∀ (E : String) (ce : Cell) (q9 : Addr) (u : SX) (t : State) (H1 : Heap) (locs1 : List Loc), t.heap = H1 → s.vm.Alike t.vm → px u → BX E u t → H.size ≤ H1.size → (∀ q : Nat, q < H.size → ¬ AX q → H1[q]? = H[q]?) → va_S A0 H0 H1 locs1 → H1[q9]? = some ce → ce.vm = .none → s.vm.findClass E = some ce.cls → vx_W p l e R s m args below meth c H1 locs1 (cells + mc) (slots + ms) Q (F0 m pc ls rest) q9)
    (kk : ∀ (r : UInt32) (u : S) (t : State) (H1 : Heap) (locs1 : List Loc), t.heap = H1 → s.vm.Alike t.vm → post r u → B u t → H.size ≤ H1.size → (∀ q : Nat, q < H.size → ¬ A1 q → H1[q]? = H[q]?) → va_S A0 H0 H1 locs1 → W p l e R s m args below meth c H1 locs1 (cells + mc) (slots + ms) Q (F0 m (pc + 3) ls (.float r :: rest))) : W p l e R s m args below meth c H locs cells slots Q (F0 m pc ls st0) := by
  intro T hT X
  rcases hr T hT X with ⟨v, st₀, t, T', L, h0, X', hL, e1, e2, ⟨⟨r, u, hv, hp, hb⟩, hF⟩, st⟩ | ⟨q, st₀, t, T', L, E, ce, h0, X', hL, e1, e2, ⟨u, hp, hb, hF⟩, hce, hcv, hcl, st⟩
  · cases hv
    obtain ⟨k1, k2, k3⟩ := vx_keep h0 e1 hS hA hf hL hF
    obtain ⟨t2, a1, b1⟩ := kk r u t T'.heap (locs ++ L) e1.symm (by rw [← e2]; exact X'.warmed.alike) hp hb k1 k2 k3 T' rfl X'
    exact ⟨t2, st t2 a1, b1⟩
  · obtain ⟨k1, k2, k3⟩ := vx_keep h0 e1 hS hAX hf hL hF
    obtain ⟨t2, a1, b1⟩ := kx E ce q u t T'.heap (locs ++ L) e1.symm (by rw [← e2]; exact X'.warmed.alike) hp hb k1 k2 k3 (by rw [e1]; exact hce) hcv hcl T' rfl X'
    exact ⟨t2, st.trans a1, b1⟩
theorem vx_calld {S SX : Type} {post : UInt64 → S → Prop} {px : SX → Prop} {B : S → State → Prop} {BX : String → SX → State → Prop} {AX : Nat → Prop} (hr : vx_Run p l e R s m args below meth c H locs cells slots mc ms (F0 m pc ls st0) rest (va_Qd post B A1 a) (vx_X px BX AX) free) (hS : va_S A0 H0 H locs) (hA : ∀ q, q < H.size → A1 q → A0 q) (hf : ∀ q, free q → A0 q) (hAX : ∀ q, q < H.size → AX q → A0 q)
    (kx : ∀ (E : String) (ce : Cell) (q9 : Addr) (u : SX) (t : State) (H1 : Heap) (locs1 : List Loc), t.heap = H1 → s.vm.Alike t.vm → px u → BX E u t → H.size ≤ H1.size → (∀ q : Nat, q < H.size → ¬ AX q → H1[q]? = H[q]?) → va_S A0 H0 H1 locs1 → H1[q9]? = some ce → ce.vm = .none → s.vm.findClass E = some ce.cls → vx_W p l e R s m args below meth c H1 locs1 (cells + mc) (slots + ms) Q (F0 m pc ls rest) q9)
    (kk : ∀ (r : UInt64) (u : S) (t : State) (H1 : Heap) (locs1 : List Loc), t.heap = H1 → s.vm.Alike t.vm → post r u → B u t → H.size ≤ H1.size → (∀ q : Nat, q < H.size → ¬ A1 q → H1[q]? = H[q]?) → va_S A0 H0 H1 locs1 → W p l e R s m args below meth c H1 locs1 (cells + mc) (slots + ms) Q (F0 m (pc + 3) ls (.double r :: rest))) : W p l e R s m args below meth c H locs cells slots Q (F0 m pc ls st0) := by
  intro T hT X
  rcases hr T hT X with ⟨v, st₀, t, T', L, h0, X', hL, e1, e2, ⟨⟨r, u, hv, hp, hb⟩, hF⟩, st⟩ | ⟨q, st₀, t, T', L, E, ce, h0, X', hL, e1, e2, ⟨u, hp, hb, hF⟩, hce, hcv, hcl, st⟩
  · cases hv
    obtain ⟨k1, k2, k3⟩ := vx_keep h0 e1 hS hA hf hL hF
    obtain ⟨t2, a1, b1⟩ := kk r u t T'.heap (locs ++ L) e1.symm (by rw [← e2]; exact X'.warmed.alike) hp hb k1 k2 k3 T' rfl X'
    exact ⟨t2, st t2 a1, b1⟩
  · obtain ⟨k1, k2, k3⟩ := vx_keep h0 e1 hS hAX hf hL hF
    obtain ⟨t2, a1, b1⟩ := kx E ce q u t T'.heap (locs ++ L) e1.symm (by rw [← e2]; exact X'.warmed.alike) hp hb k1 k2 k3 (by rw [e1]; exact hce) hcv hcl T' rfl X'
    exact ⟨t2, st.trans a1, b1⟩
theorem vx_callv {S SX : Type} {post : S → Prop} {px : SX → Prop} {B : S → State → Prop} {BX : String → SX → State → Prop} {AX : Nat → Prop} (hr : vx_Run p l e R s m args below meth c H locs cells slots mc ms (F0 m pc ls st0) rest (va_Qv post B A1 a) (vx_X px BX AX) free) (hS : va_S A0 H0 H locs) (hA : ∀ q, q < H.size → A1 q → A0 q) (hf : ∀ q, free q → A0 q) (hAX : ∀ q, q < H.size → AX q → A0 q)
    (kx : ∀ (E : String) (ce : Cell) (q9 : Addr) (u : SX) (t : State) (H1 : Heap) (locs1 : List Loc), t.heap = H1 → s.vm.Alike t.vm → px u → BX E u t → H.size ≤ H1.size → (∀ q : Nat, q < H.size → ¬ AX q → H1[q]? = H[q]?) → va_S A0 H0 H1 locs1 → H1[q9]? = some ce → ce.vm = .none → s.vm.findClass E = some ce.cls → vx_W p l e R s m args below meth c H1 locs1 (cells + mc) (slots + ms) Q (F0 m pc ls rest) q9)
    (kk : ∀ (u : S) (t : State) (H1 : Heap) (locs1 : List Loc), t.heap = H1 → s.vm.Alike t.vm → post u → B u t → H.size ≤ H1.size → (∀ q : Nat, q < H.size → ¬ A1 q → H1[q]? = H[q]?) → va_S A0 H0 H1 locs1 → W p l e R s m args below meth c H1 locs1 (cells + mc) (slots + ms) Q (F0 m (pc + 3) ls (rest))) : W p l e R s m args below meth c H locs cells slots Q (F0 m pc ls st0) := by
  intro T hT X
  rcases hr T hT X with ⟨v, st₀, t, T', L, h0, X', hL, e1, e2, ⟨⟨u, hv, hp, hb⟩, hF⟩, st⟩ | ⟨q, st₀, t, T', L, E, ce, h0, X', hL, e1, e2, ⟨u, hp, hb, hF⟩, hce, hcv, hcl, st⟩
  · cases hv
    obtain ⟨k1, k2, k3⟩ := vx_keep h0 e1 hS hA hf hL hF
    obtain ⟨t2, a1, b1⟩ := kk u t T'.heap (locs ++ L) e1.symm (by rw [← e2]; exact X'.warmed.alike) hp hb k1 k2 k3 T' rfl X'
    exact ⟨t2, st t2 a1, b1⟩
  · obtain ⟨k1, k2, k3⟩ := vx_keep h0 e1 hS hAX hf hL hF
    obtain ⟨t2, a1, b1⟩ := kx E ce q u t T'.heap (locs ++ L) e1.symm (by rw [← e2]; exact X'.warmed.alike) hp hb k1 k2 k3 (by rw [e1]; exact hce) hcv hcl T' rfl X'
    exact ⟨t2, st.trans a1, b1⟩
/-- caught by the row x of this method's table; the rows ahead don't take it -/
theorem vx_catch {own name : String} {E : String} {ce : Cell} {q : Addr} (hown : s.vm.findClass own = some m.cls) (pre : List ExceptionTableEntry) (x : ExceptionTableEntry) (suf : List ExceptionTableEntry) (hsplit : c.exceptionTable.toList = pre ++ x :: suf)
    (hpass : ∀ z ∈ pre, covers z pc = false ∨ (z.catchType ≠ 0 ∧ ∃ nm : String, (Cond.classLink own z.catchType nm).before args s = true ∧ va_Nc E nm s)) (hx : covers x pc = true) (h0 : x.catchType ≠ 0)
    (hlink : (Cond.classLink own x.catchType name).before args s = true) (hcast : (Cond.castable E name).before args s = true) (hcell : H[q]? = some ce) (hv : ce.vm = .none) (hcl : s.vm.findClass E = some ce.cls)
    (kk : W p l e R s m args below meth c H locs cells slots Q (F0 m x.handlerPc ls [.ref q])) : vx_W p l e R s m args below meth c H locs cells slots Q (F0 m pc ls rest) q := by
  intro T hT X
  have hpl : e.platform.magicAccessors = ({} : Platform).magicAccessors := by rw [X.admits.platform]
  obtain ⟨c3, c4, hc3, hc4, hasg⟩ := Cond.castable_spec hcast
  cases Option.some.inj (hc3.symm.trans hcl)
  obtain ⟨c5, hc5, hcl5⟩ := Cond.classLink_spec hown hlink e.platform hpl
  cases Option.some.inj (hc4.symm.trans hc5)
  obtain ⟨vm', X', st⟩ := X.thenCaughtThrough q (g := F0 m pc ls rest) rfl (Steps.refl _) (by rw [hT]; exact hcell) (by rw [hv]; rfl) (by obtain ⟨k9, h9, -⟩ := Vm.findClass_spec hcl; exact ⟨k9, h9⟩) pre x suf hsplit
    (fun z hz => by
      rcases hpass z hz with h | ⟨hz0, nm, hl1, hn1⟩
      · exact Or.inl h
      · obtain ⟨c6, hc6, hcl6⟩ := Cond.classLink_spec hown hl1 e.platform hpl
        obtain ⟨a8, b8, h1, h2, h3⟩ := hn1
        cases Option.some.inj (h1.symm.trans hcl)
        cases Option.some.inj (h2.symm.trans hc6)
        exact Or.inr ⟨hz0, _, hcl6, h3⟩) hx (Or.inr ⟨h0, c4, hcl5, hasg⟩)
  obtain ⟨t, a1, b1⟩ := kk (T.setVm vm') hT X'
  exact ⟨t, st.trans a1, b1⟩
end Rows
section Ends
variable {p : Program} {l : Launch} {e : Env} {R : Room} {s : State} {m : MethodId} {args : Array Value} {below : List Frame} {meth : Method} {c : Code} {H : Heap} {locs : List Loc} {cells slots : Nat} {Q : State → Prop}
variable {mc ms : Nat} {free : Addr → Prop} {A0 A1 : Nat → Prop} {H0 : Heap} {a : Array Value} {ls : Array Slot} {st0 rest : List Value}
variable {Qc : Array Value → State → Outcome → State → Prop} {XC : String → State → State → Prop}
/-- what a body that may throw owes at its end -/
def vx_MQ (below : List Frame) (Qc : Array Value → State → Outcome → State → Prop) (XC : String → State → State → Prop) (a : Array Value) (s : State) (mc ms : Nat) (free : Addr → Prop) : State → Prop := fun t =>
  ∃ o, t.status = .running ∧ Ended t below o ∧ vx_Q Qc XC mc ms free a s o t
theorem vx_ret {g : JFrame} {mc ms : Nat} (k : W p l e R s m args below meth c H locs cells slots (MQ below Qc args s mc ms free) g) : W p l e R s m args below meth c H locs cells slots (vx_MQ below Qc XC args s mc ms free) g := by
  intro T hT X
  obtain ⟨t, a1, o, b1, b2, b3, b4⟩ := k T hT X
  exact ⟨t, a1, o, b1, b2, Or.inl ⟨b3, b4⟩⟩
/-- not caught here: it goes on to the caller -/
theorem vx_widen {g : JFrame} {q : Addr} {k n : Nat} (h1 : cells ≤ k) (h2 : slots ≤ n) (kk : vx_W p l e R s m args below meth c H locs k n Q g q) : vx_W p l e R s m args below meth c H locs cells slots Q g q := fun T hT X => kk T hT (stand_widen X h1 h2)
theorem vx_out {pc : Nat} {E : String} {ce : Cell} {q : Addr} {mc ms : Nat} (hout : ∀ x ∈ c.exceptionTable.toList, covers x pc = false) (hlocks : meth.locks = false) (hcell : H[q]? = some ce) (hv : ce.vm = .none) (hcl : s.vm.findClass E = some ce.cls)
    (hx : ∀ t : State, t.heap = H → s.vm.Alike t.vm → XC E s t) (hf : ∀ z ∈ locs, free z.base) (hc : cells ≤ mc) (hs : slots ≤ ms) :
    vx_W p l e R s m args below meth c H locs cells slots (vx_MQ below Qc XC args s mc ms free) (F0 m pc ls rest) q := by
  intro T hT X
  obtain ⟨st1, hrun, hend, hW, hsm⟩ := X.leaveThrown q (g := F0 m pc ls rest) rfl rfl rfl hout hlocks
  have hcell9 : (T.setFrames (.throwing q :: below)).heap[q]? = some ce := by
    show T.heap[q]? = some ce
    rw [hT]; exact hcell
  exact ⟨_, st1, .threw q, hrun, hend, Or.inr ⟨q, rfl, E, ce, locs, hx _ hT hW.alike, hcell9, hv, hcl, hW, hsm.mono hc hs, hf⟩⟩
theorem vx_frame {U : State} {k n : Nat} (h : s.sameButNew ({ U with vm := s.vm } : State) locs k n) : s.heap.size ≤ U.heap.size ∧ ∀ q : Nat, q < s.heap.size → (∀ z ∈ locs, z.base ≠ q) → U.heap[q]? = s.heap[q]? := by
  obtain ⟨-, h2, -, -, -, h6⟩ := h
  refine ⟨h2, fun q hq hz => ?_⟩
  obtain ⟨c9, e1, e2, e3, e4⟩ := h6 q _ (Array.getElem?_eq_getElem hq)
  have hs : c9.slots = (s.heap[q]).slots := Array.ext_getElem? fun i => e4 i fun hm => hz _ hm rfl
  have h9 : c9 = s.heap[q] := by
    rw [hs] at e2
    exact e2
  have e5 : U.heap[q]? = some c9 := e1
  rw [e5, h9, Array.getElem?_eq_getElem hq]
/-- the words of a throw but the four that speak of the heap -/
def vx_no (w : Cond) : Bool := decide (w ≠ .isRef (.static Bundle.tN "UNASSIGNED_STACK" Bundle.steD)) && decide (w ≠ .isRef (.static Bundle.tN "SUPPRESSED_SENTINEL" Bundle.listD)) && decide (w ≠ .laysStatic Bundle.tN "UNASSIGNED_STACK" Bundle.steD) && decide (w ≠ .laysStatic Bundle.tN "SUPPRESSED_SENTINEL" Bundle.listD)
def vx_at0 (own : String) (ic : Nat) (X : String) (names : List String) : List Cond := (Bundle.ownAtoms0 own ic X names).filter vx_no
def vx_atS (own : String) (ic : Nat) (X : String) (names : List String) : List Cond := (Bundle.ownAtoms own ic X names).filter vx_no
/-- a word that the tables alone decide, or a good one -/
def vx_ot (w : Cond) : Bool := w.onTables || goodWord w
theorem vx_ot_at {args a' : Array Value} {s U : State} {w : Cond} (hW : s.WarmedH U.vm) (hvm : s.vm = U.vm) (hg : vx_ot w = true) (h : w.before args s = true) : w.before a' U = true := by
  simp only [vx_ot, Bool.or_eq_true] at hg
  rcases hg with hg | hg
  · exact va_tabs hg hvm h
  · exact word_at hW (good_of_word hg) h
/-- a list's words: the good ones out of the method's own list, the others by premises of their own -/
theorem vx_hat {args : Array Value} {s : State} {L B : List Cond} (h1 : ∀ w ∈ L.filter goodWord, w.before args s = true) (h2 : ∀ w ∈ L.filter (fun w => !goodWord w), w ∈ B) (h3 : ∀ w ∈ B, w.before args s = true) : ∀ w ∈ L, w.before args s = true := by
  intro w hw
  by_cases g : goodWord w = true
  · exact h1 w (List.mem_filter.mpr ⟨hw, g⟩)
  · refine h3 w (h2 w (List.mem_filter.mpr ⟨hw, ?_⟩))
    show (!goodWord w) = true
    cases hgw : goodWord w
    · rfl
    · exact absurd hgw g
theorem vx_c {args : Array Value} {s : State} {w : Cond} {B : List Cond} (h : w.before args s = true) (t : ∀ w ∈ B, w.before args s = true) : ∀ w' ∈ w :: B, w'.before args s = true := fun w' h' => (List.mem_cons.mp h').elim (fun e => by rw [e]; exact h) (t w')
theorem vx_n {args : Array Value} {s : State} : ∀ w ∈ ([] : List Cond), w.before args s = true := fun _ h => nomatch h
theorem vx_own {args : Array Value} {s : State} {L : List Cond} (h1 : ∀ w ∈ L.filter vx_no, w.before args s = true)
    (hU : (Cond.isRef (.static Bundle.tN "UNASSIGNED_STACK" Bundle.steD)).before args s = true) (hN : (Cond.isRef (.static Bundle.tN "SUPPRESSED_SENTINEL" Bundle.listD)).before args s = true)
    (lU : (Cond.laysStatic Bundle.tN "UNASSIGNED_STACK" Bundle.steD).before args s = true) (lN : (Cond.laysStatic Bundle.tN "SUPPRESSED_SENTINEL" Bundle.listD).before args s = true) : ∀ w ∈ L, w.before args s = true := by
  intro w hw
  by_cases e1 : w = .isRef (.static Bundle.tN "UNASSIGNED_STACK" Bundle.steD)
  · rw [e1]; exact hU
  · by_cases e2 : w = .isRef (.static Bundle.tN "SUPPRESSED_SENTINEL" Bundle.listD)
    · rw [e2]; exact hN
    · by_cases e3 : w = .laysStatic Bundle.tN "UNASSIGNED_STACK" Bundle.steD
      · rw [e3]; exact lU
      · by_cases e4 : w = .laysStatic Bundle.tN "SUPPRESSED_SENTINEL" Bundle.listD
        · rw [e4]; exact lN
        · exact h1 w (List.mem_filter.mpr ⟨hw, by unfold vx_no; rw [decide_eq_true e1, decide_eq_true e2, decide_eq_true e3, decide_eq_true e4]; rfl⟩)
/-- where a static field lies, its class's statics cell in H -/
def vx_L (C n d : String) (A : Nat → Prop) (U : State) (H : Heap) : Prop := ∃ (c : ClassId) (k : Class) (i : Nat) (f : Field) (a : Nat) (cell : Cell), U.vm.findClass C = some c ∧ U.fieldFound? C n d = some (c, k, i, f) ∧ f.isStatic = true ∧ k.statics = some a ∧ H[a]? = some cell ∧ cell.vm.isStatics = true ∧ cell.cls = c ∧ f.slot < cell.slots.size ∧ k.staticTypes[f.slot]? = some f.type ∧ ¬ A a
theorem vx_L.moved {C n d : String} {A : Nat → Prop} {u U : State} {H : Heap} (hvm : u.vm.Alike U.vm) (h : vx_L C n d A u H) : vx_L C n d A U H := by
  obtain ⟨c, k, i, f, a, cell, h1, h2, h3, h4, h5, h6, h7, h8, h9, h10⟩ := h
  obtain ⟨k', hi', he⟩ := State.fieldFound?_setVm hvm h2
  exact ⟨c, k', i, f, a, cell, by rw [hvm.findClass]; exact h1, hi', h3, by rw [he]; exact h4, h5, h6, h7, h8, by rw [he]; exact h9, h10⟩
theorem vx_L.kept {C n d : String} {A : Nat → Prop} {U : State} {H H1 : Heap} (h : vx_L C n d A U H) (hq : ∀ a : Nat, a < H.size → ¬ A a → H1[a]? = H[a]?) : vx_L C n d A U H1 := by
  obtain ⟨c, k, i, f, a, cell, h1, h2, h3, h4, h5, h6, h7, h8, h9, h10⟩ := h
  exact ⟨c, k, i, f, a, cell, h1, h2, h3, h4, by rw [hq a (Array.getElem?_eq_some_iff.mp h5).1 h10]; exact h5, h6, h7, h8, h9, h10⟩
theorem vx_L.narrow {C n d : String} {A B : Nat → Prop} {U : State} {H : Heap} (h : vx_L C n d A U H) (hAB : ∀ q, B q → A q) : vx_L C n d B U H := by
  obtain ⟨c, k, i, f, a, cell, h1, h2, h3, h4, h5, h6, h7, h8, h9, h10⟩ := h
  exact ⟨c, k, i, f, a, cell, h1, h2, h3, h4, h5, h6, h7, h8, h9, fun z => h10 (hAB _ z)⟩
theorem vx_L.word {C n d : String} {A : Nat → Prop} {s : State} {args : Array Value} (h : vx_L C n d A s s.heap) : (Cond.laysStatic C n d).before args s = true := by
  obtain ⟨c, k, i, f, a, cell, h1, h2, h3, h4, h5, h6, h7, h8, h9, -⟩ := h
  show (Cond.laysStatic C n d).holds args s none s [] = true
  exact Cond.laysStatic_of h1 h2 h3 h4 h5 h6 h7 h8 h9
/-- .. and what it holds: null or some reference -/
def vx_Zq (C n d : String) (A : Nat → Prop) (U : State) (H : Heap) : Prop := va_Zq C n d A U H ∧ vx_L C n d A U H
theorem vx_Zq.moved {C n d : String} {A : Nat → Prop} {u U : State} {H : Heap} (hvm : u.vm.Alike U.vm) (h : vx_Zq C n d A u H) : vx_Zq C n d A U H := ⟨va_Zq.moved hvm h.1, vx_L.moved hvm h.2⟩
theorem vx_Zq.kept {C n d : String} {A : Nat → Prop} {U : State} {H H1 : Heap} (h : vx_Zq C n d A U H) (hq : ∀ a : Nat, a < H.size → ¬ A a → H1[a]? = H[a]?) : vx_Zq C n d A U H1 := ⟨va_Zq.kept h.1 hq, vx_L.kept h.2 hq⟩
theorem vx_Zq.narrow {C n d : String} {A B : Nat → Prop} {U : State} {H : Heap} (h : vx_Zq C n d A U H) (hAB : ∀ q, B q → A q) : vx_Zq C n d B U H := ⟨va_Zq.narrow h.1 hAB, vx_L.narrow h.2 hAB⟩
theorem vx_Zqof {args : Array Value} {s : State} {C n d : String} {A : Nat → Prop} (hl : (Cond.laysStatic C n d).before args s = true) (hini : (Cond.initialized C).before args s = true) (h : (Cond.isRef (.static C n d)).before args s = true) (hA : ∀ a : Nat, a < s.heap.size → ¬ A a) : vx_Zq C n d A s s.heap := by
  refine ⟨va_Zqof hl hini h hA, ?_⟩
  obtain ⟨c, k, i, f, a, cell, h1, h2, h3, h4, h5, h6, h7, h8, h9⟩ := Cond.laysStatic_spec hl
  exact ⟨c, k, i, f, a, cell, h1, h2, h3, h4, h5, h6, h7, h8, h9, hA a (Array.getElem?_eq_some_iff.mp h5).1⟩
theorem vx_isRef {C n d : String} {v : Value} {A : Nat → Prop} {s : State} {args : Array Value} (h : va_Z C n d v A s s.heap) (hv : v.isRef = true) : (Cond.isRef (.static C n d)).before args s = true := by
  obtain ⟨cf, kf, fi, f, a, cell, h1, h2, h3, h4, h5, h6, h7, -⟩ := h
  have he : (Term.static C n d).eval args s none [] s = some v := by
    simp [Term.eval, State.fieldNamed?, h1, h2, h4, h5, h6, h7]
  simp only [Cond.before, Cond.holds, Cond.value, he]
  cases v <;> simp_all [Value.isRef]
theorem vx_isRefq {C n d : String} {A : Nat → Prop} {s : State} {args : Array Value} (h : va_Zq C n d A s s.heap) : (Cond.isRef (.static C n d)).before args s = true := by
  rcases h with h | ⟨t, h⟩
  · exact vx_isRef h rfl
  · exact vx_isRef h rfl
/-- the same frame, seen from here: as if the method were called anew in this heap -/
theorem vx_rebase {T : State} (X : Stand p l e R s m args below meth c T locs cells slots) {R' : Room} (hf : R'.frames ≤ R.frames) (hl : R'.locals ≤ R.locals) (hc : cells + R'.cells ≤ R.cells) (hs : slots + R'.slots ≤ R.slots) :
    Stand p l e R' ((T.setVm s.vm).setFrames (.invoking m args :: below)) m args below meth c T [] 0 0 := by
  have htop : (T.setVm s.vm).topJava?.isSome := X.here.top
  have hF : ((T.setVm s.vm).setFrames (.invoking m args :: below)).frames = .invoking m args :: below := State.frames_setFrames _ (State.cur_lt_of_top htop)
  obtain ⟨g₀, hg0⟩ := Option.isSome_iff_exists.mp htop
  obtain ⟨r, hr⟩ := State.topJava?_eq_some.mp hg0
  have hl9 : e.platform.stackLimits (T.setVm s.vm).me = e.platform.stackLimits s.me := X.limits
  have hb9 : (T.setVm s.vm).me.stackBytes = s.me.stackBytes := X.bytes
  refine ⟨X.admits, X.cas, X.clock, hF, ?_, X.hears, X.method, X.code, X.here, X.tail, X.warmed, ?_, ?_, ?_⟩
  · have h := X.room
    have hU : ((T.setVm s.vm).setFrames (.invoking m args :: below)).localsInUse = s.localsInUse := by
      rw [State.localsInUse_invoking hF (meth := meth) (c := c) X.method X.code, State.localsInUse_invoking X.frames X.method X.code]
    simp only [State.hasRoom, Bool.and_eq_true, decide_eq_true_eq] at h ⊢
    obtain ⟨⟨⟨⟨h1, h2, h3, h4, h5, h6⟩, h7⟩, h8⟩, h9⟩ := h
    rw [X.frames, List.length_cons] at h2 h3
    have q1 := X.heapSize
    have q2 := X.used
    simp only [hF, hU, List.length_cons, State.stackLimits_setFrames, State.stackBytes_setFrames, hl9, hb9]
    refine ⟨⟨⟨⟨by omega, by omega, by omega, by omega, by omega, h6⟩, ?_⟩, ?_⟩, X.book⟩
    · show T.heap.size + R'.cells ≤ e.platform.maxCells
      omega
    · show T.slotsUsed + R'.slots ≤ e.platform.maxSlots
      omega
  · rw [State.stackLimits_setFrames]; rfl
  · rw [State.stackBytes_setFrames]; rfl
  · refine ⟨?_, Nat.le_refl _, Nat.le_refl _, ?_, ?_, fun a c9 h9 => ⟨c9, h9, rfl, rfl, fun _ _ => rfl⟩⟩
    · obtain ⟨t, ht, -⟩ := State.frames_cons hr
      show T.setVm s.vm = { ((T.setVm s.vm).setFrames (.invoking m args :: below)).setFrames (T.setVm s.vm).frames with heap := T.heap, slotsUsed := T.slotsUsed }
      rw [State.setFrames_setFrames, State.setFrames_self ht]
      rfl
    · show T.slotsUsed = T.slotsUsed + ((T.heap.toList.drop T.heap.size).map (·.slots.size)).sum
      rw [List.drop_eq_nil_of_le (Nat.le_of_eq Array.length_toList)]
      rfl
    · show ((T.heap.toList.drop T.heap.size).map (·.slots.size)).sum ≤ 0
      rw [List.drop_eq_nil_of_le (Nat.le_of_eq Array.length_toList)]
      exact Nat.le_refl _
/-- 'throw new E()': new; dup; invokespecial; athrow -/
theorem vx_throw0 {cc : ByteArray} {pc : Nat} (hexec : p.tables.exec = Jvm.exec) (hb : c.code = cc) (hl : l.stackTraces = false) {own cls : String} {names : List String} {ik ic mc ms : Nat} {A : Nat → Prop}
    (hown : s.vm.findClass own = some m.cls) (hcls : Bundle.fit cls = true) (hnames : ∀ n ∈ names, Bundle.fit n = true)
    (hk : (Cond.classLink own ik cls).before args s = true) (hini : (Cond.initialized cls).before args s = true) (hat : ∀ w ∈ vx_at0 own ic cls names, w.before args s = true)
    (hgood : ∀ w ∈ Cond.classLink own ik cls :: Cond.initialized cls :: vx_at0 own ic cls names, vx_ot w = true)
    (hU : vx_Zq Bundle.tN "UNASSIGNED_STACK" Bundle.steD A s s.heap) (hN : vx_Zq Bundle.tN "SUPPRESSED_SENTINEL" Bundle.listD A s s.heap) (hS : va_S A s.heap H locs) (hsize : ls.size = c.maxLocals)
    (d0 : decode cc pc = .ok (.new ik, 3)) (d3 : decode cc (pc + 3) = .ok (.dup, 1)) (d4 : decode cc (pc + 4) = .ok (.invokespecial ic, 3)) (d7 : decode cc (pc + 7) = .ok (.athrow, 1))
    (hout : ∀ x ∈ c.exceptionTable.toList, covers x (pc + 7) = false)
    (hRframes : names.length + 3 < R.frames) (hRlocals : (rest.map fun v => v.category).sum + (13 * (names.length + 1) + 42) ≤ R.locals) (hRcells : cells + 1 ≤ R.cells) (hRslots : slots + 6 ≤ R.slots) (hlocks : meth.locks = false)
    (hx : ∀ t : State, s.vm.Alike t.vm → H.size ≤ t.heap.size → (∀ q : Nat, q < H.size → t.heap[q]? = H[q]?) → XC cls s t)
    (hf : ∀ z ∈ locs, free z.base) (hc : cells + 1 ≤ mc) (hs : slots + 6 ≤ ms) :
    W p l e R s m args below meth c H locs cells slots (vx_MQ below Qc XC args s mc ms free) (F0 m pc ls rest) := by
  intro T hT X
  have htr : e.platform.stackTraces = false := (show e.platform.stackTraces = l.stackTraces by rw [X.admits.platform]).trans hl
  have Y := vx_rebase X (R' := { frames := R.frames, locals := R.locals, cells := 1, slots := 6 }) (Nat.le_refl _) (Nat.le_refl _) hRcells hRslots
  obtain ⟨s', hA⟩ : ∃ z, z = (T.setVm s.vm).setFrames (.invoking m args :: below) := ⟨_, rfl⟩
  rw [← hA] at Y
  have hvm : s'.vm = s.vm := by rw [hA]; rfl
  have hhp : s'.heap = H := by rw [hA]; exact hT
  have hW0 : s.WarmedH s'.vm := by rw [hvm]; exact State.WarmedH.refl s
  have hat' : ∀ w ∈ vx_at0 own ic cls names, w.before args s' = true := fun w hw => vx_ot_at hW0 hvm.symm (hgood w (List.mem_cons_of_mem _ (List.mem_cons_of_mem _ hw))) (hat w hw)
  have hk' : (Cond.classLink own ik cls).before args s' = true := vx_ot_at hW0 hvm.symm (hgood _ List.mem_cons_self) hk
  have hini' : (Cond.initialized cls).before args s' = true := vx_ot_at hW0 hvm.symm (hgood _ (List.mem_cons_of_mem _ List.mem_cons_self)) hini
  have hU' : vx_Zq Bundle.tN "UNASSIGNED_STACK" Bundle.steD A s' s'.heap := by rw [hhp]; exact vx_Zq.moved hW0.alike (hU.kept hS.2.1)
  have hN' : vx_Zq Bundle.tN "SUPPRESSED_SENTINEL" Bundle.listD A s' s'.heap := by rw [hhp]; exact vx_Zq.moved hW0.alike (hN.kept hS.2.1)
  have h : ∀ w ∈ Bundle.ownAtoms0 own ic cls names, w.before args s' = true := vx_own hat' (vx_isRefq hU'.1) (vx_isRefq hN'.1) hU'.2.word hN'.2.word
  have hown' : s'.vm.findClass own = some m.cls := by rw [hvm]; exact hown
  have hins : (Cond.instantiable cls 6).before args s' = true := h _ (by simp [Bundle.ownAtoms0])
  obtain ⟨vm₁, cX, kX, hfX, hkX, -, -, X₁, st1⟩ := Y.newCold hexec (own := own) (C := cls) (index := ik) (n := 6) hown' hk' hins hini'
    (g := F0 m pc ls rest) rfl (by rw [hb]; exact d0) (Nat.le_refl _) (Nat.le_refl _)
  generalize hT1 : (T.setVm vm₁).pushCell { cls := cX, slots := kX.instanceTypes.map defaultValue, vm := .none } = T1 at X₁ st1
  have hcat : (Value.ref T.heap.size).category = 1 := rfl
  have hcellA : T1.heap[T.heap.size]? = some (freshCell cX kX) := by rw [← hT1]; exact State.heap_pushCell_size _ _
  have d3' : decode c.code (pc + 3) = .ok (.dup, 1) := by rw [hb]; exact d3
  obtain ⟨U, hsteps, hrun, hend, hW, hsame, ce, hce, hO⟩ := X₁.ctorThrow0 hexec htr (own := own) (cls := cls) (names := names) (ic := ic) hown' hcls hnames h (fun x hx => nomatch hx) hfX hkX hcellA (by rw [hhp, hT]; exact Nat.le_refl _)
    (g := { method := m, pc := pc + 4, locals := ls, stack := .ref T.heap.size :: .ref T.heap.size :: rest, locked := none }) rfl hsize rfl rfl (rest := rest) rfl
    (by rw [hb]; exact d4) (by rw [hb]; exact d7) hout hRframes (by simp only [List.map_cons, List.sum_cons, hcat]; omega) hlocks
  obtain ⟨f1, f2⟩ := vx_frame hsame
  rw [hhp] at f1 f2
  have hWs : s.WarmedH U.vm := State.WarmedH.trans hW0 hW
  have hcl : s.vm.findClass cls = some ce.cls := by
    have h9 := hO.cls
    rw [hvm] at h9
    exact h9
  have hall : s.sameButNew ({ U with vm := s.vm } : State) locs mc ms := by
    subst hA
    obtain ⟨e1, e2⟩ := hsame
    rw [State.setFrames_setFrames] at e1
    have h2 : (T.setVm s.vm).sameButNew ({ U with vm := s.vm } : State) [] (0 + 1) (0 + 6) := ⟨e1, e2⟩
    have h3 := X.same.trans h2
    rw [List.append_nil] at h3
    exact h3.mono hc hs
  refine ⟨U, ?_, .threw T.heap.size, hrun, hend, Or.inr ⟨T.heap.size, rfl, cls, ce, locs, hx U hWs.alike f1 (fun q hq => f2 q hq (fun z hz => nomatch hz)), hce, hO.vm, hcl, hWs, hall, hf⟩⟩
  refine st1 _ ?_
  show Steps p.tables e below (T1.setTop { method := m, pc := pc + 3, locals := ls, stack := .ref T.heap.size :: rest, locked := none }) _
  jvm_step X₁.here [X₁.here.top, hexec, d3', Value.category]
  exact hsteps
/-- 'throw new E("text")': new; dup; ldc; invokespecial; athrow -/
theorem vx_throwS {cc : ByteArray} {pc : Nat} (hexec : p.tables.exec = Jvm.exec) (hb : c.code = cc) (hl : l.stackTraces = false) {own cls text : String} {names : List String} {ik is ic mc ms sa : Nat} {A : Nat → Prop}
    (hown : s.vm.findClass own = some m.cls) (hcls : Bundle.fit cls = true) (hnames : ∀ n ∈ names, Bundle.fit n = true)
    (hk : (Cond.classLink own ik cls).before args s = true) (hini : (Cond.initialized cls).before args s = true) (hstr : vk_R own is text sa s) (hat : ∀ w ∈ vx_atS own ic cls names, w.before args s = true)
    (hgood : ∀ w ∈ Cond.classLink own ik cls :: Cond.initialized cls :: vx_atS own ic cls names, vx_ot w = true)
    (hU : vx_Zq Bundle.tN "UNASSIGNED_STACK" Bundle.steD A s s.heap) (hN : vx_Zq Bundle.tN "SUPPRESSED_SENTINEL" Bundle.listD A s s.heap) (hS : va_S A s.heap H locs) (hsize : ls.size = c.maxLocals)
    (d0 : decode cc pc = .ok (.new ik, 3)) (d3 : decode cc (pc + 3) = .ok (.dup, 1)) (d4 : decode cc (pc + 4) = .ok (.ldc is, 2)) (d6 : decode cc (pc + 6) = .ok (.invokespecial ic, 3)) (d9 : decode cc (pc + 9) = .ok (.athrow, 1))
    (hout : ∀ x ∈ c.exceptionTable.toList, covers x (pc + 9) = false)
    (hRframes : names.length + 3 < R.frames) (hRlocals : (rest.map fun v => v.category).sum + (13 * (names.length + 1) + 43) ≤ R.locals) (hRcells : cells + 1 ≤ R.cells) (hRslots : slots + 6 ≤ R.slots) (hlocks : meth.locks = false)
    (hx : ∀ t : State, s.vm.Alike t.vm → H.size ≤ t.heap.size → (∀ q : Nat, q < H.size → t.heap[q]? = H[q]?) → XC cls s t)
    (hf : ∀ z ∈ locs, free z.base) (hc : cells + 1 ≤ mc) (hs : slots + 6 ≤ ms) :
    W p l e R s m args below meth c H locs cells slots (vx_MQ below Qc XC args s mc ms free) (F0 m pc ls rest) := by
  intro T hT X
  have htr : e.platform.stackTraces = false := (show e.platform.stackTraces = l.stackTraces by rw [X.admits.platform]).trans hl
  have Y := vx_rebase X (R' := { frames := R.frames, locals := R.locals, cells := 1, slots := 6 }) (Nat.le_refl _) (Nat.le_refl _) hRcells hRslots
  obtain ⟨s', hA⟩ : ∃ z, z = (T.setVm s.vm).setFrames (.invoking m args :: below) := ⟨_, rfl⟩
  rw [← hA] at Y
  have hvm : s'.vm = s.vm := by rw [hA]; rfl
  have hhp : s'.heap = H := by rw [hA]; exact hT
  have hW0 : s.WarmedH s'.vm := by rw [hvm]; exact State.WarmedH.refl s
  have hat' : ∀ w ∈ vx_atS own ic cls names, w.before args s' = true := fun w hw => vx_ot_at hW0 hvm.symm (hgood w (List.mem_cons_of_mem _ (List.mem_cons_of_mem _ hw))) (hat w hw)
  have hk' : (Cond.classLink own ik cls).before args s' = true := vx_ot_at hW0 hvm.symm (hgood _ List.mem_cons_self) hk
  have hini' : (Cond.initialized cls).before args s' = true := vx_ot_at hW0 hvm.symm (hgood _ (List.mem_cons_of_mem _ List.mem_cons_self)) hini
  have hU' : vx_Zq Bundle.tN "UNASSIGNED_STACK" Bundle.steD A s' s'.heap := by rw [hhp]; exact vx_Zq.moved hW0.alike (hU.kept hS.2.1)
  have hN' : vx_Zq Bundle.tN "SUPPRESSED_SENTINEL" Bundle.listD A s' s'.heap := by rw [hhp]; exact vx_Zq.moved hW0.alike (hN.kept hS.2.1)
  have h : ∀ w ∈ Bundle.ownAtoms own ic cls names, w.before args s' = true := vx_own hat' (vx_isRefq hU'.1) (vx_isRefq hN'.1) hU'.2.word hN'.2.word
  have hown' : s'.vm.findClass own = some m.cls := by rw [hvm]; exact hown
  have hins : (Cond.instantiable cls 6).before args s' = true := h _ (by simp [Bundle.ownAtoms])
  obtain ⟨vm₁, cX, kX, hfX, hkX, -, -, X₁, st1⟩ := Y.newCold hexec (own := own) (C := cls) (index := ik) (n := 6) hown' hk' hins hini'
    (g := F0 m pc ls rest) rfl (by rw [hb]; exact d0) (Nat.le_refl _) (Nat.le_refl _)
  generalize hT1 : (T.setVm vm₁).pushCell { cls := cX, slots := kX.instanceTypes.map defaultValue, vm := .none } = T1 at X₁ st1
  have hcat : (Value.ref T.heap.size).category = 1 := rfl
  have hcellA : T1.heap[T.heap.size]? = some (freshCell cX kX) := by rw [← hT1]; exact State.heap_pushCell_size _ _
  have d3' : decode c.code (pc + 3) = .ok (.dup, 1) := by rw [hb]; exact d3
  have d4' : decode c.code (pc + 4) = .ok (.ldc is, 2) := by rw [hb]; exact d4
  have hstr' : vk_R own is text sa s' := vk_R.warm hW0 hstr
  obtain ⟨U, hsteps, hrun, hend, hW, hsame, ce, hce, hO⟩ := X₁.ctorThrowS hexec htr (own := own) (cls := cls) (names := names) (ic := ic) hown' hcls hnames h (fun x hx => nomatch hx) hfX hkX hcellA (by rw [hhp, hT]; exact Nat.le_refl _) (msg := .ref sa) rfl
    (g := { method := m, pc := pc + 6, locals := ls, stack := .ref sa :: .ref T.heap.size :: .ref T.heap.size :: rest, locked := none }) rfl hsize rfl rfl (rest := rest) rfl
    (by rw [hb]; exact d6) (by rw [hb]; exact d9) hout hRframes (by simp only [List.map_cons, List.sum_cons, hcat]; omega) hlocks
  obtain ⟨f1, f2⟩ := vx_frame hsame
  rw [hhp] at f1 f2
  have hWs : s.WarmedH U.vm := State.WarmedH.trans hW0 hW
  have hcl : s.vm.findClass cls = some ce.cls := by
    have h9 := hO.cls
    rw [hvm] at h9
    exact h9
  have hall : s.sameButNew ({ U with vm := s.vm } : State) locs mc ms := by
    subst hA
    obtain ⟨e1, e2⟩ := hsame
    rw [State.setFrames_setFrames] at e1
    have h2 : (T.setVm s.vm).sameButNew ({ U with vm := s.vm } : State) [] (0 + 1) (0 + 6) := ⟨e1, e2⟩
    have h3 := X.same.trans h2
    rw [List.append_nil] at h3
    exact h3.mono hc hs
  refine ⟨U, ?_, .threw T.heap.size, hrun, hend, Or.inr ⟨T.heap.size, rfl, cls, ce, locs, hx U hWs.alike f1 (fun q hq => f2 q hq (fun z hz => nomatch hz)), hce, hO.vm, hcl, hWs, hall, hf⟩⟩
  refine st1 _ ?_
  show Steps p.tables e below (T1.setTop { method := m, pc := pc + 3, locals := ls, stack := .ref T.heap.size :: rest, locked := none }) _
  jvm_step X₁.here [X₁.here.top, hexec, d3', Value.category]
  exact X₁.ldcString hexec (own := own) (text := text) (index := is) (a := sa) hown' hstr'.1 hstr'.2
    (g := { method := m, pc := pc + 4, locals := ls, stack := .ref T.heap.size :: .ref T.heap.size :: rest, locked := none }) rfl d4' _ hsteps
/-- 'throw new E("text")', the text by a wide index -/
theorem vx_throwSW {cc : ByteArray} {pc : Nat} (hexec : p.tables.exec = Jvm.exec) (hb : c.code = cc) (hl : l.stackTraces = false) {own cls text : String} {names : List String} {ik is ic mc ms sa : Nat} {A : Nat → Prop}
    (hown : s.vm.findClass own = some m.cls) (hcls : Bundle.fit cls = true) (hnames : ∀ n ∈ names, Bundle.fit n = true)
    (hk : (Cond.classLink own ik cls).before args s = true) (hini : (Cond.initialized cls).before args s = true) (hstr : vk_R own is text sa s) (hat : ∀ w ∈ vx_atS own ic cls names, w.before args s = true)
    (hgood : ∀ w ∈ Cond.classLink own ik cls :: Cond.initialized cls :: vx_atS own ic cls names, vx_ot w = true)
    (hU : vx_Zq Bundle.tN "UNASSIGNED_STACK" Bundle.steD A s s.heap) (hN : vx_Zq Bundle.tN "SUPPRESSED_SENTINEL" Bundle.listD A s s.heap) (hS : va_S A s.heap H locs) (hsize : ls.size = c.maxLocals)
    (d0 : decode cc pc = .ok (.new ik, 3)) (d3 : decode cc (pc + 3) = .ok (.dup, 1)) (d4 : decode cc (pc + 4) = .ok (.ldc_w is, 3)) (d7 : decode cc (pc + 7) = .ok (.invokespecial ic, 3)) (d10 : decode cc (pc + 10) = .ok (.athrow, 1))
    (hout : ∀ x ∈ c.exceptionTable.toList, covers x (pc + 10) = false)
    (hRframes : names.length + 3 < R.frames) (hRlocals : (rest.map fun v => v.category).sum + (13 * (names.length + 1) + 43) ≤ R.locals) (hRcells : cells + 1 ≤ R.cells) (hRslots : slots + 6 ≤ R.slots) (hlocks : meth.locks = false)
    (hx : ∀ t : State, s.vm.Alike t.vm → H.size ≤ t.heap.size → (∀ q : Nat, q < H.size → t.heap[q]? = H[q]?) → XC cls s t)
    (hf : ∀ z ∈ locs, free z.base) (hc : cells + 1 ≤ mc) (hs : slots + 6 ≤ ms) :
    W p l e R s m args below meth c H locs cells slots (vx_MQ below Qc XC args s mc ms free) (F0 m pc ls rest) := by
  intro T hT X
  have htr : e.platform.stackTraces = false := (show e.platform.stackTraces = l.stackTraces by rw [X.admits.platform]).trans hl
  have Y := vx_rebase X (R' := { frames := R.frames, locals := R.locals, cells := 1, slots := 6 }) (Nat.le_refl _) (Nat.le_refl _) hRcells hRslots
  obtain ⟨s', hA⟩ : ∃ z, z = (T.setVm s.vm).setFrames (.invoking m args :: below) := ⟨_, rfl⟩
  rw [← hA] at Y
  have hvm : s'.vm = s.vm := by rw [hA]; rfl
  have hhp : s'.heap = H := by rw [hA]; exact hT
  have hW0 : s.WarmedH s'.vm := by rw [hvm]; exact State.WarmedH.refl s
  have hat' : ∀ w ∈ vx_atS own ic cls names, w.before args s' = true := fun w hw => vx_ot_at hW0 hvm.symm (hgood w (List.mem_cons_of_mem _ (List.mem_cons_of_mem _ hw))) (hat w hw)
  have hk' : (Cond.classLink own ik cls).before args s' = true := vx_ot_at hW0 hvm.symm (hgood _ List.mem_cons_self) hk
  have hini' : (Cond.initialized cls).before args s' = true := vx_ot_at hW0 hvm.symm (hgood _ (List.mem_cons_of_mem _ List.mem_cons_self)) hini
  have hU' : vx_Zq Bundle.tN "UNASSIGNED_STACK" Bundle.steD A s' s'.heap := by rw [hhp]; exact vx_Zq.moved hW0.alike (hU.kept hS.2.1)
  have hN' : vx_Zq Bundle.tN "SUPPRESSED_SENTINEL" Bundle.listD A s' s'.heap := by rw [hhp]; exact vx_Zq.moved hW0.alike (hN.kept hS.2.1)
  have h : ∀ w ∈ Bundle.ownAtoms own ic cls names, w.before args s' = true := vx_own hat' (vx_isRefq hU'.1) (vx_isRefq hN'.1) hU'.2.word hN'.2.word
  have hown' : s'.vm.findClass own = some m.cls := by rw [hvm]; exact hown
  have hins : (Cond.instantiable cls 6).before args s' = true := h _ (by simp [Bundle.ownAtoms])
  obtain ⟨vm₁, cX, kX, hfX, hkX, -, -, X₁, st1⟩ := Y.newCold hexec (own := own) (C := cls) (index := ik) (n := 6) hown' hk' hins hini'
    (g := F0 m pc ls rest) rfl (by rw [hb]; exact d0) (Nat.le_refl _) (Nat.le_refl _)
  generalize hT1 : (T.setVm vm₁).pushCell { cls := cX, slots := kX.instanceTypes.map defaultValue, vm := .none } = T1 at X₁ st1
  have hcat : (Value.ref T.heap.size).category = 1 := rfl
  have hcellA : T1.heap[T.heap.size]? = some (freshCell cX kX) := by rw [← hT1]; exact State.heap_pushCell_size _ _
  have d3' : decode c.code (pc + 3) = .ok (.dup, 1) := by rw [hb]; exact d3
  have d4' : decode c.code (pc + 4) = .ok (.ldc_w is, 3) := by rw [hb]; exact d4
  have hstr' : vk_R own is text sa s' := vk_R.warm hW0 hstr
  obtain ⟨U, hsteps, hrun, hend, hW, hsame, ce, hce, hO⟩ := X₁.ctorThrowS hexec htr (own := own) (cls := cls) (names := names) (ic := ic) hown' hcls hnames h (fun x hx => nomatch hx) hfX hkX hcellA (by rw [hhp, hT]; exact Nat.le_refl _) (msg := .ref sa) rfl
    (g := { method := m, pc := pc + 7, locals := ls, stack := .ref sa :: .ref T.heap.size :: .ref T.heap.size :: rest, locked := none }) rfl hsize rfl rfl (rest := rest) rfl
    (by rw [hb]; exact d7) (by rw [hb]; exact d10) hout hRframes (by simp only [List.map_cons, List.sum_cons, hcat]; omega) hlocks
  obtain ⟨f1, f2⟩ := vx_frame hsame
  rw [hhp] at f1 f2
  have hWs : s.WarmedH U.vm := State.WarmedH.trans hW0 hW
  have hcl : s.vm.findClass cls = some ce.cls := by
    have h9 := hO.cls
    rw [hvm] at h9
    exact h9
  have hall : s.sameButNew ({ U with vm := s.vm } : State) locs mc ms := by
    subst hA
    obtain ⟨e1, e2⟩ := hsame
    rw [State.setFrames_setFrames] at e1
    have h2 : (T.setVm s.vm).sameButNew ({ U with vm := s.vm } : State) [] (0 + 1) (0 + 6) := ⟨e1, e2⟩
    have h3 := X.same.trans h2
    rw [List.append_nil] at h3
    exact h3.mono hc hs
  refine ⟨U, ?_, .threw T.heap.size, hrun, hend, Or.inr ⟨T.heap.size, rfl, cls, ce, locs, hx U hWs.alike f1 (fun q hq => f2 q hq (fun z hz => nomatch hz)), hce, hO.vm, hcl, hWs, hall, hf⟩⟩
  refine st1 _ ?_
  show Steps p.tables e below (T1.setTop { method := m, pc := pc + 3, locals := ls, stack := .ref T.heap.size :: rest, locked := none }) _
  jvm_step X₁.here [X₁.here.top, hexec, d3', Value.category]
  exact X₁.ldcStringW hexec (own := own) (text := text) (index := is) (a := sa) hown' hstr'.1 hstr'.2
    (g := { method := m, pc := pc + 4, locals := ls, stack := .ref T.heap.size :: .ref T.heap.size :: rest, locked := none }) rfl d4' _ hsteps
end Ends
section Bodies
variable {l : Launch}
theorem vx_ofW {y : MethodName} {ws ws' : List Cond} {rm : Room} {Pc : Array Value → State → Prop} {Qc : Array Value → State → Outcome → State → Prop} {XC : String → State → State → Prop} {mc ms : Nat} {free : Addr → Prop} {cc : ByteArray} {maxL : Nat} {ret : Option FieldType}
    (hy : plainName y.cls = true) (hw : ws = Cond.code y cc maxL ret :: ws')
    (body : ∀ p e s m args below meth c s₁, BodyLoose p l y (headSpec ws rm) cc maxL ret e s m args below meth c s₁ → c.maxLocals = maxL → (∀ x ∈ c.exceptionTable.toList, False) → Pc args s →
      W p l e (headSpec ws rm).room s m args below meth c s.heap [] 0 0 (vx_MQ below Qc XC args s mc ms free) (entryFrame m args maxL)) : vx_Met l y ws rm Pc Qc XC mc ms free := by
  refine MetFree.of_bodyS (code := cc) (maxLocals := maxL) (ret := ret) hy ?_ ?_
  · intro args s m h hn
    obtain ⟨meth, c, h1, h2, h3, h4, h5, h6, -, -⟩ := Cond.code_spec hn (atoms_spec (ws := ws) h _ (by rw [hw]; exact List.mem_cons_self))
    exact ⟨meth, c, h1, h2, h3, h4, h5, h6⟩
  · intro p e s m args below meth c s₁ B hml hP _
    have hh0 : s₁.heap = s.heap := by rw [B.state]; rfl
    have ht : ∀ x ∈ c.exceptionTable.toList, False := by
      obtain ⟨meth9, c9, h1, h2, -, -, -, -, h7, -⟩ := Cond.code_spec B.named (atoms_spec (ws := ws) B.pre _ (by rw [hw]; exact List.mem_cons_self))
      cases Option.some.inj (h1.symm.trans B.method)
      cases Option.some.inj (h2.symm.trans (Stand.of_body B).code)
      intro x hx
      rw [Array.isEmpty_iff.mp h7] at hx
      cases hx
    obtain ⟨t, a1, o, b1, b2, b3⟩ := body p e s m args below meth c s₁ B hml ht hP s₁ hh0 (Stand.of_body B)
    exact ⟨t, o, a1, b1, b2, b3⟩
/-- the table of a body with handlers -/
theorem vx_table {p : Program} {x y : MethodName} {S : Spec} {cc bytes : ByteArray} {maxL maxL' : Nat} {ret ret' : Option FieldType} {e : Env} {s s₁ : State} {m : MethodId} {args : Array Value} {below : List Frame} {meth : Method} {c : Code} {hh : List (Nat × Nat × Nat × Nat)}
    (B : BodyLoose p l y S cc maxL ret e s m args below meth c s₁) (h : (Cond.codeWith y bytes maxL' ret' hh).before args s = true) : c.exceptionTable.toList = tableOf hh := by
  obtain ⟨m9, meth9, c9, hn9, h1, h2, -, -, h6, -⟩ := Cond.codeWith_spec h
  cases Option.some.inj (hn9.symm.trans B.named)
  cases Option.some.inj (h1.symm.trans B.method)
  cases Option.some.inj (h2.symm.trans (Stand.of_body B).code)
  rw [← h6, table_eq]
end Bodies
end VXA
/-! ===== END ===== -/
/-! ===== BEGIN a static call of a method with an exception table ===== -/
section VXS
variable {p : Program} {l : Launch} {e : Env} {R : Room} {s : State} {m : MethodId} {args : Array Value} {below : List Frame} {meth : Method} {c : Code} {T : State} {H : Heap} {locs : List Loc} {cells slots : Nat}
abbrev vx_CSW (R : Room) (s : State) (args : Array Value) (own : String) (index : Nat) (y : MethodName) (bytes : ByteArray) (maxL : Nat) (ret : Option FieldType) (hh : List (Nat × Nat × Nat × Nat)) (ws : List Cond) (rm : Room) (mc ms n : Nat) : Prop :=
  (rm.cells = mc ∧ rm.slots = ms ∧ rm.frames + 1 ≤ R.frames ∧ 8 + (maxL + 11) + rm.locals ≤ R.locals ∧ (∀ w ∈ ws, ∀ (a' : Array Value) (U : State), s.WarmedH U.vm → w.before a' U = true) ∧ Cond.codeWith y bytes maxL ret hh ∈ ws) ∧
  (Cond.codeWith y bytes maxL ret hh).before args s = true ∧ (Cond.initialized y.cls).before args s = true ∧ (y.cls ≠ "java/lang/invoke/MethodHandle" ∧ y.cls ≠ "java/lang/invoke/VarHandle") ∧
  (∀ sig, parseMethodDescriptor y.desc = some sig → n = sig.parameters.length) ∧ (Cond.methodLink own index y).before args s = true ∧ (Cond.static y).before args s = true
theorem vx_cwSW {own : String} {index maxL mc ms : Nat} {y : MethodName} {bytes : ByteArray} {ret : Option FieldType} {hh : List (Nat × Nat × Nat × Nat)} {Ts ws ws' : List Cond} {rm : Room} (n : Nat) (ht : ∀ w ∈ Ts, w.before args s = true) (hT : GoodIn Ts (va_wsS own index y ws)) (hw : ws = Cond.codeWith y bytes maxL ret hh :: ws') (hrc : rm.cells = mc) (hrs : rm.slots = ms)
    (hd : y.cls ≠ "java/lang/invoke/MethodHandle" ∧ y.cls ≠ "java/lang/invoke/VarHandle" ∧ (parseMethodDescriptor y.desc).map (fun d => d.parameters.length) = some n) (hR : rm.frames + 1 ≤ R.frames ∧ 8 + (maxL + 11) + rm.locals ≤ R.locals) :
    vx_CSW R s args own index y bytes maxL ret hh ws rm mc ms n := by
  have ok : ∀ w ∈ va_wsS own index y ws, w.before args s = true := fun w h => ht w (hT w h).1
  have hG : GoodIn Ts ws := fun w h => hT w (by unfold va_wsS; exact List.mem_append_right _ h)
  have hc : Cond.codeWith y bytes maxL ret hh ∈ ws := by rw [hw]; exact List.mem_cons_self
  refine ⟨⟨hrc, hrs, hR.1, hR.2, pay_in ht hG, hc⟩, ht _ (hG _ hc).1, ok _ (by simp [va_wsS]), ⟨hd.1, hd.2.1⟩, fun sig h => ?_, ok _ (by simp [va_wsS]), ok _ (by simp [va_wsS])⟩
  have h2 := hd.2.2
  rw [h] at h2
  exact (Option.some.inj h2).symm
theorem vx_callSW (X : Stand p l e R s m args below meth c T locs cells slots) (hexec : p.tables.exec = Jvm.exec) {own : String} {index : Nat} {y : MethodName} {bytes : ByteArray} {maxL : Nat} {ret : Option FieldType} {hh : List (Nat × Nat × Nat × Nat)}
    (hown : s.vm.findClass own = some m.cls) (hlink : (Cond.methodLink own index y).before args s = true) (hstat : (Cond.static y).before args s = true) (hinit : (Cond.initialized y.cls).before args s = true)
    (hcode : (Cond.codeWith y bytes maxL ret hh).before args s = true) (hy : y.cls ≠ "java/lang/invoke/MethodHandle" ∧ y.cls ≠ "java/lang/invoke/VarHandle")
    {W9 : Nat} {Pre : Pt → Array Value → Prop} {Post : Pt → Array Value → Option Value → Pt → Prop} (hK : Back l R p e below s args y 3 W9 Pre Post)
    {g : JFrame} (hg : g.method = m) (hsize : g.locals.size = c.maxLocals) {argsL rest : List Value} (hlen : ∀ sig, parseMethodDescriptor y.desc = some sig → argsL.length = sig.parameters.length)
    (hstack : g.stack = argsL.reverse ++ rest) (hW : 2 * g.monitorRoom + (rest.map fun v => v.category).sum ≤ W9) (hdg : decode c.code g.pc = .ok (.invokestatic index, 3))
    (hpre : ∀ vm₁, s.WarmedH vm₁ → Pre ⟨T.setVm vm₁, locs, cells, slots⟩ argsL.toArray) :
    ∃ (v : Option Value) (vm₁ : Vm) (B : Pt), s.WarmedH vm₁ ∧ Stand p l e R s m args below meth c B.U B.locs B.cells B.slots ∧ Post ⟨T.setVm vm₁, locs, cells, slots⟩ argsL.toArray v B ∧
      ∀ target, Steps p.tables e below (B.U.setTop { g with pc := g.pc + 3, stack := v.toList ++ rest }) target → Steps p.tables e below (T.setTop g) target := by
  obtain ⟨mk, methM, cM, hnamed, hmethM, -, -, -, -, -, -, hsigM⟩ := Cond.codeWith_spec hcode
  have hstatic : methM.isStatic = true := Cond.static_spec hnamed hmethM hstat
  obtain ⟨kP, hkP, -⟩ := className_of_methodNamed hnamed
  have hinitP : kP.init = .initialized := Cond.initialized_spec (findClass_of_methodNamed hnamed) hkP hinit
  obtain ⟨vm₁, X₁, hstep₁⟩ := X.invokestatic hexec hown hlink hnamed hmethM hstatic hkP hinitP hy (g := g) hg (argsL := argsL) (rest := rest) (hlen _ hsigM) hstack hdg
  obtain ⟨v, B, X', hpost, hsteps⟩ := hK m meth c ⟨T.setVm vm₁, locs, cells, slots⟩ { g with stack := rest } (.invokestatic index) mk argsL.toArray X₁ hg hsize hdg hW (X₁.named hnamed) (hpre vm₁ X₁.warmed)
  exact ⟨v, vm₁, B, X₁.warmed, X', hpost, fun target h => hstep₁ _ fun acts => by rw [doInvoke_state]; exact hsteps.trans h⟩
theorem vx_runSW {y : MethodName} {bytes cc : ByteArray} {maxL nL mc ms n index : Nat} {ret : Option FieldType} {hh : List (Nat × Nat × Nat × Nat)} {ws : List Cond} {rm : Room} {Pc : Array Value → State → Prop} {Qc : Array Value → State → Outcome → State → Prop} {free : Addr → Prop} {Ts : List Cond} {own : String} {As rest : List Value} {g : JFrame}
    (S : CallFix p m c cc nL s args Ts own) (hM : Met l y ws rm Pc Qc mc ms free) (cw : vx_CSW R s args own index y bytes maxL ret hh ws rm mc ms n) (hp : PreS s H Pc As)
    (hg : g.method = m) (hn : As.length = n) (hsize : g.locals.size = nL) (hstack : g.stack = As.reverse ++ rest) (hW : 2 * g.monitorRoom + (rest.map fun v => v.category).sum ≤ 8) (hdg : decode cc g.pc = .ok (.invokestatic index, 3)) (hf : cells + mc ≤ R.cells ∧ slots + ms ≤ R.slots) :
    va_Run p l e R s m args below meth c H locs cells slots mc ms g rest (Qc As.toArray) (free) := by
  obtain ⟨⟨hrc, hrs, hfr, hlo, hws, hcw⟩, hcode, hini, hy, hlen, hl, hstt⟩ := cw
  have hK : Back l R p e below s args y 3 8 (PreOf R mc ms Pc) (PostOf Qc mc ms free) := va_backW (hh := hh) (bytes := bytes) (maxL := maxL) (ret := ret) hM hp.1 hrc hrs hfr hlo hws hcw (fun a' U hW => word_at hW (Or.inl (by first | rfl | simp [Cond.onTables, Cond.keeps, Cond.steady])) hini)
  obtain ⟨hx, hb, hml, ho, -⟩ := S
  intro T hT X
  obtain ⟨v, vm₁, ⟨U', l2, c2, s2⟩, hW₁, X', ⟨g', mk, t, L, e1, e2, hq, h1, hL, h2, h3⟩, st⟩ := vx_callSW X hx (hh := hh) (bytes := bytes) (maxL := maxL) (ret := ret) ho hl hstt hini hcode hy hK hg (hsize.trans hml.symm) (argsL := As) (rest := rest) (fun sig h => hn.trans (hlen sig h)) hstack hW (by rw [hb]; exact hdg)
    (fun vm₁ hW₁ => ⟨hf.1, hf.2, hp.2 (T.setVm vm₁) hT hW₁⟩)
  dsimp only [Pt.U, Pt.locs, Pt.cells, Pt.slots] at X' e1 e2 h1 h2 h3 st
  subst h1; subst h2; subst h3
  exact ⟨v, (T.setVm vm₁).calling g' mk As.toArray, t, U', L, hT, X', hL, e1, e2, hq, st⟩
/-- not caught here, past rows that name other classes: it goes on to the caller -/
theorem vx_outP {p : Program} {l : Launch} {e : Env} {R : Room} {s : State} {m : MethodId} {args : Array Value} {below : List Frame} {meth : Method} {c : Code} {H : Heap} {locs : List Loc} {cells slots : Nat} {free : Addr → Prop} {ls : Array Slot} {rest : List Value} {Qc : Array Value → State → Outcome → State → Prop} {XC : String → State → State → Prop}
    {pc : Nat} {own E : String} {ce : Cell} {q : Addr} {mc ms : Nat} (hown : s.vm.findClass own = some m.cls) (hlocks : meth.locks = false)
    (hpass : ∀ z ∈ c.exceptionTable.toList, covers z pc = false ∨ (z.catchType ≠ 0 ∧ ∃ nm : String, (Cond.classLink own z.catchType nm).before args s = true ∧ va_Nc E nm s)) (hcell : H[q]? = some ce) (hv : ce.vm = .none) (hcl : s.vm.findClass E = some ce.cls)
    (hx : ∀ t : State, t.heap = H → s.vm.Alike t.vm → XC E s t) (hf : ∀ z ∈ locs, free z.base) (hc : cells ≤ mc) (hs : slots ≤ ms) :
    vx_W p l e R s m args below meth c H locs cells slots (vx_MQ below Qc XC args s mc ms free) (F0 m pc ls rest) q := by
  intro T hT X
  have hpl : e.platform.magicAccessors = ({} : Platform).magicAccessors := by rw [X.admits.platform]
  obtain ⟨vm', hW', X', st⟩ := X.outThrough hlocks q (g := F0 m pc ls rest) rfl rfl rfl (cell := ce) (by rw [hT]; exact hcell) (by rw [hv]; rfl)
    (by obtain ⟨k9, h9, -⟩ := Vm.findClass_spec hcl; exact ⟨k9, h9⟩) (fun z hz => by
      rcases hpass z hz with h | ⟨hz0, nm, hl1, hn1⟩
      · exact Or.inl h
      · obtain ⟨c6, hc6, hcl6⟩ := Cond.classLink_spec hown hl1 e.platform hpl
        obtain ⟨a8, b8, h1, h2, h3⟩ := hn1
        cases Option.some.inj (h1.symm.trans hcl)
        cases Option.some.inj (h2.symm.trans hc6)
        exact Or.inr ⟨hz0, _, hcl6, h3⟩)
  obtain ⟨g₀, hfr⟩ := X'.frames_eq
  have hcell9 : ((T.setVm vm').setFrames (.throwing q :: below)).heap[q]? = some ce := by
    show T.heap[q]? = some ce
    rw [hT]; exact hcell
  have hend : Ended ((T.setVm vm').setFrames (.throwing q :: below)) below (.threw q) := State.frames_setFrames _ (State.cur_lt_of_frames hfr)
  refine ⟨(T.setVm vm').setFrames (.throwing q :: below), ?_, .threw q, X'.here.running, hend, Or.inr ⟨q, rfl, E, ce, locs, hx _ hT (X'.ends _).1.alike, hcell9, hv, hcl, (X'.ends _).1, (X'.ends _).2.mono hc hs, hf⟩⟩
  rw [X.pushThrowing_eq]
  exact st
/-- a thing of a world lies in the heap -/
theorem vx_lt {D : va_G} {cl : List vw_C} {ws : va_W} {H1 : Heap} (h : va_P D cl ws H1) {k : Nat} {q : Nat × va_E} (hk : ws[k]? = some q) : q.1 < H1.size := (h k q hk).lt
end VXS
/-! ===== END ===== -/
/-! ===== BEGIN methods with a table of their own: called by a name, returning or throwing ===== -/
section VXH
/-! vx_backW, vx_callVX, vx_callSX, vx_callVW, vx_runVW, vx_runVX, vx_runSX, vx_ofWH follow the same proofs as their sisters above (Free/Laws.lean, Shelf42/LK1.lean); vx_outP calls Shelf42/NT130.lean (outThrough). -/
section
variable {l : Launch} {R : Room} {p : Program} {e : Env} {below : List Frame} {s : State} {sargs : Array Value} {y : MethodName} {len W9 : Nat}
theorem vx_backW {ws : List Cond} {rm : Room} {Pc : Array Value → State → Prop} {Qc : Array Value → State → Outcome → State → Prop} {XC : String → State → State → Prop} {mc ms : Nat} {free : Addr → Prop} {bytes : ByteArray} {maxL : Nat} {ret : Option FieldType} {hh : List (Nat × Nat × Nat × Nat)}
    (hM : vx_Met l y ws rm Pc Qc XC mc ms free) (hblind : FrameBlind Pc) (hrc : rm.cells = mc) (hrs : rm.slots = ms)
    (hframes : rm.frames + 1 ≤ R.frames) (hlocals : W9 + (maxL + 11) + rm.locals ≤ R.locals)
    (hws : ∀ w ∈ ws, ∀ a' U, s.WarmedH U.vm → w.before a' U = true) (hcode : Cond.codeWith y bytes maxL ret hh ∈ ws) (hinit : ∀ a' U, s.WarmedH U.vm → (Cond.initialized y.cls).before a' U = true) :
    vx_Back l R p e below s sargs y len W9 (PreOf R mc ms Pc) (PostOf Qc mc ms free) (vx_Post XC mc ms free) := by
  intro m meth c A g ig mk a X hg hsize hdg hW hn hp
  have h1 : (headSpec ws rm).pre.before a A.U = true := atoms_intro fun w hw => hws w hw _ _ X.warmed
  have h2 : (Cond.codeWith y bytes maxL ret hh).before a A.U = true := hws _ hcode _ _ X.warmed
  have h3 : (Cond.initialized y.cls).before a A.U = true := hinit _ _ X.warmed
  have h4 : A.cells + (headSpec ws rm).room.cells ≤ R.cells := by rw [show (headSpec ws rm).room.cells = mc from hrc]; exact hp.1
  have h5 : A.slots + (headSpec ws rm).room.slots ≤ R.slots := by rw [show (headSpec ws rm).room.slots = ms from hrs]; exact hp.2.1
  have hPc : Pc a (A.U.calling g mk a) := hblind _ _ _ _ hp.2.2
  obtain ⟨U, Ls, c0, s0⟩ := A
  dsimp only [Pt.U, Pt.locs, Pt.cells, Pt.slots] at h1 h2 h3 h4 h5 X hn hPc ⊢
  obtain ⟨m9, methY, cY, hn9, hmY, hcY, -, hlY, -⟩ := Cond.codeWith_spec h2
  cases Option.some.inj (hn9.symm.trans hn)
  obtain ⟨kY, hkY, -⟩ := className_of_methodNamed hn
  have hinitY : kY.init = .initialized := Cond.initialized_spec (findClass_of_methodNamed hn) hkY h3
  have h : At U g.method c below := by rw [hg]; exact X.here
  have hlocals9 : W9 + (maxL + 11) + (headSpec ws rm).room.locals ≤ R.locals := hlocals
  have happ : (headSpec ws rm).appliesLoose y e.platform (U.calling g mk a) = true :=
    Spec.appliesLoose_calling (g := g) h hdg hn hkY hinitY
      (X.room_calling (g := g) (R' := (headSpec ws rm).room) hsize hmY hcY hframes (by rw [hlY]; omega) h4 h5) h1
  obtain ⟨mid, hmid⟩ := h.above
  have hfr : (U.setTop g).frames = (.java g :: mid) ++ below := by rw [State.frames_setTop' g h.top, hmid]; rfl
  obtain ⟨o, s₂, hsteps, -, hend, hq⟩ := Steps.callFree hM p X.admits X.cas X.clock (acts := []) hfr happ hPc trivial
  have hq' : vx_Q Qc XC mc ms free a (U.calling g mk a) o s₂ := hq
  rw [State.frames_setTop' g h.top] at hend
  obtain ⟨g₀, hg0⟩ := Option.isSome_iff_exists.mp h.top
  obtain ⟨r, hr⟩ := State.topJava?_eq_some.mp hg0
  have hr' : (({ U with heap := s₂.heap, slotsUsed := s₂.slotsUsed } : State).setVm s₂.vm).frames = .java g₀ :: r := hr
  rcases hq' with ⟨hqc, L, hfe, hL⟩ | ⟨q, rfl, E, ce, L, hx, hce, hcv, hcl, hW₂, hsm, hL⟩
  · obtain ⟨⟨v, rfl⟩, hW₂, e2, q2, q3, q4, q5, q6⟩ := id hfe
    have e3 : s₂ = ({ (U.calling g mk a).setFrames s₂.frames with heap := s₂.heap, slotsUsed := s₂.slotsUsed } : State).setVm s₂.vm := by
      have : s₂ = ({ s₂ with vm := (U.calling g mk a).vm } : State).setVm s₂.vm := rfl
      rw [e2] at this
      exact this
    obtain ⟨c₂, i₂, len₂, hc₂, hd₂, hf₂⟩ := hend
    have hW' : U.WarmedH s₂.vm := hW₂
    have hcc : c₂ = c := by
      have h1 : s₂.code? g.method = U.code? g.method := by
        rw [State.code?_eq, State.code?_eq, hW'.alike.method?]
      exact Option.some.inj (hc₂.symm.trans (h1.trans h.code))
    subst hcc
    have hlen : len₂ = len := by rw [hdg] at hd₂; cases hd₂; rfl
    subst hlen
    have hs₂ : s₂ = (({ U with heap := s₂.heap, slotsUsed := s₂.slotsUsed } : State).setVm s₂.vm).setTop { g with pc := g.pc + len₂, stack := v.toList ++ g.stack } := by
      refine e3.trans ?_
      rw [hf₂, State.calling_eq h.top, State.setFrames_setFrames, State.setTop_of_frames _ hr', hr]
      rfl
    have hsame : U.sameButNew ({ U with heap := s₂.heap, slotsUsed := s₂.slotsUsed } : State) L mc ms := by
      refine ⟨?_, q2, q3, q4, q5, q6⟩
      obtain ⟨t, ht, -⟩ := State.frames_cons hr
      show ({ U with heap := s₂.heap, slotsUsed := s₂.slotsUsed } : State) = { U.setFrames U.frames with heap := s₂.heap, slotsUsed := s₂.slotsUsed }
      rw [State.setFrames_self ht]
    subst hg
    refine Or.inl ⟨v, ⟨(({ U with heap := s₂.heap, slotsUsed := s₂.slotsUsed } : State).setVm s₂.vm), Ls ++ L, c0 + mc, s0 + ms⟩,
      ⟨X.admits, X.cas, X.clock, X.frames, X.room, X.hears, X.method, X.code, (X.here.setHeapUsed s₂.heap s₂.slotsUsed).setVm hW'.alike, X.tail, State.WarmedH.trans X.warmed hW', X.limits, X.bytes, X.same.trans (hsame.setVm s.vm)⟩,
      ⟨g, mk, s₂, L, rfl, rfl, hqc, rfl, hL, rfl, rfl⟩, ?_⟩
    show Steps p.tables e below _ ((({ U with heap := s₂.heap, slotsUsed := s₂.slotsUsed } : State).setVm s₂.vm).setTop { g with pc := g.pc + len₂, stack := v.toList ++ g.stack })
    rw [← hs₂]
    exact hsteps
  · obtain ⟨e2, q2, q3, q4, q5, q6⟩ := id hsm
    have e3 : s₂ = ({ (U.calling g mk a).setFrames s₂.frames with heap := s₂.heap, slotsUsed := s₂.slotsUsed } : State).setVm s₂.vm := by
      have : s₂ = ({ s₂ with vm := (U.calling g mk a).vm } : State).setVm s₂.vm := rfl
      rw [e2] at this
      exact this
    have hf₂ : s₂.frames = .throwing q :: .java g :: U.frames.tail := hend
    have hW' : U.WarmedH s₂.vm := hW₂
    have hs₂ : s₂ = ((({ U with heap := s₂.heap, slotsUsed := s₂.slotsUsed } : State).setVm s₂.vm).setTop g).pushFrame (.throwing q) := by
      refine e3.trans ?_
      rw [hf₂, State.calling_eq h.top, State.setFrames_setFrames, State.pushFrame, State.frames_setTop _ hr', State.setTop_of_frames _ hr', State.setFrames_setFrames, hr]
      rfl
    have hsame : U.sameButNew ({ U with heap := s₂.heap, slotsUsed := s₂.slotsUsed } : State) L mc ms := by
      refine ⟨?_, q2, q3, q4, q5, q6⟩
      obtain ⟨t, ht, -⟩ := State.frames_cons hr
      show ({ U with heap := s₂.heap, slotsUsed := s₂.slotsUsed } : State) = { U.setFrames U.frames with heap := s₂.heap, slotsUsed := s₂.slotsUsed }
      rw [State.setFrames_self ht]
    subst hg
    refine Or.inr ⟨q, ⟨(({ U with heap := s₂.heap, slotsUsed := s₂.slotsUsed } : State).setVm s₂.vm), Ls ++ L, c0 + mc, s0 + ms⟩,
      ⟨X.admits, X.cas, X.clock, X.frames, X.room, X.hears, X.method, X.code, (X.here.setHeapUsed s₂.heap s₂.slotsUsed).setVm hW'.alike, X.tail, State.WarmedH.trans X.warmed hW', X.limits, X.bytes, X.same.trans (hsame.setVm s.vm)⟩,
      ⟨g, mk, s₂, L, E, ce, rfl, rfl, hx, hce, hcv, hcl, rfl, hL, rfl, rfl⟩, ?_⟩
    show Steps p.tables e below _ (((({ U with heap := s₂.heap, slotsUsed := s₂.slotsUsed } : State).setVm s₂.vm).setTop g).pushFrame (.throwing q))
    rw [← hs₂]
    exact hsteps
end
variable {p : Program} {l : Launch} {e : Env} {R : Room} {s : State} {m : MethodId} {args : Array Value} {below : List Frame} {meth : Method} {c : Code} {T : State} {H : Heap} {locs : List Loc} {cells slots : Nat}
theorem vx_callVX (X : Stand p l e R s m args below meth c T locs cells slots) (hexec : p.tables.exec = Jvm.exec) {own C : String} {index : Nat} {y : MethodName} {bytes : ByteArray} {maxL : Nat} {ret : Option FieldType} {hh : List (Nat × Nat × Nat × Nat)}
    (hown : s.vm.findClass own = some m.cls) (hlink : (Cond.methodLink own index y).before args s = true) (hinst : (Cond.instanceMethod y).before args s = true) (hsel : (Cond.selects C y y).before args s = true)
    (hcode : (Cond.codeWith y bytes maxL ret hh).before args s = true) (hy : y.cls ≠ "java/lang/invoke/MethodHandle" ∧ y.cls ≠ "java/lang/invoke/VarHandle")
    {W9 : Nat} {Pre : Pt → Array Value → Prop} {Post : Pt → Array Value → Option Value → Pt → Prop} {PostX : Pt → Array Value → Addr → Pt → Prop} (hK : vx_Back l R p e below s args y 3 W9 Pre Post PostX)
    {b : Addr} {cellB : Cell} (hcell : T.heap[b]? = some cellB) (hobj : cellB.vm.isStatics = false) (hcls : s.vm.findClass C = some cellB.cls)
    {g : JFrame} (hg : g.method = m) (hsize : g.locals.size = c.maxLocals) {argsL rest : List Value} (hlen : ∀ sig, parseMethodDescriptor y.desc = some sig → argsL.length = sig.parameters.length)
    (hstack : g.stack = argsL.reverse ++ .ref b :: rest) (hW : 2 * g.monitorRoom + (rest.map fun v => v.category).sum ≤ W9) (hdg : decode c.code g.pc = .ok (.invokevirtual index, 3))
    (hpre : ∀ vm₁, s.WarmedH vm₁ → Pre ⟨T.setVm vm₁, locs, cells, slots⟩ (Value.ref b :: argsL).toArray) :
    (∃ (v : Option Value) (vm₁ : Vm) (B : Pt), s.WarmedH vm₁ ∧ Stand p l e R s m args below meth c B.U B.locs B.cells B.slots ∧ Post ⟨T.setVm vm₁, locs, cells, slots⟩ (Value.ref b :: argsL).toArray v B ∧
      ∀ target, Steps p.tables e below (B.U.setTop { g with pc := g.pc + 3, stack := v.toList ++ rest }) target → Steps p.tables e below (T.setTop g) target) ∨
    (∃ (q : Addr) (vm₁ : Vm) (B : Pt), s.WarmedH vm₁ ∧ Stand p l e R s m args below meth c B.U B.locs B.cells B.slots ∧ PostX ⟨T.setVm vm₁, locs, cells, slots⟩ (Value.ref b :: argsL).toArray q B ∧
      Steps p.tables e below (T.setTop g) ((B.U.setTop { g with stack := rest }).pushFrame (.throwing q))) := by
  obtain ⟨mk, methM, hnamed, hmethM, hstM, habM⟩ := Cond.instanceMethod_spec hinst
  obtain ⟨m8, methM', cM, hn8, hmethM', -, -, -, -, -, -, hsigM⟩ := Cond.codeWith_spec hcode
  cases Option.some.inj (hn8.symm.trans hnamed)
  cases hmethM.symm.trans hmethM'
  obtain ⟨c2, r2, m2, q1, q2, q3, q4, kP, hkP, hkPi⟩ := Cond.selects_spec hsel
  cases hcls.symm.trans q1
  cases (State.methodFound?_of_named hnamed hy).symm.trans q2
  cases hnamed.symm.trans q3
  have hselP : selectMethod e.platform s.vm cellB.cls mk = .method mk := by rw [Launch.admits_selectMethod X.admits]; exact q4
  obtain ⟨vm₁, X₁, hstep₁⟩ := X.invokevirtual hexec hown hlink hnamed hmethM hstM hkP hkPi hy (a := b) (cell := cellB) hcell
    (fun z h => by rw [h] at hobj; cases hobj) hselP hmethM habM hkP hkPi (g := g) hg (argsL := argsL) (rest := rest) (hlen _ hsigM) hstack hdg
  rcases hK m meth c ⟨T.setVm vm₁, locs, cells, slots⟩ { g with stack := rest } (.invokevirtual index) mk (Value.ref b :: argsL).toArray X₁ hg hsize hdg hW (X₁.named hnamed) (hpre vm₁ X₁.warmed) with ⟨v, B, X', hpost, hsteps⟩ | ⟨q, B, X', hpost, hsteps⟩
  · exact Or.inl ⟨v, vm₁, B, X₁.warmed, X', hpost, fun target h => hstep₁ _ fun acts => by rw [doInvoke_state]; exact hsteps.trans h⟩
  · exact Or.inr ⟨q, vm₁, B, X₁.warmed, X', hpost, hstep₁ _ fun acts => by rw [doInvoke_state]; exact hsteps⟩
theorem vx_callSX (X : Stand p l e R s m args below meth c T locs cells slots) (hexec : p.tables.exec = Jvm.exec) {own : String} {index : Nat} {y : MethodName} {bytes : ByteArray} {maxL : Nat} {ret : Option FieldType} {hh : List (Nat × Nat × Nat × Nat)}
    (hown : s.vm.findClass own = some m.cls) (hlink : (Cond.methodLink own index y).before args s = true) (hstat : (Cond.static y).before args s = true) (hinit : (Cond.initialized y.cls).before args s = true)
    (hcode : (Cond.codeWith y bytes maxL ret hh).before args s = true) (hy : y.cls ≠ "java/lang/invoke/MethodHandle" ∧ y.cls ≠ "java/lang/invoke/VarHandle")
    {W9 : Nat} {Pre : Pt → Array Value → Prop} {Post : Pt → Array Value → Option Value → Pt → Prop} {PostX : Pt → Array Value → Addr → Pt → Prop} (hK : vx_Back l R p e below s args y 3 W9 Pre Post PostX)
    {g : JFrame} (hg : g.method = m) (hsize : g.locals.size = c.maxLocals) {argsL rest : List Value} (hlen : ∀ sig, parseMethodDescriptor y.desc = some sig → argsL.length = sig.parameters.length)
    (hstack : g.stack = argsL.reverse ++ rest) (hW : 2 * g.monitorRoom + (rest.map fun v => v.category).sum ≤ W9) (hdg : decode c.code g.pc = .ok (.invokestatic index, 3))
    (hpre : ∀ vm₁, s.WarmedH vm₁ → Pre ⟨T.setVm vm₁, locs, cells, slots⟩ argsL.toArray) :
    (∃ (v : Option Value) (vm₁ : Vm) (B : Pt), s.WarmedH vm₁ ∧ Stand p l e R s m args below meth c B.U B.locs B.cells B.slots ∧ Post ⟨T.setVm vm₁, locs, cells, slots⟩ argsL.toArray v B ∧
      ∀ target, Steps p.tables e below (B.U.setTop { g with pc := g.pc + 3, stack := v.toList ++ rest }) target → Steps p.tables e below (T.setTop g) target) ∨
    (∃ (q : Addr) (vm₁ : Vm) (B : Pt), s.WarmedH vm₁ ∧ Stand p l e R s m args below meth c B.U B.locs B.cells B.slots ∧ PostX ⟨T.setVm vm₁, locs, cells, slots⟩ argsL.toArray q B ∧
      Steps p.tables e below (T.setTop g) ((B.U.setTop { g with stack := rest }).pushFrame (.throwing q))) := by
  obtain ⟨mk, methM, cM, hnamed, hmethM, -, -, -, -, -, -, hsigM⟩ := Cond.codeWith_spec hcode
  have hstatic : methM.isStatic = true := Cond.static_spec hnamed hmethM hstat
  obtain ⟨kP, hkP, -⟩ := className_of_methodNamed hnamed
  have hinitP : kP.init = .initialized := Cond.initialized_spec (findClass_of_methodNamed hnamed) hkP hinit
  obtain ⟨vm₁, X₁, hstep₁⟩ := X.invokestatic hexec hown hlink hnamed hmethM hstatic hkP hinitP hy (g := g) hg (argsL := argsL) (rest := rest) (hlen _ hsigM) hstack hdg
  rcases hK m meth c ⟨T.setVm vm₁, locs, cells, slots⟩ { g with stack := rest } (.invokestatic index) mk argsL.toArray X₁ hg hsize hdg hW (X₁.named hnamed) (hpre vm₁ X₁.warmed) with ⟨v, B, X', hpost, hsteps⟩ | ⟨q, B, X', hpost, hsteps⟩
  · exact Or.inl ⟨v, vm₁, B, X₁.warmed, X', hpost, fun target h => hstep₁ _ fun acts => by rw [doInvoke_state]; exact hsteps.trans h⟩
  · exact Or.inr ⟨q, vm₁, B, X₁.warmed, X', hpost, hstep₁ _ fun acts => by rw [doInvoke_state]; exact hsteps⟩
theorem vx_callVW (X : Stand p l e R s m args below meth c T locs cells slots) (hexec : p.tables.exec = Jvm.exec) {own C : String} {index : Nat} {y : MethodName} {bytes : ByteArray} {maxL : Nat} {ret : Option FieldType} {hh : List (Nat × Nat × Nat × Nat)}
    (hown : s.vm.findClass own = some m.cls) (hlink : (Cond.methodLink own index y).before args s = true) (hinst : (Cond.instanceMethod y).before args s = true) (hsel : (Cond.selects C y y).before args s = true)
    (hcode : (Cond.codeWith y bytes maxL ret hh).before args s = true) (hy : y.cls ≠ "java/lang/invoke/MethodHandle" ∧ y.cls ≠ "java/lang/invoke/VarHandle")
    {W9 : Nat} {Pre : Pt → Array Value → Prop} {Post : Pt → Array Value → Option Value → Pt → Prop} (hK : Back l R p e below s args y 3 W9 Pre Post)
    {b : Addr} {cellB : Cell} (hcell : T.heap[b]? = some cellB) (hobj : cellB.vm.isStatics = false) (hcls : s.vm.findClass C = some cellB.cls)
    {g : JFrame} (hg : g.method = m) (hsize : g.locals.size = c.maxLocals) {argsL rest : List Value} (hlen : ∀ sig, parseMethodDescriptor y.desc = some sig → argsL.length = sig.parameters.length)
    (hstack : g.stack = argsL.reverse ++ .ref b :: rest) (hW : 2 * g.monitorRoom + (rest.map fun v => v.category).sum ≤ W9) (hdg : decode c.code g.pc = .ok (.invokevirtual index, 3))
    (hpre : ∀ vm₁, s.WarmedH vm₁ → Pre ⟨T.setVm vm₁, locs, cells, slots⟩ (Value.ref b :: argsL).toArray) :
    ∃ (v : Option Value) (vm₁ : Vm) (B : Pt), s.WarmedH vm₁ ∧ Stand p l e R s m args below meth c B.U B.locs B.cells B.slots ∧ Post ⟨T.setVm vm₁, locs, cells, slots⟩ (Value.ref b :: argsL).toArray v B ∧
      ∀ target, Steps p.tables e below (B.U.setTop { g with pc := g.pc + 3, stack := v.toList ++ rest }) target → Steps p.tables e below (T.setTop g) target := by
  obtain ⟨mk, methM, hnamed, hmethM, hstM, habM⟩ := Cond.instanceMethod_spec hinst
  obtain ⟨m8, methM', cM, hn8, hmethM', -, -, -, -, -, -, hsigM⟩ := Cond.codeWith_spec hcode
  cases Option.some.inj (hn8.symm.trans hnamed)
  cases hmethM.symm.trans hmethM'
  obtain ⟨c2, r2, m2, q1, q2, q3, q4, kP, hkP, hkPi⟩ := Cond.selects_spec hsel
  cases hcls.symm.trans q1
  cases (State.methodFound?_of_named hnamed hy).symm.trans q2
  cases hnamed.symm.trans q3
  have hselP : selectMethod e.platform s.vm cellB.cls mk = .method mk := by rw [Launch.admits_selectMethod X.admits]; exact q4
  obtain ⟨vm₁, X₁, hstep₁⟩ := X.invokevirtual hexec hown hlink hnamed hmethM hstM hkP hkPi hy (a := b) (cell := cellB) hcell
    (fun z h => by rw [h] at hobj; cases hobj) hselP hmethM habM hkP hkPi (g := g) hg (argsL := argsL) (rest := rest) (hlen _ hsigM) hstack hdg
  obtain ⟨v, B, X', hpost, hsteps⟩ := hK m meth c ⟨T.setVm vm₁, locs, cells, slots⟩ { g with stack := rest } (.invokevirtual index) mk (Value.ref b :: argsL).toArray X₁ hg hsize hdg hW (X₁.named hnamed) (hpre vm₁ X₁.warmed)
  exact ⟨v, vm₁, B, X₁.warmed, X', hpost, fun target h => hstep₁ _ fun acts => by rw [doInvoke_state]; exact hsteps.trans h⟩
abbrev vx_CVW (R : Room) (s : State) (args : Array Value) (own C : String) (index : Nat) (y : MethodName) (bytes : ByteArray) (maxL : Nat) (ret : Option FieldType) (hh : List (Nat × Nat × Nat × Nat)) (ws : List Cond) (rm : Room) (mc ms n : Nat) : Prop :=
  (rm.cells = mc ∧ rm.slots = ms ∧ rm.frames + 1 ≤ R.frames ∧ 8 + (maxL + 11) + rm.locals ≤ R.locals ∧ (∀ w ∈ ws, ∀ (a' : Array Value) (U : State), s.WarmedH U.vm → w.before a' U = true) ∧ Cond.codeWith y bytes maxL ret hh ∈ ws) ∧
  (Cond.codeWith y bytes maxL ret hh).before args s = true ∧ (Cond.initialized y.cls).before args s = true ∧ (y.cls ≠ "java/lang/invoke/MethodHandle" ∧ y.cls ≠ "java/lang/invoke/VarHandle") ∧
  (∀ sig, parseMethodDescriptor y.desc = some sig → n = sig.parameters.length) ∧ (Cond.methodLink own index y).before args s = true ∧ (Cond.instanceMethod y).before args s = true ∧ (Cond.selects C y y).before args s = true
theorem vx_cwVW {own C : String} {index maxL mc ms : Nat} {y : MethodName} {bytes : ByteArray} {ret : Option FieldType} {hh : List (Nat × Nat × Nat × Nat)} {Ts ws ws' : List Cond} {rm : Room} (n : Nat) (ht : ∀ w ∈ Ts, w.before args s = true) (hT : GoodIn Ts (wsV own index C y ws)) (hw : ws = Cond.codeWith y bytes maxL ret hh :: ws') (hrc : rm.cells = mc) (hrs : rm.slots = ms)
    (hd : y.cls = C ∧ y.cls ≠ "java/lang/invoke/MethodHandle" ∧ y.cls ≠ "java/lang/invoke/VarHandle" ∧ (parseMethodDescriptor y.desc).map (fun d => d.parameters.length) = some n) (hR : rm.frames + 1 ≤ R.frames ∧ 8 + (maxL + 11) + rm.locals ≤ R.locals) :
    vx_CVW R s args own C index y bytes maxL ret hh ws rm mc ms n := by
  obtain ⟨hC, hd⟩ := hd
  subst hC
  have ok : ∀ w ∈ wsV own index y.cls y ws, w.before args s = true := fun w h => ht w (hT w h).1
  have hG : GoodIn Ts ws := fun w h => hT w (by unfold wsV; exact List.mem_append_right _ h)
  have hc : Cond.codeWith y bytes maxL ret hh ∈ ws := by rw [hw]; exact List.mem_cons_self
  refine ⟨⟨hrc, hrs, hR.1, hR.2, pay_in ht hG, hc⟩, ht _ (hG _ hc).1, ok _ (by simp [wsV]), ⟨hd.1, hd.2.1⟩, fun sig h => ?_, ok _ (by simp [wsV]), ok _ (by simp [wsV]), ok _ (by simp [wsV])⟩
  have h2 := hd.2.2
  rw [h] at h2
  exact (Option.some.inj h2).symm
theorem vx_runVW {y : MethodName} {bytes cc : ByteArray} {maxL nL mc ms n index : Nat} {ret : Option FieldType} {hh : List (Nat × Nat × Nat × Nat)} {ws : List Cond} {rm : Room} {Pc : Array Value → State → Prop} {Qc : Array Value → State → Outcome → State → Prop} {free : Addr → Prop} {Ts : List Cond} {own C : String} {b : Addr} {As rest : List Value} {g : JFrame}
    (S : CallFix p m c cc nL s args Ts own) (hM : Met l y ws rm Pc Qc mc ms free) (cw : vx_CVW R s args own C index y bytes maxL ret hh ws rm mc ms n) (hp : PreV s H C b Pc As)
    (hg : g.method = m) (hn : As.length = n) (hsize : g.locals.size = nL) (hstack : g.stack = As.reverse ++ .ref b :: rest) (hW : 2 * g.monitorRoom + (rest.map fun v => v.category).sum ≤ 8) (hdg : decode cc g.pc = .ok (.invokevirtual index, 3)) (hf : cells + mc ≤ R.cells ∧ slots + ms ≤ R.slots) :
    va_Run p l e R s m args below meth c H locs cells slots mc ms g rest (Qc (Value.ref b :: As).toArray) free := by
  obtain ⟨⟨hrc, hrs, hfr, hlo, hws, hcw⟩, hcode, hini, hy, hlen, hl, hin, hse⟩ := cw
  have hK : Back l R p e below s args y 3 8 (PreOf R mc ms Pc) (PostOf Qc mc ms free) := va_backW (hh := hh) (bytes := bytes) (maxL := maxL) (ret := ret) hM hp.1 hrc hrs hfr hlo hws hcw (fun a' U hW => word_at hW (Or.inl (by first | rfl | simp [Cond.onTables, Cond.keeps, Cond.steady])) hini)
  obtain ⟨hx, hb, hml, ho, -⟩ := S
  obtain ⟨-, ⟨cellB, hcB, hoB, hclB⟩, hPc⟩ := hp
  intro T hT X
  obtain ⟨v, vm₁, ⟨U', l2, c2, s2⟩, hW₁, X', ⟨g', mk, t, L, e1, e2, hq, h1, hL, h2, h3⟩, st⟩ := vx_callVW X hx (C := C) (hh := hh) (bytes := bytes) (maxL := maxL) (ret := ret) ho hl hin hse hcode hy hK (by rw [hT]; exact hcB) hoB hclB hg (hsize.trans hml.symm) (argsL := As) (rest := rest) (fun sig h => hn.trans (hlen sig h)) hstack hW (by rw [hb]; exact hdg)
    (fun vm₁ hW₁ => ⟨hf.1, hf.2, hPc (T.setVm vm₁) hT hW₁⟩)
  dsimp only [Pt.U, Pt.locs, Pt.cells, Pt.slots] at X' e1 e2 h1 h2 h3 st
  subst h1; subst h2; subst h3
  exact ⟨v, (T.setVm vm₁).calling g' mk (Value.ref b :: As).toArray, t, U', L, hT, X', hL, e1, e2, hq, st⟩
section
variable {y : MethodName} {bytes cc : ByteArray} {maxL nL mc ms n index : Nat} {ret : Option FieldType} {ws : List Cond} {rm : Room} {Pc : Array Value → State → Prop} {Qc : Array Value → State → Outcome → State → Prop} {XC : String → State → State → Prop} {free : Addr → Prop} {Ts : List Cond} {own C : String} {b : Addr} {As rest : List Value} {g : JFrame}
theorem vx_runVX {hh : List (Nat × Nat × Nat × Nat)} (S : CallFix p m c cc nL s args Ts own) (hM : vx_Met l y ws rm Pc Qc XC mc ms free) (cw : vx_CVW R s args own C index y bytes maxL ret hh ws rm mc ms n) (hp : PreV s H C b Pc As)
    (hg : g.method = m) (hn : As.length = n) (hsize : g.locals.size = nL) (hstack : g.stack = As.reverse ++ .ref b :: rest) (hW : 2 * g.monitorRoom + (rest.map fun v => v.category).sum ≤ 8) (hdg : decode cc g.pc = .ok (.invokevirtual index, 3)) (hf : cells + mc ≤ R.cells ∧ slots + ms ≤ R.slots) :
    vx_Run p l e R s m args below meth c H locs cells slots mc ms g rest (Qc (Value.ref b :: As).toArray) XC free := by
  obtain ⟨⟨hrc, hrs, hfr, hlo, hws, hcw⟩, hcode, hini, hy, hlen, hl, hin, hse⟩ := cw
  have hK : vx_Back l R p e below s args y 3 8 (PreOf R mc ms Pc) (PostOf Qc mc ms free) (vx_Post XC mc ms free) := vx_backW (hh := hh) (bytes := bytes) (maxL := maxL) (ret := ret) hM hp.1 hrc hrs hfr hlo hws hcw (fun a' U hW => word_at hW (Or.inl (by first | rfl | simp [Cond.onTables, Cond.keeps, Cond.steady])) hini)
  obtain ⟨hx, hb, hml, ho, -⟩ := S
  obtain ⟨-, ⟨cellB, hcB, hoB, hclB⟩, hPc⟩ := hp
  intro T hT X
  rcases vx_callVX X hx (C := C) (hh := hh) (bytes := bytes) (maxL := maxL) (ret := ret) ho hl hin hse hcode hy hK (by rw [hT]; exact hcB) hoB hclB hg (hsize.trans hml.symm) (argsL := As) (rest := rest) (fun sig h => hn.trans (hlen sig h)) hstack hW (by rw [hb]; exact hdg)
    (fun vm₁ hW₁ => ⟨hf.1, hf.2, hPc (T.setVm vm₁) hT hW₁⟩) with ⟨v, vm₁, ⟨U', l2, c2, s2⟩, hW₁, X', ⟨g', mk, t, L, e1, e2, hq, h1, hL, h2, h3⟩, st⟩ | ⟨q, vm₁, ⟨U', l2, c2, s2⟩, hW₁, X', ⟨g', mk, t, L, E, ce, e1, e2, hq, hce, hcv, hcl, h1, hL, h2, h3⟩, st⟩
  · dsimp only [Pt.U, Pt.locs, Pt.cells, Pt.slots] at X' e1 e2 h1 h2 h3 st
    subst h1; subst h2; subst h3
    exact Or.inl ⟨v, (T.setVm vm₁).calling g' mk (Value.ref b :: As).toArray, t, U', L, hT, X', hL, e1, e2, hq, st⟩
  · dsimp only [Pt.U, Pt.locs, Pt.cells, Pt.slots] at X' e1 e2 h1 h2 h3 st hcl
    subst h1; subst h2; subst h3
    exact Or.inr ⟨q, (T.setVm vm₁).calling g' mk (Value.ref b :: As).toArray, t, U', L, E, ce, hT, X', hL, e1, e2, hq, hce, hcv, vx_cls hW₁ hcl, st⟩
theorem vx_runSX {hh : List (Nat × Nat × Nat × Nat)} (S : CallFix p m c cc nL s args Ts own) (hM : vx_Met l y ws rm Pc Qc XC mc ms free) (cw : vx_CSW R s args own index y bytes maxL ret hh ws rm mc ms n) (hp : PreS s H Pc As)
    (hg : g.method = m) (hn : As.length = n) (hsize : g.locals.size = nL) (hstack : g.stack = As.reverse ++ rest) (hW : 2 * g.monitorRoom + (rest.map fun v => v.category).sum ≤ 8) (hdg : decode cc g.pc = .ok (.invokestatic index, 3)) (hf : cells + mc ≤ R.cells ∧ slots + ms ≤ R.slots) :
    vx_Run p l e R s m args below meth c H locs cells slots mc ms g rest (Qc As.toArray) XC free := by
  obtain ⟨⟨hrc, hrs, hfr, hlo, hws, hcw⟩, hcode, hini, hy, hlen, hl, hstt⟩ := cw
  have hK : vx_Back l R p e below s args y 3 8 (PreOf R mc ms Pc) (PostOf Qc mc ms free) (vx_Post XC mc ms free) := vx_backW (hh := hh) (bytes := bytes) (maxL := maxL) (ret := ret) hM hp.1 hrc hrs hfr hlo hws hcw (fun a' U hW => word_at hW (Or.inl (by first | rfl | simp [Cond.onTables, Cond.keeps, Cond.steady])) hini)
  obtain ⟨hx, hb, hml, ho, -⟩ := S
  intro T hT X
  rcases vx_callSX X hx (hh := hh) (bytes := bytes) (maxL := maxL) (ret := ret) ho hl hstt hini hcode hy hK hg (hsize.trans hml.symm) (argsL := As) (rest := rest) (fun sig h => hn.trans (hlen sig h)) hstack hW (by rw [hb]; exact hdg)
    (fun vm₁ hW₁ => ⟨hf.1, hf.2, hp.2 (T.setVm vm₁) hT hW₁⟩) with ⟨v, vm₁, ⟨U', l2, c2, s2⟩, hW₁, X', ⟨g', mk, t, L, e1, e2, hq, h1, hL, h2, h3⟩, st⟩ | ⟨q, vm₁, ⟨U', l2, c2, s2⟩, hW₁, X', ⟨g', mk, t, L, E, ce, e1, e2, hq, hce, hcv, hcl, h1, hL, h2, h3⟩, st⟩
  · dsimp only [Pt.U, Pt.locs, Pt.cells, Pt.slots] at X' e1 e2 h1 h2 h3 st
    subst h1; subst h2; subst h3
    exact Or.inl ⟨v, (T.setVm vm₁).calling g' mk As.toArray, t, U', L, hT, X', hL, e1, e2, hq, st⟩
  · dsimp only [Pt.U, Pt.locs, Pt.cells, Pt.slots] at X' e1 e2 h1 h2 h3 st hcl
    subst h1; subst h2; subst h3
    exact Or.inr ⟨q, (T.setVm vm₁).calling g' mk As.toArray, t, U', L, E, ce, hT, X', hL, e1, e2, hq, hce, hcv, vx_cls hW₁ hcl, st⟩
end
end VXH
theorem vx_ofWH {l : Launch} {y : MethodName} {ws ws' : List Cond} {rm : Room} {Pc : Array Value → State → Prop} {Qc : Array Value → State → Outcome → State → Prop} {XC : String → State → State → Prop} {mc ms : Nat} {free : Addr → Prop} {cc : ByteArray} {maxL : Nat} {ret : Option FieldType} {hh : List (Nat × Nat × Nat × Nat)}
    (hy : plainName y.cls = true) (hw : ws = Cond.codeWith y cc maxL ret hh :: ws')
    (body : ∀ p e s m args below meth c s₁, BodyLoose p l y (headSpec ws rm) cc maxL ret e s m args below meth c s₁ → c.maxLocals = maxL → Pc args s →
      W p l e (headSpec ws rm).room s m args below meth c s.heap [] 0 0 (vx_MQ below Qc XC args s mc ms free) (entryFrame m args maxL)) : vx_Met l y ws rm Pc Qc XC mc ms free := by
  refine MetFree.of_bodyS (code := cc) (maxLocals := maxL) (ret := ret) hy ?_ ?_
  · intro args s m h hn
    obtain ⟨m9, meth, c, hn9, h1, h2, h3, h4, -, h5, h6, -⟩ := Cond.codeWith_spec (atoms_spec (ws := ws) h _ (by rw [hw]; exact List.mem_cons_self))
    cases hn.symm.trans hn9
    exact ⟨meth, c, h1, h2, h3, h4, h5, h6⟩
  · intro p e s m args below meth c s₁ B hml hP _
    have hh0 : s₁.heap = s.heap := by rw [B.state]; rfl
    obtain ⟨t, a1, o, b1, b2, b3⟩ := body p e s m args below meth c s₁ B hml hP s₁ hh0 (Stand.of_body B)
    exact ⟨t, o, a1, b1, b2, b3⟩
/-! ===== END ===== -/
end
section
-- names of classes, fields, methods as TURN printed them; the words; what a method is here
def RX0 : String := "Shardmoor$Chart"
def TX0 : u_T := fun k => match k with
  | 0 => ("Shardmoor$Chart", "firsts", "[I", true)
  | 1 => ("Shardmoor$Chart", "owners", "[I", true)
  | 2 => ("Shardmoor$Chart", "orphans", "[I", true)
  | 3 => ("Shardmoor$Chart", "isCopied", "[Z", true)
  | 4 => ("Shardmoor$Chart", "routerVersions", "[I", true)
  | 5 => ("Shardmoor$Chart", "routerStales", "[I", true)
  | 6 => ("Shardmoor$Chart", "shardsBefore", "[I", true)
  | 7 => ("Shardmoor$Chart", "count", "I", false)
  | 8 => ("Shardmoor$Chart", "version", "I", false)
  | 9 => ("Shardmoor$Chart", "keyField", "I", false)
  | 10 => ("Shardmoor$Chart", "isHashed", "Z", false)
  | 11 => ("Shardmoor$Chart", "moving", "I", false)
  | _ => ("Shardmoor$Chart", "target", "I", false)
def tyX0 : Nat → FieldType := fun k => match k with
  | 0 => .array .int
  | 1 => .array .int
  | 2 => .array .int
  | 3 => .array .boolean
  | 4 => .array .int
  | 5 => .array .int
  | 6 => .array .int
  | 7 => .int
  | 8 => .int
  | 9 => .int
  | 10 => .boolean
  | 11 => .int
  | _ => .int
abbrev wsX00 : List Cond := u_ws RX0 TX0 13
theorem nmX0 : ∀ a, a < 13 → ∀ b, b < 13 → a ≠ b → (TX0 a).2.1 ≠ (TX0 b).2.1 := by decide +kernel
theorem tyX0_ok : ∀ k, k < 13 → parseFieldDescriptor (TX0 k).2.2.1 = some (tyX0 k) := by decide +kernel
abbrev cX0_init : ByteArray := prog_2_method_1_code
def yX0_init : MethodName := ⟨RX0, "<init>", "()V"⟩
abbrev cX0_beginChunks : ByteArray := prog_2_method_2_code
def yX0_beginChunks : MethodName := ⟨RX0, "beginChunks", "()V"⟩
abbrev cX0_size : ByteArray := prog_2_method_3_code
def yX0_size : MethodName := ⟨RX0, "size", "()I"⟩
abbrev cX0_has : ByteArray := prog_2_method_4_code
def yX0_has : MethodName := ⟨RX0, "has", "(I)Z"⟩
abbrev cX0_firstOf : ByteArray := prog_2_method_5_code
def yX0_firstOf : MethodName := ⟨RX0, "firstOf", "(I)I"⟩
abbrev cX0_endOf : ByteArray := prog_2_method_6_code
def yX0_endOf : MethodName := ⟨RX0, "endOf", "(I)I"⟩
abbrev cX0_ownerOf : ByteArray := prog_2_method_7_code
def yX0_ownerOf : MethodName := ⟨RX0, "ownerOf", "(I)I"⟩
abbrev cX0_keyOf : ByteArray := prog_2_method_8_code
def yX0_keyOf : MethodName := ⟨RX0, "keyOf", "(LShardmoor$Value;)I"⟩
abbrev cX0_chunkOf : ByteArray := prog_2_method_9_code
def yX0_chunkOf : MethodName := ⟨RX0, "chunkOf", "(LShardmoor$Value;)I"⟩
abbrev cX0_shardOf : ByteArray := prog_2_method_10_code
def yX0_shardOf : MethodName := ⟨RX0, "shardOf", "(LShardmoor$Value;)I"⟩
abbrev cX0_countIn : ByteArray := prog_2_method_11_code
def yX0_countIn : MethodName := ⟨RX0, "countIn", "(LShardmoor$Store;I)I"⟩
abbrev cX0_countAt : ByteArray := prog_2_method_12_code
def yX0_countAt : MethodName := ⟨RX0, "countAt", "(LShardmoor$Store;I)I"⟩
abbrev cX0_cut : ByteArray := prog_2_method_13_code
def yX0_cut : MethodName := ⟨RX0, "cut", "(II)V"⟩
abbrev cX0_hasMove : ByteArray := prog_2_method_14_code
def yX0_hasMove : MethodName := ⟨RX0, "hasMove", "()Z"⟩
abbrev cX0_isMoving : ByteArray := prog_2_method_15_code
def yX0_isMoving : MethodName := ⟨RX0, "isMoving", "(I)Z"⟩
abbrev cX0_beginMove : ByteArray := prog_2_method_16_code
def yX0_beginMove : MethodName := ⟨RX0, "beginMove", "(II)V"⟩
abbrev cX0_isLeft : ByteArray := prog_2_method_17_code
def yX0_isLeft : MethodName := ⟨RX0, "isLeft", "(LShardmoor$Store;I)Z"⟩
abbrev cX0_countLeft : ByteArray := prog_2_method_18_code
def yX0_countLeft : MethodName := ⟨RX0, "countLeft", "(LShardmoor$Store;)I"⟩
abbrev cX0_copySome : ByteArray := prog_2_method_19_code
def yX0_copySome : MethodName := ⟨RX0, "copySome", "(LShardmoor$Store;I)V"⟩
abbrev cX0_copyAtOnce : ByteArray := prog_2_method_20_code
def yX0_copyAtOnce : MethodName := ⟨RX0, "copyAtOnce", "(ILShardmoor$Value;)V"⟩
abbrev cX0_dropCopy : ByteArray := prog_2_method_21_code
def yX0_dropCopy : MethodName := ⟨RX0, "dropCopy", "(I)V"⟩
abbrev cX0_finishMove : ByteArray := prog_2_method_22_code
def yX0_finishMove : MethodName := ⟨RX0, "finishMove", "(LShardmoor$Store;)I"⟩
abbrev cX0_endMove : ByteArray := prog_2_method_23_code
def yX0_endMove : MethodName := ⟨RX0, "endMove", "()I"⟩
abbrev cX0_copiesAt : ByteArray := prog_2_method_24_code
def yX0_copiesAt : MethodName := ⟨RX0, "copiesAt", "(I)I"⟩
abbrev cX0_orphansOf : ByteArray := prog_2_method_25_code
def yX0_orphansOf : MethodName := ⟨RX0, "orphansOf", "(I)I"⟩
abbrev cX0_takeOrphans : ByteArray := prog_2_method_26_code
def yX0_takeOrphans : MethodName := ⟨RX0, "takeOrphans", "(I)I"⟩
abbrev cX0_shardAnew : ByteArray := prog_2_method_27_code
def yX0_shardAnew : MethodName := ⟨RX0, "shardAnew", "(LShardmoor$Store;IZ)I"⟩
abbrev cX0_useRouter : ByteArray := prog_2_method_28_code
def yX0_useRouter : MethodName := ⟨RX0, "useRouter", "(I)V"⟩
abbrev cX0_routerVersion : ByteArray := prog_2_method_29_code
def yX0_routerVersion : MethodName := ⟨RX0, "routerVersion", "(I)I"⟩
abbrev cX0_routerStale : ByteArray := prog_2_method_30_code
def yX0_routerStale : MethodName := ⟨RX0, "routerStale", "(I)I"⟩
def RX1 : String := "Shardmoor$Editor"
def TX1 : u_T := fun k => match k with
  | 0 => ("Shardmoor$Editor", "draft", "LShardmoor$Value;", true)
  | _ => ("Shardmoor$Editor", "made", "LShardmoor$Value;", true)
def tyX1 : Nat → FieldType := fun k => match k with
  | 0 => .object "Shardmoor$Value"
  | _ => .object "Shardmoor$Value"
abbrev wsX10 : List Cond := u_ws RX1 TX1 2
theorem nmX1 : ∀ a, a < 2 → ∀ b, b < 2 → a ≠ b → (TX1 a).2.1 ≠ (TX1 b).2.1 := by decide +kernel
theorem tyX1_ok : ∀ k, k < 2 → parseFieldDescriptor (TX1 k).2.2.1 = some (tyX1 k) := by decide +kernel
abbrev cX1_init : ByteArray := prog_3_method_1_code
def yX1_init : MethodName := ⟨RX1, "<init>", "()V"⟩
abbrev cX1_edited : ByteArray := prog_3_method_2_code
def yX1_edited : MethodName := ⟨RX1, "edited", "()LShardmoor$Value;"⟩
abbrev cX1_canEdit : ByteArray := prog_3_method_3_code
def yX1_canEdit : MethodName := ⟨RX1, "canEdit", "(LShardmoor$Value;IILShardmoor$Value;)Z"⟩
abbrev cX1_editField : ByteArray := prog_3_method_4_code
def yX1_editField : MethodName := ⟨RX1, "editField", "(IIILShardmoor$Value;)Z"⟩
abbrev cX1_addTo : ByteArray := prog_3_method_5_code
def yX1_addTo : MethodName := ⟨RX1, "addTo", "(III)Z"⟩
abbrev cX1_addAt : ByteArray := prog_3_method_6_code
def yX1_addAt : MethodName := ⟨RX1, "addAt", "(II)Z"⟩
abbrev cX1_pushTo : ByteArray := prog_3_method_7_code
def yX1_pushTo : MethodName := ⟨RX1, "pushTo", "(IILShardmoor$Value;)Z"⟩
abbrev cX1_pullFrom : ByteArray := prog_3_method_8_code
def yX1_pullFrom : MethodName := ⟨RX1, "pullFrom", "(ILShardmoor$Value;)Z"⟩
abbrev cX1_addToEach : ByteArray := prog_3_method_9_code
def yX1_addToEach : MethodName := ⟨RX1, "addToEach", "(II)Z"⟩
def RX2 : String := "Shardmoor$Filter"
def TX2 : u_T := fun k => match k with
  | 0 => ("Shardmoor$Filter", "value", "LShardmoor$Value;", true)
  | 1 => ("Shardmoor$Filter", "path", "I", false)
  | _ => ("Shardmoor$Filter", "relation", "I", false)
def tyX2 : Nat → FieldType := fun k => match k with
  | 0 => .object "Shardmoor$Value"
  | 1 => .int
  | _ => .int
abbrev wsX20 : List Cond := u_ws RX2 TX2 3
theorem nmX2 : ∀ a, a < 3 → ∀ b, b < 3 → a ≠ b → (TX2 a).2.1 ≠ (TX2 b).2.1 := by decide +kernel
theorem tyX2_ok : ∀ k, k < 3 → parseFieldDescriptor (TX2 k).2.2.1 = some (tyX2 k) := by decide +kernel
abbrev cX2_init : ByteArray := prog_4_method_1_code
def yX2_init : MethodName := ⟨RX2, "<init>", "()V"⟩
abbrev cX2_become : ByteArray := prog_4_method_2_code
def yX2_become : MethodName := ⟨RX2, "become", "(IILShardmoor$Value;)V"⟩
abbrev cX2_shape : ByteArray := prog_4_method_3_code
def yX2_shape : MethodName := ⟨RX2, "shape", "()I"⟩
abbrev cX2_isFor : ByteArray := prog_4_method_4_code
def yX2_isFor : MethodName := ⟨RX2, "isFor", "(I)Z"⟩
abbrev cX2_fitsSome : ByteArray := prog_4_method_5_code
def yX2_fitsSome : MethodName := ⟨RX2, "fitsSome", "(LShardmoor$Value;LShardmoor$Places;)Z"⟩
abbrev cX2_fitsNothing : ByteArray := prog_4_method_6_code
def yX2_fitsNothing : MethodName := ⟨RX2, "fitsNothing", "()Z"⟩
abbrev cX2_fits : ByteArray := prog_4_method_7_code
def yX2_fits : MethodName := ⟨RX2, "fits", "(LShardmoor$Value;I)Z"⟩
abbrev cX2_isBeyond : ByteArray := prog_4_method_8_code
def yX2_isBeyond : MethodName := ⟨RX2, "isBeyond", "(I)Z"⟩
def RX3 : String := "Shardmoor$Groups"
def TX3 : u_T := fun k => match k with
  | 0 => ("Shardmoor$Groups", "prints", "[J", true)
  | 1 => ("Shardmoor$Groups", "times", "[I", true)
  | 2 => ("Shardmoor$Groups", "sums", "[J", true)
  | 3 => ("Shardmoor$Groups", "owners", "[I", true)
  | 4 => ("Shardmoor$Groups", "ownPlaces", "[I", true)
  | 5 => ("Shardmoor$Groups", "places", "LShardmoor$Places;", true)
  | _ => ("Shardmoor$Groups", "count", "I", false)
def tyX3 : Nat → FieldType := fun k => match k with
  | 0 => .array .long
  | 1 => .array .int
  | 2 => .array .long
  | 3 => .array .int
  | 4 => .array .int
  | 5 => .object "Shardmoor$Places"
  | _ => .int
abbrev wsX30 : List Cond := u_ws RX3 TX3 7
theorem nmX3 : ∀ a, a < 7 → ∀ b, b < 7 → a ≠ b → (TX3 a).2.1 ≠ (TX3 b).2.1 := by decide +kernel
theorem tyX3_ok : ∀ k, k < 7 → parseFieldDescriptor (TX3 k).2.2.1 = some (tyX3 k) := by decide +kernel
abbrev cX3_init : ByteArray := prog_5_method_1_code
def yX3_init : MethodName := ⟨RX3, "<init>", "()V"⟩
abbrev cX3_size : ByteArray := prog_5_method_2_code
def yX3_size : MethodName := ⟨RX3, "size", "()I"⟩
abbrev cX3_tell : ByteArray := prog_5_method_3_code
def yX3_tell : MethodName := ⟨RX3, "tell", "(II)J"⟩
abbrev cX3_build : ByteArray := prog_5_method_4_code
def yX3_build : MethodName := ⟨RX3, "build", "(LShardmoor$Store;LShardmoor$Query;II)I"⟩
abbrev cX3_sumOf : ByteArray := prog_5_method_5_code
def yX3_sumOf : MethodName := ⟨RX3, "sumOf", "(LShardmoor$Value;I)J"⟩
abbrev cX3_takeIn : ByteArray := prog_5_method_6_code
def yX3_takeIn : MethodName := ⟨RX3, "takeIn", "(LShardmoor$Store;IIJ)V"⟩
abbrev cX3_groupFor : ByteArray := prog_5_method_7_code
def yX3_groupFor : MethodName := ⟨RX3, "groupFor", "(LShardmoor$Store;II)I"⟩
abbrev cX3_orderTo : ByteArray := prog_5_method_8_code
def yX3_orderTo : MethodName := ⟨RX3, "orderTo", "(LShardmoor$Store;ILShardmoor$Value;I)I"⟩
abbrev cX3_makeGroup : ByteArray := prog_5_method_9_code
def yX3_makeGroup : MethodName := ⟨RX3, "makeGroup", "(III)I"⟩
def RX4 : String := "Shardmoor$Indexes"
def TX4 : u_T := fun k => match k with
  | 0 => ("Shardmoor$Indexes", "paths", "[I", true)
  | 1 => ("Shardmoor$Indexes", "isSparse", "[Z", true)
  | 2 => ("Shardmoor$Indexes", "planShapes", "[I", true)
  | 3 => ("Shardmoor$Indexes", "planIndexes", "[I", true)
  | 4 => ("Shardmoor$Indexes", "planLooks", "[I", true)
  | 5 => ("Shardmoor$Indexes", "places", "LShardmoor$Places;", true)
  | _ => ("Shardmoor$Indexes", "plans", "I", false)
def tyX4 : Nat → FieldType := fun k => match k with
  | 0 => .array .int
  | 1 => .array .boolean
  | 2 => .array .int
  | 3 => .array .int
  | 4 => .array .int
  | 5 => .object "Shardmoor$Places"
  | _ => .int
abbrev wsX40 : List Cond := u_ws RX4 TX4 7
theorem nmX4 : ∀ a, a < 7 → ∀ b, b < 7 → a ≠ b → (TX4 a).2.1 ≠ (TX4 b).2.1 := by decide +kernel
theorem tyX4_ok : ∀ k, k < 7 → parseFieldDescriptor (TX4 k).2.2.1 = some (tyX4 k) := by decide +kernel
abbrev cX4_init : ByteArray := prog_6_method_1_code
def yX4_init : MethodName := ⟨RX4, "<init>", "()V"⟩
abbrev cX4_has : ByteArray := prog_6_method_2_code
def yX4_has : MethodName := ⟨RX4, "has", "(I)Z"⟩
abbrev cX4_pathOf : ByteArray := prog_6_method_3_code
def yX4_pathOf : MethodName := ⟨RX4, "pathOf", "(I)I"⟩
abbrev cX4_hasPath : ByteArray := prog_6_method_4_code
def yX4_hasPath : MethodName := ⟨RX4, "hasPath", "(I)Z"⟩
abbrev cX4_lowestFree : ByteArray := prog_6_method_5_code
def yX4_lowestFree : MethodName := ⟨RX4, "lowestFree", "()I"⟩
abbrev cX4_make : ByteArray := prog_6_method_6_code
def yX4_make : MethodName := ⟨RX4, "make", "(IIZ)V"⟩
abbrev cX4_abolish : ByteArray := prog_6_method_7_code
def yX4_abolish : MethodName := ⟨RX4, "abolish", "(I)I"⟩
abbrev cX4_countEntries : ByteArray := prog_6_method_8_code
def yX4_countEntries : MethodName := ⟨RX4, "countEntries", "(LShardmoor$Store;I)I"⟩
abbrev cX4_entriesFor : ByteArray := prog_6_method_9_code
def yX4_entriesFor : MethodName := ⟨RX4, "entriesFor", "(LShardmoor$Value;I)I"⟩
abbrev cX4_isFirst : ByteArray := prog_6_method_10_code
def yX4_isFirst : MethodName := ⟨RX4, "isFirst", "(LShardmoor$Value;I)Z"⟩
abbrev cX4_hasEntryForNone : ByteArray := prog_6_method_11_code
def yX4_hasEntryForNone : MethodName := ⟨RX4, "hasEntryForNone", "(I)Z"⟩
abbrev cX4_countLooked : ByteArray := prog_6_method_12_code
def yX4_countLooked : MethodName := ⟨RX4, "countLooked", "(LShardmoor$Store;ILShardmoor$Filter;)I"⟩
abbrev cX4_plansKept : ByteArray := prog_6_method_13_code
def yX4_plansKept : MethodName := ⟨RX4, "plansKept", "()I"⟩
abbrev cX4_planFor : ByteArray := prog_6_method_14_code
def yX4_planFor : MethodName := ⟨RX4, "planFor", "(I)I"⟩
abbrev cX4_indexOfPlan : ByteArray := prog_6_method_15_code
def yX4_indexOfPlan : MethodName := ⟨RX4, "indexOfPlan", "(I)I"⟩
abbrev cX4_looksOfPlan : ByteArray := prog_6_method_16_code
def yX4_looksOfPlan : MethodName := ⟨RX4, "looksOfPlan", "(I)I"⟩
abbrev cX4_keepPlan : ByteArray := prog_6_method_17_code
def yX4_keepPlan : MethodName := ⟨RX4, "keepPlan", "(III)V"⟩
abbrev cX4_forgetPlan : ByteArray := prog_6_method_18_code
def yX4_forgetPlan : MethodName := ⟨RX4, "forgetPlan", "(I)V"⟩
def RX5 : String := "Shardmoor$Pile"
def TX5 : u_T := fun k => match k with
  | 0 => ("Shardmoor$Pile", "values", "[LShardmoor$Value;", true)
  | 1 => ("Shardmoor$Pile", "none", "LShardmoor$Value;", true)
  | _ => ("Shardmoor$Pile", "size", "I", false)
def tyX5 : Nat → FieldType := fun k => match k with
  | 0 => .array (.object "Shardmoor$Value")
  | 1 => .object "Shardmoor$Value"
  | _ => .int
abbrev wsX50 : List Cond := u_ws RX5 TX5 3
theorem nmX5 : ∀ a, a < 3 → ∀ b, b < 3 → a ≠ b → (TX5 a).2.1 ≠ (TX5 b).2.1 := by decide +kernel
theorem tyX5_ok : ∀ k, k < 3 → parseFieldDescriptor (TX5 k).2.2.1 = some (tyX5 k) := by decide +kernel
abbrev cX5_init : ByteArray := prog_7_method_1_code
def yX5_init : MethodName := ⟨RX5, "<init>", "()V"⟩
abbrev cX5_isEmpty : ByteArray := prog_7_method_2_code
def yX5_isEmpty : MethodName := ⟨RX5, "isEmpty", "()Z"⟩
abbrev cX5_isFull : ByteArray := prog_7_method_3_code
def yX5_isFull : MethodName := ⟨RX5, "isFull", "()Z"⟩
abbrev cX5_put : ByteArray := prog_7_method_4_code
def yX5_put : MethodName := ⟨RX5, "put", "(I)I"⟩
abbrev cX5_top : ByteArray := prog_7_method_5_code
def yX5_top : MethodName := ⟨RX5, "top", "()LShardmoor$Value;"⟩
abbrev cX5_below : ByteArray := prog_7_method_6_code
def yX5_below : MethodName := ⟨RX5, "below", "()LShardmoor$Value;"⟩
abbrev cX5_at : ByteArray := prog_7_method_7_code
def yX5_at : MethodName := ⟨RX5, "at", "(I)LShardmoor$Value;"⟩
abbrev cX5_takeTop : ByteArray := prog_7_method_8_code
def yX5_takeTop : MethodName := ⟨RX5, "takeTop", "()I"⟩
abbrev cX5_takeAll : ByteArray := prog_7_method_9_code
def yX5_takeAll : MethodName := ⟨RX5, "takeAll", "()I"⟩
def RX6 : String := "Shardmoor$Places"
def TX6 : u_T := fun k => match k with
  | 0 => ("Shardmoor$Places", "places", "[I", true)
  | _ => ("Shardmoor$Places", "count", "I", false)
def tyX6 : Nat → FieldType := fun k => match k with
  | 0 => .array .int
  | _ => .int
abbrev wsX60 : List Cond := u_ws RX6 TX6 2
theorem nmX6 : ∀ a, a < 2 → ∀ b, b < 2 → a ≠ b → (TX6 a).2.1 ≠ (TX6 b).2.1 := by decide +kernel
theorem tyX6_ok : ∀ k, k < 2 → parseFieldDescriptor (TX6 k).2.2.1 = some (tyX6 k) := by decide +kernel
abbrev cX6_init : ByteArray := prog_8_method_1_code
def yX6_init : MethodName := ⟨RX6, "<init>", "()V"⟩
abbrev cX6_size : ByteArray := prog_8_method_2_code
def yX6_size : MethodName := ⟨RX6, "size", "()I"⟩
abbrev cX6_at : ByteArray := prog_8_method_3_code
def yX6_at : MethodName := ⟨RX6, "at", "(I)I"⟩
abbrev cX6_gather : ByteArray := prog_8_method_4_code
def yX6_gather : MethodName := ⟨RX6, "gather", "(LShardmoor$Value;I)V"⟩
abbrev cX6_takeOfEach : ByteArray := prog_8_method_5_code
def yX6_takeOfEach : MethodName := ⟨RX6, "takeOfEach", "(LShardmoor$Value;II)V"⟩
abbrev cX6_take : ByteArray := prog_8_method_6_code
def yX6_take : MethodName := ⟨RX6, "take", "(LShardmoor$Value;I)V"⟩
abbrev cX6_note : ByteArray := prog_8_method_7_code
def yX6_note : MethodName := ⟨RX6, "note", "(I)V"⟩
def RX7 : String := "Shardmoor$Query"
def TX7 : u_T := fun k => match k with
  | 0 => ("Shardmoor$Query", "filters", "[LShardmoor$Filter;", true)
  | 1 => ("Shardmoor$Query", "none", "LShardmoor$Filter;", true)
  | 2 => ("Shardmoor$Query", "places", "LShardmoor$Places;", true)
  | 3 => ("Shardmoor$Query", "numbers", "[I", true)
  | 4 => ("Shardmoor$Query", "size", "I", false)
  | 5 => ("Shardmoor$Query", "foundSize", "I", false)
  | 6 => ("Shardmoor$Query", "usedIndex", "I", false)
  | 7 => ("Shardmoor$Query", "looked", "I", false)
  | 8 => ("Shardmoor$Query", "tried", "I", false)
  | _ => ("Shardmoor$Query", "isDropped", "Z", false)
def tyX7 : Nat → FieldType := fun k => match k with
  | 0 => .array (.object "Shardmoor$Filter")
  | 1 => .object "Shardmoor$Filter"
  | 2 => .object "Shardmoor$Places"
  | 3 => .array .int
  | 4 => .int
  | 5 => .int
  | 6 => .int
  | 7 => .int
  | 8 => .int
  | _ => .boolean
abbrev wsX70 : List Cond := u_ws RX7 TX7 10
theorem nmX7 : ∀ a, a < 10 → ∀ b, b < 10 → a ≠ b → (TX7 a).2.1 ≠ (TX7 b).2.1 := by decide +kernel
theorem tyX7_ok : ∀ k, k < 10 → parseFieldDescriptor (TX7 k).2.2.1 = some (tyX7 k) := by decide +kernel
abbrev cX7_init : ByteArray := prog_9_method_1_code
def yX7_init : MethodName := ⟨RX7, "<init>", "()V"⟩
abbrev cX7_size : ByteArray := prog_9_method_2_code
def yX7_size : MethodName := ⟨RX7, "size", "()I"⟩
abbrev cX7_isFull : ByteArray := prog_9_method_3_code
def yX7_isFull : MethodName := ⟨RX7, "isFull", "()Z"⟩
abbrev cX7_addFilter : ByteArray := prog_9_method_4_code
def yX7_addFilter : MethodName := ⟨RX7, "addFilter", "(IILShardmoor$Value;)V"⟩
abbrev cX7_filterAt : ByteArray := prog_9_method_5_code
def yX7_filterAt : MethodName := ⟨RX7, "filterAt", "(I)LShardmoor$Filter;"⟩
abbrev cX7_takeAllFilters : ByteArray := prog_9_method_6_code
def yX7_takeAllFilters : MethodName := ⟨RX7, "takeAllFilters", "()I"⟩
abbrev cX7_foundSize : ByteArray := prog_9_method_7_code
def yX7_foundSize : MethodName := ⟨RX7, "foundSize", "()I"⟩
abbrev cX7_foundAt : ByteArray := prog_9_method_8_code
def yX7_foundAt : MethodName := ⟨RX7, "foundAt", "(I)I"⟩
abbrev cX7_latest : ByteArray := prog_9_method_9_code
def yX7_latest : MethodName := ⟨RX7, "latest", "(I)I"⟩
abbrev cX7_countFitting : ByteArray := prog_9_method_10_code
def yX7_countFitting : MethodName := ⟨RX7, "countFitting", "(LShardmoor$Store;)I"⟩
abbrev cX7_search : ByteArray := prog_9_method_11_code
def yX7_search : MethodName := ⟨RX7, "search", "(LShardmoor$Store;)I"⟩
abbrev cX7_fitsAll : ByteArray := prog_9_method_12_code
def yX7_fitsAll : MethodName := ⟨RX7, "fitsAll", "(LShardmoor$Value;)Z"⟩
abbrev cX7_shape : ByteArray := prog_9_method_13_code
def yX7_shape : MethodName := ⟨RX7, "shape", "()I"⟩
abbrev cX7_choosePlan : ByteArray := prog_9_method_14_code
def yX7_choosePlan : MethodName := ⟨RX7, "choosePlan", "(LShardmoor$Store;LShardmoor$Indexes;)V"⟩
abbrev cX7_tryPlans : ByteArray := prog_9_method_15_code
def yX7_tryPlans : MethodName := ⟨RX7, "tryPlans", "(LShardmoor$Store;LShardmoor$Indexes;)V"⟩
abbrev cX7_tryPlan : ByteArray := prog_9_method_16_code
def yX7_tryPlan : MethodName := ⟨RX7, "tryPlan", "(II)V"⟩
abbrev cX7_filterFor : ByteArray := prog_9_method_17_code
def yX7_filterFor : MethodName := ⟨RX7, "filterFor", "(ILShardmoor$Indexes;)LShardmoor$Filter;"⟩
def RX8 : String := "Shardmoor$Store"
def TX8 : u_T := fun k => match k with
  | 0 => ("Shardmoor$Store", "values", "[LShardmoor$Value;", true)
  | 1 => ("Shardmoor$Store", "isThere", "[Z", true)
  | 2 => ("Shardmoor$Store", "rules", "[I", true)
  | 3 => ("Shardmoor$Store", "none", "LShardmoor$Value;", true)
  | _ => ("Shardmoor$Store", "count", "I", false)
def tyX8 : Nat → FieldType := fun k => match k with
  | 0 => .array (.object "Shardmoor$Value")
  | 1 => .array .boolean
  | 2 => .array .int
  | 3 => .object "Shardmoor$Value"
  | _ => .int
abbrev wsX80 : List Cond := u_ws RX8 TX8 5
theorem nmX8 : ∀ a, a < 5 → ∀ b, b < 5 → a ≠ b → (TX8 a).2.1 ≠ (TX8 b).2.1 := by decide +kernel
theorem tyX8_ok : ∀ k, k < 5 → parseFieldDescriptor (TX8 k).2.2.1 = some (tyX8 k) := by decide +kernel
abbrev cX8_init : ByteArray := prog_10_method_1_code
def yX8_init : MethodName := ⟨RX8, "<init>", "()V"⟩
abbrev cX8_size : ByteArray := prog_10_method_2_code
def yX8_size : MethodName := ⟨RX8, "size", "()I"⟩
abbrev cX8_has : ByteArray := prog_10_method_3_code
def yX8_has : MethodName := ⟨RX8, "has", "(I)Z"⟩
abbrev cX8_at : ByteArray := prog_10_method_4_code
def yX8_at : MethodName := ⟨RX8, "at", "(I)LShardmoor$Value;"⟩
abbrev cX8_put : ByteArray := prog_10_method_5_code
def yX8_put : MethodName := ⟨RX8, "put", "(ILShardmoor$Value;)V"⟩
abbrev cX8_takeOut : ByteArray := prog_10_method_6_code
def yX8_takeOut : MethodName := ⟨RX8, "takeOut", "(I)V"⟩
abbrev cX8_keepsRules : ByteArray := prog_10_method_7_code
def yX8_keepsRules : MethodName := ⟨RX8, "keepsRules", "(LShardmoor$Value;)Z"⟩
abbrev cX8_allKeep : ByteArray := prog_10_method_8_code
def yX8_allKeep : MethodName := ⟨RX8, "allKeep", "(II)Z"⟩
abbrev cX8_keeps : ByteArray := prog_10_method_9_code
def yX8_keeps : MethodName := ⟨RX8, "keeps", "(LShardmoor$Value;II)Z"⟩
abbrev cX8_setRule : ByteArray := prog_10_method_10_code
def yX8_setRule : MethodName := ⟨RX8, "setRule", "(II)I"⟩
def RX9 : String := "Shardmoor$Stream"
def TX9 : u_T := fun k => match k with
  | 0 => ("Shardmoor$Stream", "whats", "[I", true)
  | 1 => ("Shardmoor$Stream", "numbers", "[I", true)
  | 2 => ("Shardmoor$Stream", "shards", "[I", true)
  | _ => ("Shardmoor$Stream", "count", "I", false)
def tyX9 : Nat → FieldType := fun k => match k with
  | 0 => .array .int
  | 1 => .array .int
  | 2 => .array .int
  | _ => .int
abbrev wsX90 : List Cond := u_ws RX9 TX9 4
theorem nmX9 : ∀ a, a < 4 → ∀ b, b < 4 → a ≠ b → (TX9 a).2.1 ≠ (TX9 b).2.1 := by decide +kernel
theorem tyX9_ok : ∀ k, k < 4 → parseFieldDescriptor (TX9 k).2.2.1 = some (tyX9 k) := by decide +kernel
abbrev cX9_init : ByteArray := prog_11_method_1_code
def yX9_init : MethodName := ⟨RX9, "<init>", "()V"⟩
abbrev cX9_put : ByteArray := prog_11_method_2_code
def yX9_put : MethodName := ⟨RX9, "put", "(III)V"⟩
abbrev cX9_has : ByteArray := prog_11_method_3_code
def yX9_has : MethodName := ⟨RX9, "has", "(I)Z"⟩
abbrev cX9_firstBehind : ByteArray := prog_11_method_4_code
def yX9_firstBehind : MethodName := ⟨RX9, "firstBehind", "(I)I"⟩
abbrev cX9_tell : ByteArray := prog_11_method_5_code
def yX9_tell : MethodName := ⟨RX9, "tell", "(II)I"⟩
def RX10 : String := "Shardmoor$Value"
def TX10 : u_T := fun k => match k with
  | 0 => ("Shardmoor$Value", "signs", "[I", true)
  | _ => ("Shardmoor$Value", "length", "I", false)
def tyX10 : Nat → FieldType := fun k => match k with
  | 0 => .array .int
  | _ => .int
abbrev wsX100 : List Cond := u_ws RX10 TX10 2
theorem nmX10 : ∀ a, a < 2 → ∀ b, b < 2 → a ≠ b → (TX10 a).2.1 ≠ (TX10 b).2.1 := by decide +kernel
theorem tyX10_ok : ∀ k, k < 2 → parseFieldDescriptor (TX10 k).2.2.1 = some (tyX10 k) := by decide +kernel
abbrev cX10_init : ByteArray := prog_12_method_1_code
def yX10_init : MethodName := ⟨RX10, "<init>", "(I)V"⟩
abbrev cX10_turnOf : ByteArray := prog_12_method_2_code
def yX10_turnOf : MethodName := ⟨RX10, "turnOf", "(I)I"⟩
abbrev cX10_order : ByteArray := prog_12_method_3_code
def yX10_order : MethodName := ⟨RX10, "order", "(LShardmoor$Value;ILShardmoor$Value;I)I"⟩
abbrev cX10_signAt : ByteArray := prog_12_method_4_code
def yX10_signAt : MethodName := ⟨RX10, "signAt", "(I)I"⟩
abbrev cX10_kindAt : ByteArray := prog_12_method_5_code
def yX10_kindAt : MethodName := ⟨RX10, "kindAt", "(I)I"⟩
abbrev cX10_numberAt : ByteArray := prog_12_method_6_code
def yX10_numberAt : MethodName := ⟨RX10, "numberAt", "(I)I"⟩
abbrev cX10_wordAt : ByteArray := prog_12_method_7_code
def yX10_wordAt : MethodName := ⟨RX10, "wordAt", "(I)I"⟩
abbrev cX10_endOf : ByteArray := prog_12_method_8_code
def yX10_endOf : MethodName := ⟨RX10, "endOf", "(I)I"⟩
abbrev cX10_parts : ByteArray := prog_12_method_9_code
def yX10_parts : MethodName := ⟨RX10, "parts", "()I"⟩
abbrev cX10_partsAt : ByteArray := prog_12_method_10_code
def yX10_partsAt : MethodName := ⟨RX10, "partsAt", "(I)I"⟩
abbrev cX10_widthAt : ByteArray := prog_12_method_11_code
def yX10_widthAt : MethodName := ⟨RX10, "widthAt", "(I)I"⟩
abbrev cX10_slotOf : ByteArray := prog_12_method_12_code
def yX10_slotOf : MethodName := ⟨RX10, "slotOf", "(II)I"⟩
abbrev cX10_placeOf : ByteArray := prog_12_method_13_code
def yX10_placeOf : MethodName := ⟨RX10, "placeOf", "(II)I"⟩
abbrev cX10_printAt : ByteArray := prog_12_method_14_code
def yX10_printAt : MethodName := ⟨RX10, "printAt", "(I)J"⟩
abbrev cX10_printOn : ByteArray := prog_12_method_15_code
def yX10_printOn : MethodName := ⟨RX10, "printOn", "(JII)J"⟩
abbrev cX10_become : ByteArray := prog_12_method_16_code
def yX10_become : MethodName := ⟨RX10, "become", "(I)V"⟩
abbrev cX10_become_ : ByteArray := prog_12_method_17_code
def yX10_become_ : MethodName := ⟨RX10, "become", "(LShardmoor$Value;)V"⟩
abbrev cX10_setSign : ByteArray := prog_12_method_18_code
def yX10_setSign : MethodName := ⟨RX10, "setSign", "(II)V"⟩
abbrev cX10_putSign : ByteArray := prog_12_method_19_code
def yX10_putSign : MethodName := ⟨RX10, "putSign", "(II)V"⟩
abbrev cX10_putValue : ByteArray := prog_12_method_20_code
def yX10_putValue : MethodName := ⟨RX10, "putValue", "(IILShardmoor$Value;)V"⟩
abbrev cX10_takeOut : ByteArray := prog_12_method_21_code
def yX10_takeOut : MethodName := ⟨RX10, "takeOut", "(II)V"⟩
abbrev cX10_makeRoom : ByteArray := prog_12_method_22_code
def yX10_makeRoom : MethodName := ⟨RX10, "makeRoom", "(III)V"⟩
abbrev cX10_putBehind : ByteArray := prog_12_method_23_code
def yX10_putBehind : MethodName := ⟨RX10, "putBehind", "(ILShardmoor$Value;)V"⟩
abbrev cX10_setField : ByteArray := prog_12_method_24_code
def yX10_setField : MethodName := ⟨RX10, "setField", "(IILShardmoor$Value;)V"⟩
abbrev cX10_takeField : ByteArray := prog_12_method_25_code
def yX10_takeField : MethodName := ⟨RX10, "takeField", "(II)V"⟩
def RX11 : String := "Shardmoor"
def TX11 : u_T := fun k => match k with
  | 0 => ("Shardmoor", "pile", "LShardmoor$Pile;", true)
  | 1 => ("Shardmoor", "store", "LShardmoor$Store;", true)
  | 2 => ("Shardmoor", "chart", "LShardmoor$Chart;", true)
  | 3 => ("Shardmoor", "stream", "LShardmoor$Stream;", true)
  | 4 => ("Shardmoor", "editor", "LShardmoor$Editor;", true)
  | 5 => ("Shardmoor", "indexes", "LShardmoor$Indexes;", true)
  | 6 => ("Shardmoor", "query", "LShardmoor$Query;", true)
  | 7 => ("Shardmoor", "groups", "LShardmoor$Groups;", true)
  | 8 => ("Shardmoor", "expiringField", "I", false)
  | _ => ("Shardmoor", "ticked", "I", false)
def tyX11 : Nat → FieldType := fun k => match k with
  | 0 => .object "Shardmoor$Pile"
  | 1 => .object "Shardmoor$Store"
  | 2 => .object "Shardmoor$Chart"
  | 3 => .object "Shardmoor$Stream"
  | 4 => .object "Shardmoor$Editor"
  | 5 => .object "Shardmoor$Indexes"
  | 6 => .object "Shardmoor$Query"
  | 7 => .object "Shardmoor$Groups"
  | 8 => .int
  | _ => .int
abbrev wsX110 : List Cond := u_ws RX11 TX11 10
theorem nmX11 : ∀ a, a < 10 → ∀ b, b < 10 → a ≠ b → (TX11 a).2.1 ≠ (TX11 b).2.1 := by decide +kernel
theorem tyX11_ok : ∀ k, k < 10 → parseFieldDescriptor (TX11 k).2.2.1 = some (tyX11 k) := by decide +kernel
abbrev cX11_init : ByteArray := prog_1_method_1_code
def yX11_init : MethodName := ⟨RX11, "<init>", "()V"⟩
abbrev cX11_nothing : ByteArray := prog_1_method_2_code
def yX11_nothing : MethodName := ⟨RX11, "nothing", "()I"⟩
abbrev cX11_number : ByteArray := prog_1_method_3_code
def yX11_number : MethodName := ⟨RX11, "number", "(I)I"⟩
abbrev cX11_word : ByteArray := prog_1_method_4_code
def yX11_word : MethodName := ⟨RX11, "word", "(I)I"⟩
abbrev cX11_row : ByteArray := prog_1_method_5_code
def yX11_row : MethodName := ⟨RX11, "row", "()I"⟩
abbrev cX11_object : ByteArray := prog_1_method_6_code
def yX11_object : MethodName := ⟨RX11, "object", "()I"⟩
abbrev cX11_add : ByteArray := prog_1_method_7_code
def yX11_add : MethodName := ⟨RX11, "add", "()I"⟩
abbrev cX11_give : ByteArray := prog_1_method_8_code
def yX11_give : MethodName := ⟨RX11, "give", "(I)I"⟩
abbrev cX11_drop : ByteArray := prog_1_method_9_code
def yX11_drop : MethodName := ⟨RX11, "drop", "()I"⟩
abbrev cX11_insert : ByteArray := prog_1_method_10_code
def yX11_insert : MethodName := ⟨RX11, "insert", "(II)I"⟩
abbrev cX11_update : ByteArray := prog_1_method_11_code
def yX11_update : MethodName := ⟨RX11, "update", "(IIII)Z"⟩
abbrev cX11_remove : ByteArray := prog_1_method_12_code
def yX11_remove : MethodName := ⟨RX11, "remove", "(II)I"⟩
abbrev cX11_rule : ByteArray := prog_1_method_13_code
def yX11_rule : MethodName := ⟨RX11, "rule", "(II)I"⟩
abbrev cX11_index : ByteArray := prog_1_method_14_code
def yX11_index : MethodName := ⟨RX11, "index", "(IZ)I"⟩
abbrev cX11_dropIndex : ByteArray := prog_1_method_15_code
def yX11_dropIndex : MethodName := ⟨RX11, "dropIndex", "(I)I"⟩
abbrev cX11_filter : ByteArray := prog_1_method_16_code
def yX11_filter : MethodName := ⟨RX11, "filter", "(II)I"⟩
abbrev cX11_clear : ByteArray := prog_1_method_17_code
def yX11_clear : MethodName := ⟨RX11, "clear", "()I"⟩
abbrev cX11_find : ByteArray := prog_1_method_18_code
def yX11_find : MethodName := ⟨RX11, "find", "(I)I"⟩
abbrev cX11_found : ByteArray := prog_1_method_19_code
def yX11_found : MethodName := ⟨RX11, "found", "(I)I"⟩
abbrev cX11_findAnew : ByteArray := prog_1_method_20_code
def yX11_findAnew : MethodName := ⟨RX11, "findAnew", "()I"⟩
abbrev cX11_plan : ByteArray := prog_1_method_21_code
def yX11_plan : MethodName := ⟨RX11, "plan", "(I)I"⟩
abbrev cX11_group : ByteArray := prog_1_method_22_code
def yX11_group : MethodName := ⟨RX11, "group", "(II)I"⟩
abbrev cX11_grouped : ByteArray := prog_1_method_23_code
def yX11_grouped : MethodName := ⟨RX11, "grouped", "(II)J"⟩
abbrev cX11_split : ByteArray := prog_1_method_24_code
def yX11_split : MethodName := ⟨RX11, "split", "(II)I"⟩
abbrev cX11_move : ByteArray := prog_1_method_25_code
def yX11_move : MethodName := ⟨RX11, "move", "(II)I"⟩
abbrev cX11_copy : ByteArray := prog_1_method_26_code
def yX11_copy : MethodName := ⟨RX11, "copy", "(I)I"⟩
abbrev cX11_handOver : ByteArray := prog_1_method_27_code
def yX11_handOver : MethodName := ⟨RX11, "handOver", "()I"⟩
abbrev cX11_giveUp : ByteArray := prog_1_method_28_code
def yX11_giveUp : MethodName := ⟨RX11, "giveUp", "()I"⟩
abbrev cX11_clean : ByteArray := prog_1_method_29_code
def yX11_clean : MethodName := ⟨RX11, "clean", "(I)I"⟩
abbrev cX11_key : ByteArray := prog_1_method_30_code
def yX11_key : MethodName := ⟨RX11, "key", "(IZ)I"⟩
abbrev cX11_expire : ByteArray := prog_1_method_31_code
def yX11_expire : MethodName := ⟨RX11, "expire", "(I)I"⟩
abbrev cX11_tick : ByteArray := prog_1_method_32_code
def yX11_tick : MethodName := ⟨RX11, "tick", "(I)I"⟩
abbrev cX11_documents : ByteArray := prog_1_method_33_code
def yX11_documents : MethodName := ⟨RX11, "documents", "()I"⟩
abbrev cX11_document : ByteArray := prog_1_method_34_code
def yX11_document : MethodName := ⟨RX11, "document", "(II)I"⟩
abbrev cX11_print : ByteArray := prog_1_method_35_code
def yX11_print : MethodName := ⟨RX11, "print", "(I)J"⟩
abbrev cX11_entries : ByteArray := prog_1_method_36_code
def yX11_entries : MethodName := ⟨RX11, "entries", "(I)I"⟩
abbrev cX11_entriesAnew : ByteArray := prog_1_method_37_code
def yX11_entriesAnew : MethodName := ⟨RX11, "entriesAnew", "(I)I"⟩
abbrev cX11_chunk : ByteArray := prog_1_method_38_code
def yX11_chunk : MethodName := ⟨RX11, "chunk", "(II)I"⟩
abbrev cX11_shard : ByteArray := prog_1_method_39_code
def yX11_shard : MethodName := ⟨RX11, "shard", "(II)I"⟩
abbrev cX11_router : ByteArray := prog_1_method_40_code
def yX11_router : MethodName := ⟨RX11, "router", "(II)I"⟩
abbrev cX11_next : ByteArray := prog_1_method_41_code
def yX11_next : MethodName := ⟨RX11, "next", "(I)I"⟩
abbrev cX11_change : ByteArray := prog_1_method_42_code
def yX11_change : MethodName := ⟨RX11, "change", "(II)I"⟩
abbrev cX11_now : ByteArray := prog_1_method_43_code
def yX11_now : MethodName := ⟨RX11, "now", "()I"⟩
abbrev cX11_isNumber : ByteArray := prog_1_method_44_code
def yX11_isNumber : MethodName := ⟨RX11, "isNumber", "(I)Z"⟩
abbrev cX11_isField : ByteArray := prog_1_method_45_code
def yX11_isField : MethodName := ⟨RX11, "isField", "(I)Z"⟩
abbrev cX11_isPath : ByteArray := prog_1_method_46_code
def yX11_isPath : MethodName := ⟨RX11, "isPath", "(I)Z"⟩
abbrev cX11_isShard : ByteArray := prog_1_method_47_code
def yX11_isShard : MethodName := ⟨RX11, "isShard", "(I)Z"⟩
abbrev cX11_isRouter : ByteArray := prog_1_method_48_code
def yX11_isRouter : MethodName := ⟨RX11, "isRouter", "(I)Z"⟩
abbrev cX11_pileUp : ByteArray := prog_1_method_49_code
def yX11_pileUp : MethodName := ⟨RX11, "pileUp", "(I)I"⟩
abbrev cX11_tellChange : ByteArray := prog_1_method_50_code
def yX11_tellChange : MethodName := ⟨RX11, "tellChange", "(III)I"⟩
abbrev cX11_takeAway : ByteArray := prog_1_method_51_code
def yX11_takeAway : MethodName := ⟨RX11, "takeAway", "(I)I"⟩
abbrev cX11_isExpired : ByteArray := prog_1_method_52_code
def yX11_isExpired : MethodName := ⟨RX11, "isExpired", "(I)Z"⟩
def RX12 : String := "ShardmoorModel"
def TX12 : u_T := fun k => match k with
  | 0 => ("ShardmoorModel", "all", "[I", true)
  | 1 => ("ShardmoorModel", "there", "[Z", true)
  | 2 => ("ShardmoorModel", "documents", "I", false)
  | 3 => ("ShardmoorModel", "piled", "I", false)
  | 4 => ("ShardmoorModel", "value", "[I", true)
  | 5 => ("ShardmoorModel", "valued", "I", false)
  | 6 => ("ShardmoorModel", "made", "[I", true)
  | 7 => ("ShardmoorModel", "mades", "I", false)
  | 8 => ("ShardmoorModel", "rules", "[I", true)
  | 9 => ("ShardmoorModel", "indexPath", "[I", true)
  | 10 => ("ShardmoorModel", "indexThere", "[Z", true)
  | 11 => ("ShardmoorModel", "sparse", "[Z", true)
  | 12 => ("ShardmoorModel", "filterPath", "[I", true)
  | 13 => ("ShardmoorModel", "filterRelation", "[I", true)
  | 14 => ("ShardmoorModel", "filters", "I", false)
  | 15 => ("ShardmoorModel", "planKeys", "[J", true)
  | 16 => ("ShardmoorModel", "planIndex", "[I", true)
  | 17 => ("ShardmoorModel", "planLooked", "[I", true)
  | 18 => ("ShardmoorModel", "plans", "I", false)
  | 19 => ("ShardmoorModel", "latest", "[I", true)
  | 20 => ("ShardmoorModel", "found", "[I", true)
  | 21 => ("ShardmoorModel", "founds", "I", false)
  | 22 => ("ShardmoorModel", "chunkStart", "[I", true)
  | 23 => ("ShardmoorModel", "chunkShard", "[I", true)
  | 24 => ("ShardmoorModel", "chunks", "I", false)
  | 25 => ("ShardmoorModel", "movingFrom", "I", false)
  | 26 => ("ShardmoorModel", "movingTo", "I", false)
  | 27 => ("ShardmoorModel", "copied", "[Z", true)
  | 28 => ("ShardmoorModel", "orphans", "[I", true)
  | 29 => ("ShardmoorModel", "keyField", "I", false)
  | 30 => ("ShardmoorModel", "isHashed", "Z", false)
  | 31 => ("ShardmoorModel", "version", "I", false)
  | 32 => ("ShardmoorModel", "versions", "[I", true)
  | 33 => ("ShardmoorModel", "stale", "[I", true)
  | 34 => ("ShardmoorModel", "entryKind", "[I", true)
  | 35 => ("ShardmoorModel", "entryDocument", "[I", true)
  | 36 => ("ShardmoorModel", "entryShard", "[I", true)
  | 37 => ("ShardmoorModel", "entries", "I", false)
  | 38 => ("ShardmoorModel", "expiring", "I", false)
  | 39 => ("ShardmoorModel", "now", "I", false)
  | 40 => ("ShardmoorModel", "spots", "[I", true)
  | 41 => ("ShardmoorModel", "many", "I", false)
  | 42 => ("ShardmoorModel", "groupAt", "[I", true)
  | 43 => ("ShardmoorModel", "groupMany", "[I", true)
  | 44 => ("ShardmoorModel", "groupSum", "[J", true)
  | 45 => ("ShardmoorModel", "groupPrint", "[J", true)
  | 46 => ("ShardmoorModel", "groups", "I", false)
  | 47 => ("ShardmoorModel", "last", "I", false)
  | 48 => ("ShardmoorModel", "counted", "[I", true)
  | _ => ("ShardmoorModel", "lay", "[I", true)
def tyX12 : Nat → FieldType := fun k => match k with
  | 0 => .array .int
  | 1 => .array .boolean
  | 2 => .int
  | 3 => .int
  | 4 => .array .int
  | 5 => .int
  | 6 => .array .int
  | 7 => .int
  | 8 => .array .int
  | 9 => .array .int
  | 10 => .array .boolean
  | 11 => .array .boolean
  | 12 => .array .int
  | 13 => .array .int
  | 14 => .int
  | 15 => .array .long
  | 16 => .array .int
  | 17 => .array .int
  | 18 => .int
  | 19 => .array .int
  | 20 => .array .int
  | 21 => .int
  | 22 => .array .int
  | 23 => .array .int
  | 24 => .int
  | 25 => .int
  | 26 => .int
  | 27 => .array .boolean
  | 28 => .array .int
  | 29 => .int
  | 30 => .boolean
  | 31 => .int
  | 32 => .array .int
  | 33 => .array .int
  | 34 => .array .int
  | 35 => .array .int
  | 36 => .array .int
  | 37 => .int
  | 38 => .int
  | 39 => .int
  | 40 => .array .int
  | 41 => .int
  | 42 => .array .int
  | 43 => .array .int
  | 44 => .array .long
  | 45 => .array .long
  | 46 => .int
  | 47 => .int
  | 48 => .array .int
  | _ => .array .int
abbrev wsX120 : List Cond := u_ws RX12 TX12 50
theorem nmX12 : ∀ a, a < 50 → ∀ b, b < 50 → a ≠ b → (TX12 a).2.1 ≠ (TX12 b).2.1 := by decide +kernel
theorem tyX12_ok : ∀ k, k < 50 → parseFieldDescriptor (TX12 k).2.2.1 = some (tyX12 k) := by decide +kernel
abbrev cX12_init : ByteArray := prog_14_method_1_code
def yX12_init : MethodName := ⟨RX12, "<init>", "()V"⟩
abbrev cX12_thrown : ByteArray := prog_14_method_2_code
def yX12_thrown : MethodName := ⟨RX12, "thrown", "()I"⟩
abbrev cX12_in : ByteArray := prog_14_method_3_code
def yX12_in : MethodName := ⟨RX12, "in", "(III)Z"⟩
abbrev cX12_goes : ByteArray := prog_14_method_4_code
def yX12_goes : MethodName := ⟨RX12, "goes", "(ZZZ)Z"⟩
abbrev cX12_isLong : ByteArray := prog_14_method_5_code
def yX12_isLong : MethodName := ⟨RX12, "isLong", "(I)Z"⟩
abbrev cX12_behind : ByteArray := prog_14_method_6_code
def yX12_behind : MethodName := ⟨RX12, "behind", "([II[I)I"⟩
abbrev cX12_end : ByteArray := prog_14_method_7_code
def yX12_end : MethodName := ⟨RX12, "end", "([II)I"⟩
abbrev cX12_parts : ByteArray := prog_14_method_8_code
def yX12_parts : MethodName := ⟨RX12, "parts", "([II)I"⟩
abbrev cX12_compare : ByteArray := prog_14_method_9_code
def yX12_compare : MethodName := ⟨RX12, "compare", "([II[II)I"⟩
abbrev cX12_fieldOf : ByteArray := prog_14_method_10_code
def yX12_fieldOf : MethodName := ⟨RX12, "fieldOf", "([III)I"⟩
abbrev cX12_membersOf : ByteArray := prog_14_method_11_code
def yX12_membersOf : MethodName := ⟨RX12, "membersOf", "([II)I"⟩
abbrev cX12_printOf : ByteArray := prog_14_method_12_code
def yX12_printOf : MethodName := ⟨RX12, "printOf", "([II)J"⟩
abbrev cX12_block : ByteArray := prog_14_method_13_code
def yX12_block : MethodName := ⟨RX12, "block", "(I)I"⟩
abbrev cX12_pile : ByteArray := prog_14_method_14_code
def yX12_pile : MethodName := ⟨RX12, "pile", "(I)I"⟩
abbrev cX12_top : ByteArray := prog_14_method_15_code
def yX12_top : MethodName := ⟨RX12, "top", "()I"⟩
abbrev cX12_spot : ByteArray := prog_14_method_16_code
def yX12_spot : MethodName := ⟨RX12, "spot", "(I)V"⟩
abbrev cX12_spotOf : ByteArray := prog_14_method_17_code
def yX12_spotOf : MethodName := ⟨RX12, "spotOf", "(II)V"⟩
abbrev cX12_looks : ByteArray := prog_14_method_18_code
def yX12_looks : MethodName := ⟨RX12, "looks", "(II)V"⟩
abbrev cX12_puts : ByteArray := prog_14_method_19_code
def yX12_puts : MethodName := ⟨RX12, "puts", "(ZII)I"⟩
abbrev cX12_nothing : ByteArray := prog_14_method_20_code
def yX12_nothing : MethodName := ⟨RX12, "nothing", "()I"⟩
abbrev cX12_number : ByteArray := prog_14_method_21_code
def yX12_number : MethodName := ⟨RX12, "number", "(I)I"⟩
abbrev cX12_word : ByteArray := prog_14_method_22_code
def yX12_word : MethodName := ⟨RX12, "word", "(I)I"⟩
abbrev cX12_row : ByteArray := prog_14_method_23_code
def yX12_row : MethodName := ⟨RX12, "row", "()I"⟩
abbrev cX12_object : ByteArray := prog_14_method_24_code
def yX12_object : MethodName := ⟨RX12, "object", "()I"⟩
abbrev cX12_adds : ByteArray := prog_14_method_25_code
def yX12_adds : MethodName := ⟨RX12, "adds", "([III)V"⟩
abbrev cX12_lays : ByteArray := prog_14_method_26_code
def yX12_lays : MethodName := ⟨RX12, "lays", "(I)V"⟩
abbrev cX12_add : ByteArray := prog_14_method_27_code
def yX12_add : MethodName := ⟨RX12, "add", "()I"⟩
abbrev cX12_builds : ByteArray := prog_14_method_28_code
def yX12_builds : MethodName := ⟨RX12, "builds", "([IIII[III)V"⟩
abbrev cX12_give : ByteArray := prog_14_method_29_code
def yX12_give : MethodName := ⟨RX12, "give", "(I)I"⟩
abbrev cX12_drop : ByteArray := prog_14_method_30_code
def yX12_drop : MethodName := ⟨RX12, "drop", "()I"⟩
abbrev cX12_chunksAnew : ByteArray := prog_14_method_31_code
def yX12_chunksAnew : MethodName := ⟨RX12, "chunksAnew", "()V"⟩
abbrev cX12_rest : ByteArray := prog_14_method_32_code
def yX12_rest : MethodName := ⟨RX12, "rest", "(I)I"⟩
abbrev cX12_keyOf : ByteArray := prog_14_method_33_code
def yX12_keyOf : MethodName := ⟨RX12, "keyOf", "(I)I"⟩
abbrev cX12_chunkOf : ByteArray := prog_14_method_34_code
def yX12_chunkOf : MethodName := ⟨RX12, "chunkOf", "(I)I"⟩
abbrev cX12_shardOf : ByteArray := prog_14_method_35_code
def yX12_shardOf : MethodName := ⟨RX12, "shardOf", "(I)I"⟩
abbrev cX12_moving : ByteArray := prog_14_method_36_code
def yX12_moving : MethodName := ⟨RX12, "moving", "()I"⟩
abbrev cX12_uses : ByteArray := prog_14_method_37_code
def yX12_uses : MethodName := ⟨RX12, "uses", "(I)V"⟩
abbrev cX12_enters : ByteArray := prog_14_method_38_code
def yX12_enters : MethodName := ⟨RX12, "enters", "(III)V"⟩
abbrev cX12_keeps : ByteArray := prog_14_method_39_code
def yX12_keeps : MethodName := ⟨RX12, "keeps", "([IIIII)Z"⟩
abbrev cX12_keepsAll : ByteArray := prog_14_method_40_code
def yX12_keepsAll : MethodName := ⟨RX12, "keepsAll", "([II)Z"⟩
abbrev cX12_isThere : ByteArray := prog_14_method_41_code
def yX12_isThere : MethodName := ⟨RX12, "isThere", "(I)Z"⟩
abbrev cX12_insert : ByteArray := prog_14_method_42_code
def yX12_insert : MethodName := ⟨RX12, "insert", "(II)I"⟩
abbrev cX12_works : ByteArray := prog_14_method_43_code
def yX12_works : MethodName := ⟨RX12, "works", "(II)Z"⟩
abbrev cX12_values : ByteArray := prog_14_method_44_code
def yX12_values : MethodName := ⟨RX12, "values", "([III)V"⟩
abbrev cX12_updates : ByteArray := prog_14_method_45_code
def yX12_updates : MethodName := ⟨RX12, "updates", "(III)Z"⟩
abbrev cX12_update : ByteArray := prog_14_method_46_code
def yX12_update : MethodName := ⟨RX12, "update", "(IIII)Z"⟩
abbrev cX12_removes : ByteArray := prog_14_method_47_code
def yX12_removes : MethodName := ⟨RX12, "removes", "(I)I"⟩
abbrev cX12_remove : ByteArray := prog_14_method_48_code
def yX12_remove : MethodName := ⟨RX12, "remove", "(II)I"⟩
abbrev cX12_rule : ByteArray := prog_14_method_49_code
def yX12_rule : MethodName := ⟨RX12, "rule", "(II)I"⟩
abbrev cX12_index : ByteArray := prog_14_method_50_code
def yX12_index : MethodName := ⟨RX12, "index", "(IZ)I"⟩
abbrev cX12_isIndex : ByteArray := prog_14_method_51_code
def yX12_isIndex : MethodName := ⟨RX12, "isIndex", "(I)Z"⟩
abbrev cX12_dropPlan : ByteArray := prog_14_method_52_code
def yX12_dropPlan : MethodName := ⟨RX12, "dropPlan", "(I)V"⟩
abbrev cX12_dropIndex : ByteArray := prog_14_method_53_code
def yX12_dropIndex : MethodName := ⟨RX12, "dropIndex", "(I)I"⟩
abbrev cX12_filterAt : ByteArray := prog_14_method_54_code
def yX12_filterAt : MethodName := ⟨RX12, "filterAt", "(I)I"⟩
abbrev cX12_filter : ByteArray := prog_14_method_55_code
def yX12_filter : MethodName := ⟨RX12, "filter", "(II)I"⟩
abbrev cX12_clear : ByteArray := prog_14_method_56_code
def yX12_clear : MethodName := ⟨RX12, "clear", "()I"⟩
abbrev cX12_fitsAt : ByteArray := prog_14_method_57_code
def yX12_fitsAt : MethodName := ⟨RX12, "fitsAt", "(II)Z"⟩
abbrev cX12_fits : ByteArray := prog_14_method_58_code
def yX12_fits : MethodName := ⟨RX12, "fits", "(II)Z"⟩
abbrev cX12_fitsAll : ByteArray := prog_14_method_59_code
def yX12_fitsAll : MethodName := ⟨RX12, "fitsAll", "(I)Z"⟩
abbrev cX12_lookFilter : ByteArray := prog_14_method_60_code
def yX12_lookFilter : MethodName := ⟨RX12, "lookFilter", "(I)I"⟩
abbrev cX12_looked : ByteArray := prog_14_method_61_code
def yX12_looked : MethodName := ⟨RX12, "looked", "(I)I"⟩
abbrev cX12_shape : ByteArray := prog_14_method_62_code
def yX12_shape : MethodName := ⟨RX12, "shape", "()J"⟩
abbrev cX12_find : ByteArray := prog_14_method_63_code
def yX12_find : MethodName := ⟨RX12, "find", "(I)I"⟩
abbrev cX12_found : ByteArray := prog_14_method_64_code
def yX12_found : MethodName := ⟨RX12, "found", "(I)I"⟩
abbrev cX12_findAnew : ByteArray := prog_14_method_65_code
def yX12_findAnew : MethodName := ⟨RX12, "findAnew", "()I"⟩
abbrev cX12_plan : ByteArray := prog_14_method_66_code
def yX12_plan : MethodName := ⟨RX12, "plan", "(I)I"⟩
abbrev cX12_groupsAt : ByteArray := prog_14_method_67_code
def yX12_groupsAt : MethodName := ⟨RX12, "groupsAt", "(IJ)V"⟩
abbrev cX12_group : ByteArray := prog_14_method_68_code
def yX12_group : MethodName := ⟨RX12, "group", "(II)I"⟩
abbrev cX12_grouped : ByteArray := prog_14_method_69_code
def yX12_grouped : MethodName := ⟨RX12, "grouped", "(II)J"⟩
abbrev cX12_isChunk : ByteArray := prog_14_method_70_code
def yX12_isChunk : MethodName := ⟨RX12, "isChunk", "(I)Z"⟩
abbrev cX12_split : ByteArray := prog_14_method_71_code
def yX12_split : MethodName := ⟨RX12, "split", "(II)I"⟩
abbrev cX12_documentsOf : ByteArray := prog_14_method_72_code
def yX12_documentsOf : MethodName := ⟨RX12, "documentsOf", "(I)I"⟩
abbrev cX12_copies : ByteArray := prog_14_method_73_code
def yX12_copies : MethodName := ⟨RX12, "copies", "()I"⟩
abbrev cX12_move : ByteArray := prog_14_method_74_code
def yX12_move : MethodName := ⟨RX12, "move", "(II)I"⟩
abbrev cX12_forgets : ByteArray := prog_14_method_75_code
def yX12_forgets : MethodName := ⟨RX12, "forgets", "()V"⟩
abbrev cX12_copy : ByteArray := prog_14_method_76_code
def yX12_copy : MethodName := ⟨RX12, "copy", "(I)I"⟩
abbrev cX12_handOver : ByteArray := prog_14_method_77_code
def yX12_handOver : MethodName := ⟨RX12, "handOver", "()I"⟩
abbrev cX12_giveUp : ByteArray := prog_14_method_78_code
def yX12_giveUp : MethodName := ⟨RX12, "giveUp", "()I"⟩
abbrev cX12_clean : ByteArray := prog_14_method_79_code
def yX12_clean : MethodName := ⟨RX12, "clean", "(I)I"⟩
abbrev cX12_key : ByteArray := prog_14_method_80_code
def yX12_key : MethodName := ⟨RX12, "key", "(IZ)I"⟩
abbrev cX12_expire : ByteArray := prog_14_method_81_code
def yX12_expire : MethodName := ⟨RX12, "expire", "(I)I"⟩
abbrev cX12_tick : ByteArray := prog_14_method_82_code
def yX12_tick : MethodName := ⟨RX12, "tick", "(I)I"⟩
abbrev cX12_documents : ByteArray := prog_14_method_83_code
def yX12_documents : MethodName := ⟨RX12, "documents", "()I"⟩
abbrev cX12_document : ByteArray := prog_14_method_84_code
def yX12_document : MethodName := ⟨RX12, "document", "(II)I"⟩
abbrev cX12_print : ByteArray := prog_14_method_85_code
def yX12_print : MethodName := ⟨RX12, "print", "(I)J"⟩
abbrev cX12_entriesOf : ByteArray := prog_14_method_86_code
def yX12_entriesOf : MethodName := ⟨RX12, "entriesOf", "(I)I"⟩
abbrev cX12_entries : ByteArray := prog_14_method_87_code
def yX12_entries : MethodName := ⟨RX12, "entries", "(I)I"⟩
abbrev cX12_entriesAnew : ByteArray := prog_14_method_88_code
def yX12_entriesAnew : MethodName := ⟨RX12, "entriesAnew", "(I)I"⟩
abbrev cX12_chunk : ByteArray := prog_14_method_89_code
def yX12_chunk : MethodName := ⟨RX12, "chunk", "(II)I"⟩
abbrev cX12_shard : ByteArray := prog_14_method_90_code
def yX12_shard : MethodName := ⟨RX12, "shard", "(II)I"⟩
abbrev cX12_router : ByteArray := prog_14_method_91_code
def yX12_router : MethodName := ⟨RX12, "router", "(II)I"⟩
abbrev cX12_next : ByteArray := prog_14_method_92_code
def yX12_next : MethodName := ⟨RX12, "next", "(I)I"⟩
abbrev cX12_change : ByteArray := prog_14_method_93_code
def yX12_change : MethodName := ⟨RX12, "change", "(II)I"⟩
abbrev cX12_now : ByteArray := prog_14_method_94_code
def yX12_now : MethodName := ⟨RX12, "now", "()I"⟩
def RL : String := "ShardmoorLaw"
abbrev cL_nothing : ByteArray := method_3_code
def yL_nothing : MethodName := ⟨RL, "nothing", "(LShardmoor;[J)I"⟩
abbrev cL_number : ByteArray := method_4_code
def yL_number : MethodName := ⟨RL, "number", "(LShardmoor;I[J)I"⟩
abbrev cL_word : ByteArray := method_5_code
def yL_word : MethodName := ⟨RL, "word", "(LShardmoor;I[J)I"⟩
abbrev cL_row : ByteArray := method_6_code
def yL_row : MethodName := ⟨RL, "row", "(LShardmoor;[J)I"⟩
abbrev cL_object : ByteArray := method_7_code
def yL_object : MethodName := ⟨RL, "object", "(LShardmoor;[J)I"⟩
abbrev cL_add : ByteArray := method_8_code
def yL_add : MethodName := ⟨RL, "add", "(LShardmoor;[J)I"⟩
abbrev cL_give : ByteArray := method_9_code
def yL_give : MethodName := ⟨RL, "give", "(LShardmoor;I[J)I"⟩
abbrev cL_insert : ByteArray := method_10_code
def yL_insert : MethodName := ⟨RL, "insert", "(LShardmoor;II[J)I"⟩
abbrev cL_update : ByteArray := method_11_code
def yL_update : MethodName := ⟨RL, "update", "(LShardmoor;IIII[J)I"⟩
abbrev cL_remove : ByteArray := method_12_code
def yL_remove : MethodName := ⟨RL, "remove", "(LShardmoor;II[J)I"⟩
abbrev cL_rule : ByteArray := method_13_code
def yL_rule : MethodName := ⟨RL, "rule", "(LShardmoor;II[J)I"⟩
abbrev cL_index : ByteArray := method_14_code
def yL_index : MethodName := ⟨RL, "index", "(LShardmoor;IZ[J)I"⟩
abbrev cL_dropIndex : ByteArray := method_15_code
def yL_dropIndex : MethodName := ⟨RL, "dropIndex", "(LShardmoor;I[J)I"⟩
abbrev cL_filter : ByteArray := method_16_code
def yL_filter : MethodName := ⟨RL, "filter", "(LShardmoor;II[J)I"⟩
abbrev cL_find : ByteArray := method_17_code
def yL_find : MethodName := ⟨RL, "find", "(LShardmoor;I[J)I"⟩
abbrev cL_found : ByteArray := method_18_code
def yL_found : MethodName := ⟨RL, "found", "(LShardmoor;I[J)I"⟩
abbrev cL_plan : ByteArray := method_19_code
def yL_plan : MethodName := ⟨RL, "plan", "(LShardmoor;I[J)I"⟩
abbrev cL_group : ByteArray := method_20_code
def yL_group : MethodName := ⟨RL, "group", "(LShardmoor;II[J)I"⟩
abbrev cL_grouped : ByteArray := method_21_code
def yL_grouped : MethodName := ⟨RL, "grouped", "(LShardmoor;II[J)I"⟩
abbrev cL_split : ByteArray := method_22_code
def yL_split : MethodName := ⟨RL, "split", "(LShardmoor;II[J)I"⟩
abbrev cL_move : ByteArray := method_23_code
def yL_move : MethodName := ⟨RL, "move", "(LShardmoor;II[J)I"⟩
abbrev cL_copy : ByteArray := method_24_code
def yL_copy : MethodName := ⟨RL, "copy", "(LShardmoor;I[J)I"⟩
abbrev cL_handOver : ByteArray := method_25_code
def yL_handOver : MethodName := ⟨RL, "handOver", "(LShardmoor;[J)I"⟩
abbrev cL_giveUp : ByteArray := method_26_code
def yL_giveUp : MethodName := ⟨RL, "giveUp", "(LShardmoor;[J)I"⟩
abbrev cL_clean : ByteArray := method_27_code
def yL_clean : MethodName := ⟨RL, "clean", "(LShardmoor;I[J)I"⟩
abbrev cL_key : ByteArray := method_28_code
def yL_key : MethodName := ⟨RL, "key", "(LShardmoor;IZ[J)I"⟩
abbrev cL_expire : ByteArray := method_29_code
def yL_expire : MethodName := ⟨RL, "expire", "(LShardmoor;I[J)I"⟩
abbrev cL_tick : ByteArray := method_30_code
def yL_tick : MethodName := ⟨RL, "tick", "(LShardmoor;I[J)I"⟩
abbrev cL_document : ByteArray := method_31_code
def yL_document : MethodName := ⟨RL, "document", "(LShardmoor;II[J)I"⟩
abbrev cL_print : ByteArray := method_32_code
def yL_print : MethodName := ⟨RL, "print", "(LShardmoor;I[J)I"⟩
abbrev cL_entries : ByteArray := method_33_code
def yL_entries : MethodName := ⟨RL, "entries", "(LShardmoor;I[J)I"⟩
abbrev cL_entriesAnew : ByteArray := method_34_code
def yL_entriesAnew : MethodName := ⟨RL, "entriesAnew", "(LShardmoor;I[J)I"⟩
abbrev cL_chunk : ByteArray := method_35_code
def yL_chunk : MethodName := ⟨RL, "chunk", "(LShardmoor;II[J)I"⟩
abbrev cL_shard : ByteArray := method_36_code
def yL_shard : MethodName := ⟨RL, "shard", "(LShardmoor;II[J)I"⟩
abbrev cL_router : ByteArray := method_37_code
def yL_router : MethodName := ⟨RL, "router", "(LShardmoor;II[J)I"⟩
abbrev cL_change : ByteArray := method_38_code
def yL_change : MethodName := ⟨RL, "change", "(LShardmoor;II[J)I"⟩
abbrev cL_law : ByteArray := code
def yL_law : MethodName := ⟨RL, "law", "([I)Z"⟩
abbrev vwCl : List vw_C := [(RX0, TX0, 13), (RX1, TX1, 2), (RX2, TX2, 3), (RX3, TX3, 7), (RX4, TX4, 7), (RX5, TX5, 3), (RX6, TX6, 2), (RX7, TX7, 10), (RX8, TX8, 5), (RX9, TX9, 4), (RX10, TX10, 2), (RX11, TX11, 10), (RX12, TX12, 50)]
/-- the tables' words that any state reached from a start keeps -/
def tb0 : List Cond := lw_tbl.filter goodWord
theorem tb0_of {w : Cond} (k : Nat) (h : lw_tbl[k]? = some w) (g : goodWord w = true) : w ∈ tb0 := List.mem_filter.mpr ⟨List.mem_of_getElem? h, g⟩
theorem tb0_good : GoodIn tb0 tb0 := goodIn_sub (fun _ h => h) (List.all_eq_true.mpr fun _ h => (List.mem_filter.mp h).2)
/-- a method: its class, name, bytes, locals, answer, frames and words of room, decoded instructions -/
abbrev x_MT : Type := String × MethodName × ByteArray × Nat × Option FieldType × Nat × Nat × List (Nat × Instr × Nat)
abbrev mOwn (M : x_MT) : String := M.1
abbrev mY (M : x_MT) : MethodName := M.2.1
abbrev mCode (M : x_MT) : ByteArray := M.2.2.1
abbrev mL (M : x_MT) : Nat := M.2.2.2.1
abbrev mRet (M : x_MT) : Option FieldType := M.2.2.2.2.1
abbrev mFr (M : x_MT) : Nat := M.2.2.2.2.2.1
abbrev mLo (M : x_MT) : Nat := M.2.2.2.2.2.2.1
abbrev mIns (M : x_MT) : List (Nat × Instr × Nat) := M.2.2.2.2.2.2.2
theorem tb_in {w : Cond} (h : w ∈ tables_1) : w ∈ lw_tbl := List.mem_append_right _ h
theorem tb1_of {w : Cond} (k : Nat) (h : tables_1_1[k]? = some w) (g : goodWord w = true) : w ∈ tb0 := List.mem_filter.mpr ⟨tb_in (List.mem_append_left _ (List.mem_of_getElem? h)), g⟩
theorem tb2_of {w : Cond} (k : Nat) (h : tables_1_2[k]? = some w) (g : goodWord w = true) : w ∈ tb0 := List.mem_filter.mpr ⟨tb_in (List.mem_append_right _ (List.mem_append_left _ (List.mem_of_getElem? h))), g⟩
theorem tb3_of {w : Cond} (k : Nat) (h : tables_1_3[k]? = some w) (g : goodWord w = true) : w ∈ tb0 := List.mem_filter.mpr ⟨tb_in (List.mem_append_right _ (List.mem_append_right _ (List.mem_append_left _ (List.mem_of_getElem? h)))), g⟩
theorem tb4_of {w : Cond} (k : Nat) (h : tables_1_4[k]? = some w) (g : goodWord w = true) : w ∈ tb0 := List.mem_filter.mpr ⟨tb_in (List.mem_append_right _ (List.mem_append_right _ (List.mem_append_right _ (List.mem_append_left _ (List.mem_of_getElem? h))))), g⟩
theorem tb5_of {w : Cond} (k : Nat) (h : tables_1_5[k]? = some w) (g : goodWord w = true) : w ∈ tb0 := List.mem_filter.mpr ⟨tb_in (List.mem_append_right _ (List.mem_append_right _ (List.mem_append_right _ (List.mem_append_right _ (List.mem_append_left _ (List.mem_of_getElem? h)))))), g⟩
theorem tb6_of {w : Cond} (k : Nat) (h : tables_1_6[k]? = some w) (g : goodWord w = true) : w ∈ tb0 := List.mem_filter.mpr ⟨tb_in (List.mem_append_right _ (List.mem_append_right _ (List.mem_append_right _ (List.mem_append_right _ (List.mem_append_right _ (List.mem_append_left _ (List.mem_of_getElem? h))))))), g⟩
theorem tb7_of {w : Cond} (k : Nat) (h : tables_1_7[k]? = some w) (g : goodWord w = true) : w ∈ tb0 := List.mem_filter.mpr ⟨tb_in (List.mem_append_right _ (List.mem_append_right _ (List.mem_append_right _ (List.mem_append_right _ (List.mem_append_right _ (List.mem_append_right _ (List.mem_append_left _ (List.mem_of_getElem? h)))))))), g⟩
theorem tb8_of {w : Cond} (k : Nat) (h : tables_1_8[k]? = some w) (g : goodWord w = true) : w ∈ tb0 := List.mem_filter.mpr ⟨tb_in (List.mem_append_right _ (List.mem_append_right _ (List.mem_append_right _ (List.mem_append_right _ (List.mem_append_right _ (List.mem_append_right _ (List.mem_append_right _ (List.mem_append_left _ (List.mem_of_getElem? h))))))))), g⟩
theorem tb9_of {w : Cond} (k : Nat) (h : tables_1_9[k]? = some w) (g : goodWord w = true) : w ∈ tb0 := List.mem_filter.mpr ⟨tb_in (List.mem_append_right _ (List.mem_append_right _ (List.mem_append_right _ (List.mem_append_right _ (List.mem_append_right _ (List.mem_append_right _ (List.mem_append_right _ (List.mem_append_right _ ((List.mem_of_getElem? h)))))))))), g⟩
def x_MOk (M : x_MT) : Prop := (mIns M).all (fun q => decide (decode (mCode M) q.1 = .ok q.2)) = true ∧ Cond.code (mY M) (mCode M) (mL M) (mRet M) ∈ tb0 ∧ plainName (mY M).cls = true ∧ (mY M).cls = mOwn M ∧ Cond.initialized (mY M).cls ∈ tb0 ∧ ((mY M).cls ≠ "java/lang/invoke/MethodHandle" ∧ (mY M).cls ≠ "java/lang/invoke/VarHandle")
def x_nw : List Cond := lw_tbl.filter (fun w => match w with | .fieldLinkNest _ _ _ _ _ _ => true | .methodLinkNest _ _ _ _ => true | .declares _ => true | .castable _ _ => true | _ => false)
def x_strs : List (String × Nat × String) := lw_tbl.filterMap (fun w => match w with | .stringRef a b c => some (a, b, c) | _ => none)
/-- the words of a call of M' by the number idx in M's class -/
def x_CV (own : String) (M' : x_MT) (idx n : Nat) : Prop := Cond.methodLink own idx (mY M') ∈ tb0 ∧ Cond.instanceMethod (mY M') ∈ tb0 ∧ Cond.selects (mOwn M') (mY M') (mY M') ∈ tb0 ∧ (parseMethodDescriptor (mY M').desc).map (fun d => d.parameters.length) = some n
def x_CS (own : String) (M' : x_MT) (idx n : Nat) : Prop := Cond.methodLink own idx (mY M') ∈ tb0 ∧ Cond.static (mY M') ∈ tb0 ∧ (parseMethodDescriptor (mY M').desc).map (fun d => d.parameters.length) = some n
def x_CI (own : String) (M' : x_MT) (idx n : Nat) : Prop := Cond.methodLink own idx (mY M') ∈ tb0 ∧ Cond.instanceMethod (mY M') ∈ tb0 ∧ (mY M').name = "<init>" ∧ mRet M' = none ∧ (parseMethodDescriptor (mY M').desc).map (fun d => d.parameters.length) = some n
def x_CIN (own : String) (M' : x_MT) (idx n : Nat) : Prop := Cond.methodLinkNest own idx (mY M') "Shardmoor" ∈ x_nw ∧ Cond.instanceMethod (mY M') ∈ tb0 ∧ (mY M').name = "<init>" ∧ mRet M' = none ∧ (parseMethodDescriptor (mY M').desc).map (fun d => d.parameters.length) = some n
def x_CSN (own : String) (M' : x_MT) (idx n : Nat) : Prop := Cond.methodLinkNest own idx (mY M') "Shardmoor" ∈ x_nw ∧ Cond.static (mY M') ∈ tb0 ∧ (parseMethodDescriptor (mY M').desc).map (fun d => d.parameters.length) = some n
/-- a class's words: its fields are laid, their types, their names differ -/
def x_CK (ci : Nat) : Prop := ∃ r : vw_C, vwCl[ci]? = some r ∧ (∀ w ∈ u_ws r.1 r.2.1 r.2.2, w ∈ tb0) ∧ (∃ ty : Nat → FieldType, ∀ k, k < r.2.2 → parseFieldDescriptor (r.2.1 k).2.2.1 = some (ty k)) ∧ (∀ a, a < r.2.2 → ∀ b, b < r.2.2 → a ≠ b → (r.2.1 a).2.1 ≠ (r.2.1 b).2.1) ∧ (∀ k, k < r.2.2 → (r.2.1 k).1 = r.1)
/-- the field j of class ci, by the number idx in the class own: descriptor d, final or not -/
def x_FL (own : String) (idx ci j : Nat) (ty : FieldType) (fin : Bool) : Prop := ∃ r : vw_C, vwCl[ci]? = some r ∧ j < r.2.2 ∧ Cond.fieldLink own idx r.1 (r.2.1 j).2.1 (r.2.1 j).2.2.1 ∈ tb0 ∧ (r.2.1 j).2.2.2 = fin ∧ parseFieldDescriptor (r.2.1 j).2.2.1 = some ty
def x_FN (own : String) (idx ci j : Nat) : Prop := ∃ r : vw_C, vwCl[ci]? = some r ∧ j < r.2.2 ∧ Cond.fieldLinkNest own idx r.1 (r.2.1 j).2.1 (r.2.1 j).2.2.1 "Shardmoor" ∈ x_nw
abbrev x_nms : List String := ["java/lang/RuntimeException", "java/lang/Exception"]
def x_TH (own : String) (ik ic : Nat) (E : String) : Prop := Bundle.fit E = true ∧ (∀ n ∈ x_nms, Bundle.fit n = true) ∧ Cond.classLink own ik E ∈ tb0 ∧ Cond.initialized E ∈ tb0 ∧ (∀ w ∈ vx_atS own ic E x_nms, w ∈ tb0 ∨ w ∈ x_nw) ∧ (∀ w ∈ Cond.classLink own ik E :: Cond.initialized E :: vx_atS own ic E x_nms, vx_ot w = true)
end
section
/-! ===== the methods: instructions, words ===== -/
theorem ckX0 : x_CK 0 := ⟨_, rfl, by decide +kernel, ⟨tyX0, tyX0_ok⟩, nmX0, by decide +kernel⟩
theorem ckX1 : x_CK 1 := ⟨_, rfl, by decide +kernel, ⟨tyX1, tyX1_ok⟩, nmX1, by decide +kernel⟩
theorem ckX2 : x_CK 2 := ⟨_, rfl, by decide +kernel, ⟨tyX2, tyX2_ok⟩, nmX2, by decide +kernel⟩
theorem ckX3 : x_CK 3 := ⟨_, rfl, by decide +kernel, ⟨tyX3, tyX3_ok⟩, nmX3, by decide +kernel⟩
theorem ckX4 : x_CK 4 := ⟨_, rfl, by decide +kernel, ⟨tyX4, tyX4_ok⟩, nmX4, by decide +kernel⟩
theorem ckX5 : x_CK 5 := ⟨_, rfl, by decide +kernel, ⟨tyX5, tyX5_ok⟩, nmX5, by decide +kernel⟩
theorem ckX6 : x_CK 6 := ⟨_, rfl, by decide +kernel, ⟨tyX6, tyX6_ok⟩, nmX6, by decide +kernel⟩
theorem ckX7 : x_CK 7 := ⟨_, rfl, by decide +kernel, ⟨tyX7, tyX7_ok⟩, nmX7, by decide +kernel⟩
theorem ckX8 : x_CK 8 := ⟨_, rfl, by decide +kernel, ⟨tyX8, tyX8_ok⟩, nmX8, by decide +kernel⟩
theorem ckX9 : x_CK 9 := ⟨_, rfl, by decide +kernel, ⟨tyX9, tyX9_ok⟩, nmX9, by decide +kernel⟩
theorem ckX10 : x_CK 10 := ⟨_, rfl, by decide +kernel, ⟨tyX10, tyX10_ok⟩, nmX10, by decide +kernel⟩
theorem ckX11 : x_CK 11 := ⟨_, rfl, by decide +kernel, ⟨tyX11, tyX11_ok⟩, nmX11, by decide +kernel⟩
theorem ckX12 : x_CK 12 := ⟨_, rfl, by decide +kernel, ⟨tyX12, tyX12_ok⟩, nmX12, by decide +kernel⟩
theorem flX11_12 : x_FL RX11 12 11 0 (.object "Shardmoor$Pile") true := ⟨_, rfl, by decide +kernel, tb2_of 62 rfl rfl, rfl, by decide +kernel⟩
theorem flX11_19 : x_FL RX11 19 11 1 (.object "Shardmoor$Store") true := ⟨_, rfl, by decide +kernel, tb2_of 63 rfl rfl, rfl, by decide +kernel⟩
theorem flX11_26 : x_FL RX11 26 11 2 (.object "Shardmoor$Chart") true := ⟨_, rfl, by decide +kernel, tb2_of 64 rfl rfl, rfl, by decide +kernel⟩
theorem flX11_33 : x_FL RX11 33 11 3 (.object "Shardmoor$Stream") true := ⟨_, rfl, by decide +kernel, tb2_of 65 rfl rfl, rfl, by decide +kernel⟩
theorem flX11_40 : x_FL RX11 40 11 4 (.object "Shardmoor$Editor") true := ⟨_, rfl, by decide +kernel, tb2_of 66 rfl rfl, rfl, by decide +kernel⟩
theorem flX11_47 : x_FL RX11 47 11 5 (.object "Shardmoor$Indexes") true := ⟨_, rfl, by decide +kernel, tb2_of 67 rfl rfl, rfl, by decide +kernel⟩
theorem flX11_54 : x_FL RX11 54 11 6 (.object "Shardmoor$Query") true := ⟨_, rfl, by decide +kernel, tb2_of 68 rfl rfl, rfl, by decide +kernel⟩
theorem flX11_61 : x_FL RX11 61 11 7 (.object "Shardmoor$Groups") true := ⟨_, rfl, by decide +kernel, tb2_of 69 rfl rfl, rfl, by decide +kernel⟩
theorem flX11_65 : x_FL RX11 65 11 8 .int false := ⟨_, rfl, by decide +kernel, tb2_of 70 rfl rfl, rfl, by decide +kernel⟩
theorem flX11_69 : x_FL RX11 69 11 9 .int false := ⟨_, rfl, by decide +kernel, tb2_of 71 rfl rfl, rfl, by decide +kernel⟩
theorem flX0_9 : x_FL RX0 9 0 0 (.array .int) true := ⟨_, rfl, by decide +kernel, tb1_of 97 rfl rfl, rfl, by decide +kernel⟩
theorem flX0_15 : x_FL RX0 15 0 1 (.array .int) true := ⟨_, rfl, by decide +kernel, tb1_of 98 rfl rfl, rfl, by decide +kernel⟩
theorem flX0_18 : x_FL RX0 18 0 2 (.array .int) true := ⟨_, rfl, by decide +kernel, tb1_of 99 rfl rfl, rfl, by decide +kernel⟩
theorem flX0_21 : x_FL RX0 21 0 3 (.array .boolean) true := ⟨_, rfl, by decide +kernel, tb1_of 100 rfl rfl, rfl, by decide +kernel⟩
theorem flX0_25 : x_FL RX0 25 0 4 (.array .int) true := ⟨_, rfl, by decide +kernel, tb1_of 101 rfl rfl, rfl, by decide +kernel⟩
theorem flX0_28 : x_FL RX0 28 0 5 (.array .int) true := ⟨_, rfl, by decide +kernel, tb1_of 102 rfl rfl, rfl, by decide +kernel⟩
theorem flX0_31 : x_FL RX0 31 0 6 (.array .int) true := ⟨_, rfl, by decide +kernel, tb1_of 103 rfl rfl, rfl, by decide +kernel⟩
theorem flX0_34 : x_FL RX0 34 0 7 .int false := ⟨_, rfl, by decide +kernel, tb1_of 104 rfl rfl, rfl, by decide +kernel⟩
theorem flX0_38 : x_FL RX0 38 0 8 .int false := ⟨_, rfl, by decide +kernel, tb1_of 105 rfl rfl, rfl, by decide +kernel⟩
theorem flX0_41 : x_FL RX0 41 0 9 .int false := ⟨_, rfl, by decide +kernel, tb1_of 106 rfl rfl, rfl, by decide +kernel⟩
theorem flX0_44 : x_FL RX0 44 0 10 .boolean false := ⟨_, rfl, by decide +kernel, tb1_of 107 rfl rfl, rfl, by decide +kernel⟩
theorem flX0_48 : x_FL RX0 48 0 11 .int false := ⟨_, rfl, by decide +kernel, tb1_of 108 rfl rfl, rfl, by decide +kernel⟩
theorem flX0_51 : x_FL RX0 51 0 12 .int false := ⟨_, rfl, by decide +kernel, tb1_of 109 rfl rfl, rfl, by decide +kernel⟩
theorem flX1_14 : x_FL RX1 14 1 0 (.object "Shardmoor$Value") true := ⟨_, rfl, by decide +kernel, tb1_of 164 rfl rfl, rfl, by decide +kernel⟩
theorem flX1_20 : x_FL RX1 20 1 1 (.object "Shardmoor$Value") true := ⟨_, rfl, by decide +kernel, tb1_of 165 rfl rfl, rfl, by decide +kernel⟩
theorem flX2_14 : x_FL RX2 14 2 0 (.object "Shardmoor$Value") true := ⟨_, rfl, by decide +kernel, tb1_of 227 rfl rfl, rfl, by decide +kernel⟩
theorem flX2_20 : x_FL RX2 20 2 1 .int false := ⟨_, rfl, by decide +kernel, tb1_of 228 rfl rfl, rfl, by decide +kernel⟩
theorem flX2_24 : x_FL RX2 24 2 2 .int false := ⟨_, rfl, by decide +kernel, tb1_of 230 rfl rfl, rfl, by decide +kernel⟩
theorem flX3_11 : x_FL RX3 11 3 0 (.array .long) true := ⟨_, rfl, by decide +kernel, tb2_of 39 rfl rfl, rfl, by decide +kernel⟩
theorem flX3_15 : x_FL RX3 15 3 1 (.array .int) true := ⟨_, rfl, by decide +kernel, tb2_of 40 rfl rfl, rfl, by decide +kernel⟩
theorem flX3_19 : x_FL RX3 19 3 2 (.array .long) true := ⟨_, rfl, by decide +kernel, tb2_of 41 rfl rfl, rfl, by decide +kernel⟩
theorem flX3_22 : x_FL RX3 22 3 3 (.array .int) true := ⟨_, rfl, by decide +kernel, tb2_of 42 rfl rfl, rfl, by decide +kernel⟩
theorem flX3_25 : x_FL RX3 25 3 4 (.array .int) true := ⟨_, rfl, by decide +kernel, tb2_of 43 rfl rfl, rfl, by decide +kernel⟩
theorem flX3_31 : x_FL RX3 31 3 5 (.object "Shardmoor$Places") true := ⟨_, rfl, by decide +kernel, tb2_of 44 rfl rfl, rfl, by decide +kernel⟩
theorem flX3_35 : x_FL RX3 35 3 6 .int false := ⟨_, rfl, by decide +kernel, tb2_of 45 rfl rfl, rfl, by decide +kernel⟩
theorem flX4_9 : x_FL RX4 9 4 0 (.array .int) true := ⟨_, rfl, by decide +kernel, tb1_of 190 rfl rfl, rfl, by decide +kernel⟩
theorem flX4_15 : x_FL RX4 15 4 1 (.array .boolean) true := ⟨_, rfl, by decide +kernel, tb1_of 191 rfl rfl, rfl, by decide +kernel⟩
theorem flX4_19 : x_FL RX4 19 4 2 (.array .int) true := ⟨_, rfl, by decide +kernel, tb1_of 192 rfl rfl, rfl, by decide +kernel⟩
theorem flX4_22 : x_FL RX4 22 4 3 (.array .int) true := ⟨_, rfl, by decide +kernel, tb1_of 193 rfl rfl, rfl, by decide +kernel⟩
theorem flX4_25 : x_FL RX4 25 4 4 (.array .int) true := ⟨_, rfl, by decide +kernel, tb1_of 194 rfl rfl, rfl, by decide +kernel⟩
theorem flX4_31 : x_FL RX4 31 4 5 (.object "Shardmoor$Places") true := ⟨_, rfl, by decide +kernel, tb1_of 195 rfl rfl, rfl, by decide +kernel⟩
theorem flX4_35 : x_FL RX4 35 4 6 .int false := ⟨_, rfl, by decide +kernel, tb1_of 196 rfl rfl, rfl, by decide +kernel⟩
theorem flX5_11 : x_FL RX5 11 5 0 (.array (.object "Shardmoor$Value")) true := ⟨_, rfl, by decide +kernel, tb1_of 52 rfl rfl, rfl, by decide +kernel⟩
theorem flX5_20 : x_FL RX5 20 5 1 (.object "Shardmoor$Value") true := ⟨_, rfl, by decide +kernel, tb1_of 53 rfl rfl, rfl, by decide +kernel⟩
theorem flX5_24 : x_FL RX5 24 5 2 .int false := ⟨_, rfl, by decide +kernel, tb1_of 54 rfl rfl, rfl, by decide +kernel⟩
theorem flX6_9 : x_FL RX6 9 6 0 (.array .int) true := ⟨_, rfl, by decide +kernel, tb1_of 183 rfl rfl, rfl, by decide +kernel⟩
theorem flX6_15 : x_FL RX6 15 6 1 .int false := ⟨_, rfl, by decide +kernel, tb1_of 184 rfl rfl, rfl, by decide +kernel⟩
theorem flX7_11 : x_FL RX7 11 7 0 (.array (.object "Shardmoor$Filter")) true := ⟨_, rfl, by decide +kernel, tb2_of 0 rfl rfl, rfl, by decide +kernel⟩
theorem flX7_18 : x_FL RX7 18 7 1 (.object "Shardmoor$Filter") true := ⟨_, rfl, by decide +kernel, tb2_of 1 rfl rfl, rfl, by decide +kernel⟩
theorem flX7_25 : x_FL RX7 25 7 2 (.object "Shardmoor$Places") true := ⟨_, rfl, by decide +kernel, tb2_of 2 rfl rfl, rfl, by decide +kernel⟩
theorem flX7_29 : x_FL RX7 29 7 3 (.array .int) true := ⟨_, rfl, by decide +kernel, tb2_of 3 rfl rfl, rfl, by decide +kernel⟩
theorem flX7_33 : x_FL RX7 33 7 4 .int false := ⟨_, rfl, by decide +kernel, tb2_of 4 rfl rfl, rfl, by decide +kernel⟩
theorem flX7_37 : x_FL RX7 37 7 5 .int false := ⟨_, rfl, by decide +kernel, tb2_of 5 rfl rfl, rfl, by decide +kernel⟩
theorem flX7_40 : x_FL RX7 40 7 6 .int false := ⟨_, rfl, by decide +kernel, tb2_of 6 rfl rfl, rfl, by decide +kernel⟩
theorem flX7_43 : x_FL RX7 43 7 7 .int false := ⟨_, rfl, by decide +kernel, tb2_of 7 rfl rfl, rfl, by decide +kernel⟩
theorem flX7_46 : x_FL RX7 46 7 8 .int false := ⟨_, rfl, by decide +kernel, tb2_of 8 rfl rfl, rfl, by decide +kernel⟩
theorem flX7_49 : x_FL RX7 49 7 9 .boolean false := ⟨_, rfl, by decide +kernel, tb2_of 9 rfl rfl, rfl, by decide +kernel⟩
theorem flX8_11 : x_FL RX8 11 8 0 (.array (.object "Shardmoor$Value")) true := ⟨_, rfl, by decide +kernel, tb1_of 70 rfl rfl, rfl, by decide +kernel⟩
theorem flX8_17 : x_FL RX8 17 8 1 (.array .boolean) true := ⟨_, rfl, by decide +kernel, tb1_of 71 rfl rfl, rfl, by decide +kernel⟩
theorem flX8_21 : x_FL RX8 21 8 2 (.array .int) true := ⟨_, rfl, by decide +kernel, tb1_of 72 rfl rfl, rfl, by decide +kernel⟩
theorem flX8_28 : x_FL RX8 28 8 3 (.object "Shardmoor$Value") true := ⟨_, rfl, by decide +kernel, tb1_of 73 rfl rfl, rfl, by decide +kernel⟩
theorem flX8_32 : x_FL RX8 32 8 4 .int false := ⟨_, rfl, by decide +kernel, tb1_of 74 rfl rfl, rfl, by decide +kernel⟩
theorem flX9_9 : x_FL RX9 9 9 0 (.array .int) true := ⟨_, rfl, by decide +kernel, tb1_of 143 rfl rfl, rfl, by decide +kernel⟩
theorem flX9_15 : x_FL RX9 15 9 1 (.array .int) true := ⟨_, rfl, by decide +kernel, tb1_of 144 rfl rfl, rfl, by decide +kernel⟩
theorem flX9_18 : x_FL RX9 18 9 2 (.array .int) true := ⟨_, rfl, by decide +kernel, tb1_of 145 rfl rfl, rfl, by decide +kernel⟩
theorem flX9_21 : x_FL RX9 21 9 3 .int false := ⟨_, rfl, by decide +kernel, tb1_of 146 rfl rfl, rfl, by decide +kernel⟩
theorem flX10_9 : x_FL RX10 9 10 1 .int false := ⟨_, rfl, by decide +kernel, tb1_of 44 rfl rfl, rfl, by decide +kernel⟩
theorem flX10_15 : x_FL RX10 15 10 0 (.array .int) true := ⟨_, rfl, by decide +kernel, tb1_of 43 rfl rfl, rfl, by decide +kernel⟩
theorem flX12_7 : x_FL RX12 7 12 0 (.array .int) true := ⟨_, rfl, by decide +kernel, tb6_of 209 rfl rfl, rfl, by decide +kernel⟩
theorem flX12_13 : x_FL RX12 13 12 1 (.array .boolean) true := ⟨_, rfl, by decide +kernel, tb6_of 210 rfl rfl, rfl, by decide +kernel⟩
theorem flX12_17 : x_FL RX12 17 12 4 (.array .int) true := ⟨_, rfl, by decide +kernel, tb6_of 213 rfl rfl, rfl, by decide +kernel⟩
theorem flX12_20 : x_FL RX12 20 12 6 (.array .int) true := ⟨_, rfl, by decide +kernel, tb6_of 215 rfl rfl, rfl, by decide +kernel⟩
theorem flX12_23 : x_FL RX12 23 12 8 (.array .int) true := ⟨_, rfl, by decide +kernel, tb6_of 217 rfl rfl, rfl, by decide +kernel⟩
theorem flX12_26 : x_FL RX12 26 12 9 (.array .int) true := ⟨_, rfl, by decide +kernel, tb6_of 218 rfl rfl, rfl, by decide +kernel⟩
theorem flX12_29 : x_FL RX12 29 12 10 (.array .boolean) true := ⟨_, rfl, by decide +kernel, tb6_of 219 rfl rfl, rfl, by decide +kernel⟩
theorem flX12_32 : x_FL RX12 32 12 11 (.array .boolean) true := ⟨_, rfl, by decide +kernel, tb6_of 220 rfl rfl, rfl, by decide +kernel⟩
theorem flX12_35 : x_FL RX12 35 12 12 (.array .int) true := ⟨_, rfl, by decide +kernel, tb6_of 221 rfl rfl, rfl, by decide +kernel⟩
theorem flX12_38 : x_FL RX12 38 12 13 (.array .int) true := ⟨_, rfl, by decide +kernel, tb6_of 222 rfl rfl, rfl, by decide +kernel⟩
theorem flX12_41 : x_FL RX12 41 12 15 (.array .long) true := ⟨_, rfl, by decide +kernel, tb6_of 224 rfl rfl, rfl, by decide +kernel⟩
theorem flX12_45 : x_FL RX12 45 12 16 (.array .int) true := ⟨_, rfl, by decide +kernel, tb6_of 225 rfl rfl, rfl, by decide +kernel⟩
theorem flX12_48 : x_FL RX12 48 12 17 (.array .int) true := ⟨_, rfl, by decide +kernel, tb6_of 226 rfl rfl, rfl, by decide +kernel⟩
theorem flX12_51 : x_FL RX12 51 12 19 (.array .int) true := ⟨_, rfl, by decide +kernel, tb6_of 228 rfl rfl, rfl, by decide +kernel⟩
theorem flX12_54 : x_FL RX12 54 12 20 (.array .int) true := ⟨_, rfl, by decide +kernel, tb6_of 229 rfl rfl, rfl, by decide +kernel⟩
theorem flX12_57 : x_FL RX12 57 12 22 (.array .int) true := ⟨_, rfl, by decide +kernel, tb6_of 231 rfl rfl, rfl, by decide +kernel⟩
theorem flX12_60 : x_FL RX12 60 12 23 (.array .int) true := ⟨_, rfl, by decide +kernel, tb6_of 232 rfl rfl, rfl, by decide +kernel⟩
theorem flX12_63 : x_FL RX12 63 12 25 .int false := ⟨_, rfl, by decide +kernel, tb6_of 234 rfl rfl, rfl, by decide +kernel⟩
theorem flX12_67 : x_FL RX12 67 12 27 (.array .boolean) true := ⟨_, rfl, by decide +kernel, tb6_of 236 rfl rfl, rfl, by decide +kernel⟩
theorem flX12_70 : x_FL RX12 70 12 28 (.array .int) true := ⟨_, rfl, by decide +kernel, tb6_of 237 rfl rfl, rfl, by decide +kernel⟩
theorem flX12_73 : x_FL RX12 73 12 31 .int false := ⟨_, rfl, by decide +kernel, tb7_of 0 rfl rfl, rfl, by decide +kernel⟩
theorem flX12_76 : x_FL RX12 76 12 32 (.array .int) true := ⟨_, rfl, by decide +kernel, tb7_of 1 rfl rfl, rfl, by decide +kernel⟩
theorem flX12_79 : x_FL RX12 79 12 33 (.array .int) true := ⟨_, rfl, by decide +kernel, tb7_of 2 rfl rfl, rfl, by decide +kernel⟩
theorem flX12_82 : x_FL RX12 82 12 34 (.array .int) true := ⟨_, rfl, by decide +kernel, tb7_of 3 rfl rfl, rfl, by decide +kernel⟩
theorem flX12_85 : x_FL RX12 85 12 35 (.array .int) true := ⟨_, rfl, by decide +kernel, tb7_of 4 rfl rfl, rfl, by decide +kernel⟩
theorem flX12_88 : x_FL RX12 88 12 36 (.array .int) true := ⟨_, rfl, by decide +kernel, tb7_of 5 rfl rfl, rfl, by decide +kernel⟩
theorem flX12_91 : x_FL RX12 91 12 38 .int false := ⟨_, rfl, by decide +kernel, tb7_of 7 rfl rfl, rfl, by decide +kernel⟩
theorem flX12_94 : x_FL RX12 94 12 40 (.array .int) true := ⟨_, rfl, by decide +kernel, tb7_of 9 rfl rfl, rfl, by decide +kernel⟩
theorem flX12_97 : x_FL RX12 97 12 42 (.array .int) true := ⟨_, rfl, by decide +kernel, tb7_of 11 rfl rfl, rfl, by decide +kernel⟩
theorem flX12_100 : x_FL RX12 100 12 43 (.array .int) true := ⟨_, rfl, by decide +kernel, tb7_of 12 rfl rfl, rfl, by decide +kernel⟩
theorem flX12_103 : x_FL RX12 103 12 44 (.array .long) true := ⟨_, rfl, by decide +kernel, tb7_of 13 rfl rfl, rfl, by decide +kernel⟩
theorem flX12_106 : x_FL RX12 106 12 45 (.array .long) true := ⟨_, rfl, by decide +kernel, tb7_of 14 rfl rfl, rfl, by decide +kernel⟩
theorem flX12_109 : x_FL RX12 109 12 48 (.array .int) true := ⟨_, rfl, by decide +kernel, tb7_of 17 rfl rfl, rfl, by decide +kernel⟩
theorem flX12_112 : x_FL RX12 112 12 49 (.array .int) true := ⟨_, rfl, by decide +kernel, tb7_of 18 rfl rfl, rfl, by decide +kernel⟩
theorem flX12_118 : x_FL RX12 118 12 47 .int false := ⟨_, rfl, by decide +kernel, tb7_of 16 rfl rfl, rfl, by decide +kernel⟩
theorem flX12_146 : x_FL RX12 146 12 3 .int false := ⟨_, rfl, by decide +kernel, tb6_of 212 rfl rfl, rfl, by decide +kernel⟩
theorem flX12_152 : x_FL RX12 152 12 41 .int false := ⟨_, rfl, by decide +kernel, tb7_of 10 rfl rfl, rfl, by decide +kernel⟩
theorem flX12_179 : x_FL RX12 179 12 7 .int false := ⟨_, rfl, by decide +kernel, tb6_of 216 rfl rfl, rfl, by decide +kernel⟩
theorem flX12_200 : x_FL RX12 200 12 24 .int false := ⟨_, rfl, by decide +kernel, tb6_of 233 rfl rfl, rfl, by decide +kernel⟩
theorem flX12_203 : x_FL RX12 203 12 29 .int false := ⟨_, rfl, by decide +kernel, tb6_of 238 rfl rfl, rfl, by decide +kernel⟩
theorem flX12_206 : x_FL RX12 206 12 30 .boolean false := ⟨_, rfl, by decide +kernel, tb6_of 239 rfl rfl, rfl, by decide +kernel⟩
theorem flX12_220 : x_FL RX12 220 12 37 .int false := ⟨_, rfl, by decide +kernel, tb7_of 6 rfl rfl, rfl, by decide +kernel⟩
theorem flX12_227 : x_FL RX12 227 12 2 .int false := ⟨_, rfl, by decide +kernel, tb6_of 211 rfl rfl, rfl, by decide +kernel⟩
theorem flX12_247 : x_FL RX12 247 12 5 .int false := ⟨_, rfl, by decide +kernel, tb6_of 214 rfl rfl, rfl, by decide +kernel⟩
theorem flX12_270 : x_FL RX12 270 12 18 .int false := ⟨_, rfl, by decide +kernel, tb6_of 227 rfl rfl, rfl, by decide +kernel⟩
theorem flX12_279 : x_FL RX12 279 12 14 .int false := ⟨_, rfl, by decide +kernel, tb6_of 223 rfl rfl, rfl, by decide +kernel⟩
theorem flX12_308 : x_FL RX12 308 12 21 .int false := ⟨_, rfl, by decide +kernel, tb6_of 230 rfl rfl, rfl, by decide +kernel⟩
theorem flX12_314 : x_FL RX12 314 12 46 .int false := ⟨_, rfl, by decide +kernel, tb7_of 15 rfl rfl, rfl, by decide +kernel⟩
theorem flX12_328 : x_FL RX12 328 12 26 .int false := ⟨_, rfl, by decide +kernel, tb6_of 235 rfl rfl, rfl, by decide +kernel⟩
theorem flX12_340 : x_FL RX12 340 12 39 .int false := ⟨_, rfl, by decide +kernel, tb7_of 8 rfl rfl, rfl, by decide +kernel⟩
theorem fnX6_37 : x_FN RX6 37 10 1 := ⟨_, rfl, by decide +kernel, List.mem_of_getElem? (i := 0) (by decide +kernel)⟩
theorem fnX7_79 : x_FN RX7 79 2 1 := ⟨_, rfl, by decide +kernel, List.mem_of_getElem? (i := 5) (by decide +kernel)⟩
def iX0_beginChunks : List (Nat × Instr × Nat) := [(0, .iconst 0, 1), (1, .istore_n 1, 1), (2, .iload_n 1, 1), (3, .iconst 3, 1), (4, .if_icmp .ge 44, 3), (7, .aload_n 0, 1), (8, .getfield 9, 3), (11, .iload_n 1, 1), (12, .iload_n 1, 1), (13, .ifCond .ne 7, 3), (16, .iconst 0, 1), (17, .goto 10, 3), (20, .sipush 333, 3), (23, .iload_n 1, 1), (24, .imul, 1), (25, .iconst 1, 1), (26, .iadd, 1), (27, .iastore, 1), (28, .aload_n 0, 1), (29, .getfield 15, 3), (32, .iload_n 1, 1), (33, .iload_n 1, 1), (34, .iastore, 1), (35, .aload_n 0, 1), (36, .getfield 18, 3), (39, .iload_n 1, 1), (40, .iconst 0, 1), (41, .iastore, 1), (42, .iinc 1 1, 3), (45, .goto (-43), 3), (48, .aload_n 0, 1), (49, .iconst 3, 1), (50, .putfield 34, 3), (53, .return_, 1)]
def MX0_beginChunks : x_MT := (RX0, yX0_beginChunks, cX0_beginChunks, 2, none, 0, 0, iX0_beginChunks)
theorem okX0_beginChunks : x_MOk MX0_beginChunks := ⟨by decide +kernel, tb1_of 96 rfl rfl, by decide +kernel, rfl, tb1_of 5 rfl rfl, by decide +kernel⟩
def iX0_init : List (Nat × Instr × Nat) := [(0, .aload_n 0, 1), (1, .invokespecial 3, 3), (4, .aload_n 0, 1), (5, .bipush 12, 2), (7, .newarray .int, 2), (9, .putfield 9, 3), (12, .aload_n 0, 1), (13, .bipush 12, 2), (15, .newarray .int, 2), (17, .putfield 15, 3), (20, .aload_n 0, 1), (21, .iconst 3, 1), (22, .newarray .int, 2), (24, .putfield 18, 3), (27, .aload_n 0, 1), (28, .bipush 100, 2), (30, .newarray .boolean, 2), (32, .putfield 21, 3), (35, .aload_n 0, 1), (36, .iconst 2, 1), (37, .newarray .int, 2), (39, .putfield 25, 3), (42, .aload_n 0, 1), (43, .iconst 2, 1), (44, .newarray .int, 2), (46, .putfield 28, 3), (49, .aload_n 0, 1), (50, .bipush 100, 2), (52, .newarray .int, 2), (54, .putfield 31, 3), (57, .aload_n 0, 1), (58, .iconst 0, 1), (59, .putfield 34, 3), (62, .aload_n 0, 1), (63, .iconst 1, 1), (64, .putfield 38, 3), (67, .aload_n 0, 1), (68, .iconst 0, 1), (69, .putfield 41, 3), (72, .aload_n 0, 1), (73, .iconst 0, 1), (74, .putfield 44, 3), (77, .aload_n 0, 1), (78, .iconst (-1), 1), (79, .putfield 48, 3), (82, .aload_n 0, 1), (83, .iconst (-1), 1), (84, .putfield 51, 3), (87, .aload_n 0, 1), (88, .invokevirtual 54, 3), (91, .iconst 0, 1), (92, .istore_n 1, 1), (93, .iload_n 1, 1), (94, .aload_n 0, 1), (95, .getfield 25, 3), (98, .arraylength, 1), (99, .if_icmp .ge 19, 3), (102, .aload_n 0, 1), (103, .getfield 25, 3), (106, .iload_n 1, 1), (107, .aload_n 0, 1), (108, .getfield 38, 3), (111, .iastore, 1), (112, .iinc 1 1, 3), (115, .goto (-22), 3), (118, .return_, 1)]
def MX0_init : x_MT := (RX0, yX0_init, cX0_init, 2, none, 1, 21, iX0_init)
theorem okX0_init : x_MOk MX0_init := ⟨by decide +kernel, tb1_of 91 rfl rfl, by decide +kernel, rfl, tb1_of 5 rfl rfl, by decide +kernel⟩
def iX0_size : List (Nat × Instr × Nat) := [(0, .aload_n 0, 1), (1, .getfield 34, 3), (4, .ireturn, 1)]
def MX0_size : x_MT := (RX0, yX0_size, cX0_size, 1, some .int, 0, 0, iX0_size)
theorem okX0_size : x_MOk MX0_size := ⟨by decide +kernel, tb5_of 216 rfl rfl, by decide +kernel, rfl, tb1_of 5 rfl rfl, by decide +kernel⟩
def iX0_has : List (Nat × Instr × Nat) := [(0, .iload_n 1, 1), (1, .ifCond .lt 21, 3), (4, .iload_n 1, 1), (5, .aload_n 0, 1), (6, .getfield 34, 3), (9, .if_icmp .ge 13, 3), (12, .iload_n 1, 1), (13, .bipush 12, 2), (15, .if_icmp .ge 7, 3), (18, .iconst 1, 1), (19, .goto 4, 3), (22, .iconst 0, 1), (23, .ireturn, 1)]
def MX0_has : x_MT := (RX0, yX0_has, cX0_has, 2, some .boolean, 0, 0, iX0_has)
theorem okX0_has : x_MOk MX0_has := ⟨by decide +kernel, tb4_of 34 rfl rfl, by decide +kernel, rfl, tb1_of 5 rfl rfl, by decide +kernel⟩
def iX0_firstOf : List (Nat × Instr × Nat) := [(0, .aload_n 0, 1), (1, .iload_n 1, 1), (2, .invokevirtual 57, 3), (5, .ifCond .eq 12, 3), (8, .aload_n 0, 1), (9, .getfield 9, 3), (12, .iload_n 1, 1), (13, .iaload, 1), (14, .goto 6, 3), (17, .sipush 1000, 3), (20, .ireturn, 1)]
def MX0_firstOf : x_MT := (RX0, yX0_firstOf, cX0_firstOf, 2, some .int, 1, 21, iX0_firstOf)
theorem okX0_firstOf : x_MOk MX0_firstOf := ⟨by decide +kernel, tb4_of 30 rfl rfl, by decide +kernel, rfl, tb1_of 5 rfl rfl, by decide +kernel⟩
def iX0_endOf : List (Nat × Instr × Nat) := [(0, .aload_n 0, 1), (1, .iload_n 1, 1), (2, .iconst 1, 1), (3, .iadd, 1), (4, .invokevirtual 61, 3), (7, .ireturn, 1)]
def MX0_endOf : x_MT := (RX0, yX0_endOf, cX0_endOf, 2, some .int, 2, 42, iX0_endOf)
theorem okX0_endOf : x_MOk MX0_endOf := ⟨by decide +kernel, tb5_of 207 rfl rfl, by decide +kernel, rfl, tb1_of 5 rfl rfl, by decide +kernel⟩
def iX0_ownerOf : List (Nat × Instr × Nat) := [(0, .aload_n 0, 1), (1, .iload_n 1, 1), (2, .invokevirtual 57, 3), (5, .ifCond .eq 12, 3), (8, .aload_n 0, 1), (9, .getfield 15, 3), (12, .iload_n 1, 1), (13, .iaload, 1), (14, .goto 4, 3), (17, .iconst (-1), 1), (18, .ireturn, 1)]
def MX0_ownerOf : x_MT := (RX0, yX0_ownerOf, cX0_ownerOf, 2, some .int, 1, 21, iX0_ownerOf)
theorem okX0_ownerOf : x_MOk MX0_ownerOf := ⟨by decide +kernel, tb4_of 38 rfl rfl, by decide +kernel, rfl, tb1_of 5 rfl rfl, by decide +kernel⟩
def iX10_signAt : List (Nat × Instr × Nat) := [(0, .iload_n 1, 1), (1, .ifCond .lt 29, 3), (4, .iload_n 1, 1), (5, .aload_n 0, 1), (6, .getfield 9, 3), (9, .if_icmp .ge 21, 3), (12, .iload_n 1, 1), (13, .aload_n 0, 1), (14, .getfield 15, 3), (17, .arraylength, 1), (18, .if_icmp .ge 12, 3), (21, .aload_n 0, 1), (22, .getfield 15, 3), (25, .iload_n 1, 1), (26, .iaload, 1), (27, .goto 4, 3), (30, .iconst 0, 1), (31, .ireturn, 1)]
def MX10_signAt : x_MT := (RX10, yX10_signAt, cX10_signAt, 2, some .int, 0, 0, iX10_signAt)
theorem okX10_signAt : x_MOk MX10_signAt := ⟨by decide +kernel, tb2_of 149 rfl rfl, by decide +kernel, rfl, tb1_of 3 rfl rfl, by decide +kernel⟩
def iX10_turnOf : List (Nat × Instr × Nat) := [(0, .iload_n 0, 1), (1, .sipush 4000, 3), (4, .if_icmp .lt 5, 3), (7, .iconst 1, 1), (8, .ireturn, 1), (9, .iload_n 0, 1), (10, .ifCond .ne 7, 3), (13, .iconst (-1), 1), (14, .goto 4, 3), (17, .iconst 0, 1), (18, .ireturn, 1)]
def MX10_turnOf : x_MT := (RX10, yX10_turnOf, cX10_turnOf, 1, some .int, 0, 0, iX10_turnOf)
theorem okX10_turnOf : x_MOk MX10_turnOf := ⟨by decide +kernel, tb2_of 152 rfl rfl, by decide +kernel, rfl, tb1_of 3 rfl rfl, by decide +kernel⟩
def iX10_slotOf : List (Nat × Instr × Nat) := [(0, .iconst 0, 1), (1, .istore_n 3, 1), (2, .iload_n 1, 1), (3, .iconst 1, 1), (4, .iadd, 1), (5, .istore 4, 2), (7, .iload 4, 2), (9, .aload_n 0, 1), (10, .getfield 9, 3), (13, .if_icmp .ge 52, 3), (16, .aload_n 0, 1), (17, .iload 4, 2), (19, .invokevirtual 19, 3), (22, .istore 5, 2), (24, .iload_n 3, 1), (25, .ifCond .ne 26, 3), (28, .iload 5, 2), (30, .ifCond .eq 18, 3), (33, .iload 5, 2), (35, .bipush 9, 2), (37, .if_icmp .ge 14, 3), (40, .iload 5, 2), (42, .iconst 1, 1), (43, .iload_n 2, 1), (44, .iadd, 1), (45, .if_icmp .lt 6, 3), (48, .iload 4, 2), (50, .ireturn, 1), (51, .iload_n 3, 1), (52, .iload 5, 2), (54, .invokestatic 23, 3), (57, .iadd, 1), (58, .istore_n 3, 1), (59, .iinc 4 1, 3), (62, .goto (-55), 3), (65, .aload_n 0, 1), (66, .getfield 9, 3), (69, .ireturn, 1)]
def MX10_slotOf : x_MT := (RX10, yX10_slotOf, cX10_slotOf, 6, some .int, 1, 21, iX10_slotOf)
theorem okX10_slotOf : x_MOk MX10_slotOf := ⟨by decide +kernel, tb2_of 145 rfl rfl, by decide +kernel, rfl, tb1_of 3 rfl rfl, by decide +kernel⟩
def iX10_placeOf : List (Nat × Instr × Nat) := [(0, .aload_n 0, 1), (1, .iload_n 1, 1), (2, .iload_n 2, 1), (3, .invokevirtual 32, 3), (6, .istore_n 3, 1), (7, .aload_n 0, 1), (8, .iload_n 3, 1), (9, .invokevirtual 19, 3), (12, .iconst 1, 1), (13, .iload_n 2, 1), (14, .iadd, 1), (15, .if_icmp .ne 9, 3), (18, .iload_n 3, 1), (19, .iconst 1, 1), (20, .iadd, 1), (21, .goto 4, 3), (24, .iconst (-1), 1), (25, .ireturn, 1)]
def MX10_placeOf : x_MT := (RX10, yX10_placeOf, cX10_placeOf, 4, some .int, 2, 46, iX10_placeOf)
theorem okX10_placeOf : x_MOk MX10_placeOf := ⟨by decide +kernel, tb2_of 141 rfl rfl, by decide +kernel, rfl, tb1_of 3 rfl rfl, by decide +kernel⟩
def iX10_kindAt : List (Nat × Instr × Nat) := [(0, .aload_n 0, 1), (1, .iload_n 1, 1), (2, .invokevirtual 19, 3), (5, .istore_n 2, 1), (6, .iload_n 2, 1), (7, .sipush 5000, 3), (10, .if_icmp .lt 5, 3), (13, .iconst 4, 1), (14, .ireturn, 1), (15, .iload_n 2, 1), (16, .sipush 4000, 3), (19, .if_icmp .lt 5, 3), (22, .iconst 3, 1), (23, .ireturn, 1), (24, .iload_n 2, 1), (25, .sipush 3000, 3), (28, .if_icmp .lt 5, 3), (31, .iconst 2, 1), (32, .ireturn, 1), (33, .iload_n 2, 1), (34, .sipush 1001, 3), (37, .if_icmp .lt 7, 3), (40, .iconst 1, 1), (41, .goto 4, 3), (44, .iconst 0, 1), (45, .ireturn, 1)]
def MX10_kindAt : x_MT := (RX10, yX10_kindAt, cX10_kindAt, 3, some .int, 1, 21, iX10_kindAt)
theorem okX10_kindAt : x_MOk MX10_kindAt := ⟨by decide +kernel, tb2_of 166 rfl rfl, by decide +kernel, rfl, tb1_of 3 rfl rfl, by decide +kernel⟩
def iX10_numberAt : List (Nat × Instr × Nat) := [(0, .aload_n 0, 1), (1, .iload_n 1, 1), (2, .invokevirtual 19, 3), (5, .sipush 2000, 3), (8, .isub, 1), (9, .ireturn, 1)]
def MX10_numberAt : x_MT := (RX10, yX10_numberAt, cX10_numberAt, 2, some .int, 1, 21, iX10_numberAt)
theorem okX10_numberAt : x_MOk MX10_numberAt := ⟨by decide +kernel, tb2_of 198 rfl rfl, by decide +kernel, rfl, tb1_of 3 rfl rfl, by decide +kernel⟩
def iX10_wordAt : List (Nat × Instr × Nat) := [(0, .aload_n 0, 1), (1, .iload_n 1, 1), (2, .invokevirtual 19, 3), (5, .sipush 3000, 3), (8, .isub, 1), (9, .ireturn, 1)]
def MX10_wordAt : x_MT := (RX10, yX10_wordAt, cX10_wordAt, 2, some .int, 1, 21, iX10_wordAt)
theorem okX10_wordAt : x_MOk MX10_wordAt := ⟨by decide +kernel, tb4_of 26 rfl rfl, by decide +kernel, rfl, tb1_of 3 rfl rfl, by decide +kernel⟩
def iX0_keyOf : List (Nat × Instr × Nat) := [(0, .aload_n 1, 1), (1, .iconst 0, 1), (2, .aload_n 0, 1), (3, .getfield 41, 3), (6, .invokevirtual 65, 3), (9, .istore_n 2, 1), (10, .aload_n 1, 1), (11, .iload_n 2, 1), (12, .invokevirtual 71, 3), (15, .istore_n 3, 1), (16, .aload_n 0, 1), (17, .getfield 44, 3), (20, .ifCond .ne 22, 3), (23, .iload_n 3, 1), (24, .iconst 1, 1), (25, .if_icmp .ne 15, 3), (28, .iconst 0, 1), (29, .aload_n 1, 1), (30, .iload_n 2, 1), (31, .invokevirtual 74, 3), (34, .invokestatic 77, 3), (37, .goto 4, 3), (40, .iconst 0, 1), (41, .ireturn, 1), (42, .iload_n 3, 1), (43, .iconst 1, 1), (44, .if_icmp .ne 21, 3), (47, .sipush 7919, 3), (50, .aload_n 1, 1), (51, .iload_n 2, 1), (52, .invokevirtual 74, 3), (55, .sipush 1000, 3), (58, .iadd, 1), (59, .imul, 1), (60, .sipush 1000, 3), (63, .irem, 1), (64, .ireturn, 1), (65, .iload_n 3, 1), (66, .iconst 2, 1), (67, .if_icmp .ne 22, 3), (70, .ldc 82, 2), (72, .aload_n 1, 1), (73, .iload_n 2, 1), (74, .invokevirtual 83, 3), (77, .imul, 1), (78, .sipush 500, 3), (81, .iadd, 1), (82, .sipush 1000, 3), (85, .irem, 1), (86, .goto 6, 3), (89, .sipush 250, 3), (92, .ireturn, 1)]
def MX0_keyOf : x_MT := (RX0, yX0_keyOf, cX0_keyOf, 4, some .int, 3, 69, iX0_keyOf)
theorem okX0_keyOf : x_MOk MX0_keyOf := ⟨by decide +kernel, tb4_of 17 rfl rfl, by decide +kernel, rfl, tb1_of 5 rfl rfl, by decide +kernel⟩
def iX0_chunkOf : List (Nat × Instr × Nat) := [(0, .aload_n 0, 1), (1, .aload_n 1, 1), (2, .invokevirtual 86, 3), (5, .istore_n 2, 1), (6, .iconst 0, 1), (7, .istore_n 3, 1), (8, .iconst 1, 1), (9, .istore 4, 2), (11, .iload 4, 2), (13, .aload_n 0, 1), (14, .getfield 34, 3), (17, .if_icmp .ge 22, 3), (20, .aload_n 0, 1), (21, .iload 4, 2), (23, .invokevirtual 61, 3), (26, .iload_n 2, 1), (27, .if_icmp .gt 6, 3), (30, .iload 4, 2), (32, .istore_n 3, 1), (33, .iinc 4 1, 3), (36, .goto (-25), 3), (39, .iload_n 3, 1), (40, .ireturn, 1)]
def MX0_chunkOf : x_MT := (RX0, yX0_chunkOf, cX0_chunkOf, 5, some .int, 4, 92, iX0_chunkOf)
theorem okX0_chunkOf : x_MOk MX0_chunkOf := ⟨by decide +kernel, tb4_of 13 rfl rfl, by decide +kernel, rfl, tb1_of 5 rfl rfl, by decide +kernel⟩
def iX0_shardOf : List (Nat × Instr × Nat) := [(0, .aload_n 0, 1), (1, .aload_n 0, 1), (2, .aload_n 1, 1), (3, .invokevirtual 90, 3), (6, .invokevirtual 93, 3), (9, .ireturn, 1)]
def MX0_shardOf : x_MT := (RX0, yX0_shardOf, cX0_shardOf, 2, some .int, 5, 116, iX0_shardOf)
theorem okX0_shardOf : x_MOk MX0_shardOf := ⟨by decide +kernel, tb4_of 9 rfl rfl, by decide +kernel, rfl, tb1_of 5 rfl rfl, by decide +kernel⟩
def iX8_has : List (Nat × Instr × Nat) := [(0, .iload_n 1, 1), (1, .ifCond .lt 25, 3), (4, .iload_n 1, 1), (5, .aload_n 0, 1), (6, .getfield 17, 3), (9, .arraylength, 1), (10, .if_icmp .ge 16, 3), (13, .aload_n 0, 1), (14, .getfield 17, 3), (17, .iload_n 1, 1), (18, .baload, 1), (19, .ifCond .eq 7, 3), (22, .iconst 1, 1), (23, .goto 4, 3), (26, .iconst 0, 1), (27, .ireturn, 1)]
def MX8_has : x_MT := (RX8, yX8_has, cX8_has, 2, some .boolean, 0, 0, iX8_has)
theorem okX8_has : x_MOk MX8_has := ⟨by decide +kernel, tb2_of 120 rfl rfl, by decide +kernel, rfl, tb1_of 4 rfl rfl, by decide +kernel⟩
def iX8_at : List (Nat × Instr × Nat) := [(0, .aload_n 0, 1), (1, .iload_n 1, 1), (2, .invokevirtual 36, 3), (5, .ifCond .eq 21, 3), (8, .iload_n 1, 1), (9, .aload_n 0, 1), (10, .getfield 11, 3), (13, .arraylength, 1), (14, .if_icmp .ge 12, 3), (17, .aload_n 0, 1), (18, .getfield 11, 3), (21, .iload_n 1, 1), (22, .aaload, 1), (23, .goto 7, 3), (26, .aload_n 0, 1), (27, .getfield 28, 3), (30, .astore_n 2, 1), (31, .aload_n 2, 1), (32, .ifnonnull 10, 3), (35, .aload_n 0, 1), (36, .getfield 28, 3), (39, .goto 4, 3), (42, .aload_n 2, 1), (43, .areturn, 1)]
def MX8_at : x_MT := (RX8, yX8_at, cX8_at, 3, some (.object "Shardmoor$Value"), 1, 21, iX8_at)
theorem okX8_at : x_MOk MX8_at := ⟨by decide +kernel, tb2_of 124 rfl rfl, by decide +kernel, rfl, tb1_of 4 rfl rfl, by decide +kernel⟩
def iX0_countIn : List (Nat × Instr × Nat) := [(0, .iconst 0, 1), (1, .istore_n 3, 1), (2, .iconst 0, 1), (3, .istore 4, 2), (5, .iload 4, 2), (7, .bipush 100, 2), (9, .if_icmp .ge 35, 3), (12, .aload_n 1, 1), (13, .iload 4, 2), (15, .invokevirtual 96, 3), (18, .ifCond .eq 20, 3), (21, .aload_n 0, 1), (22, .aload_n 1, 1), (23, .iload 4, 2), (25, .invokevirtual 99, 3), (28, .invokevirtual 90, 3), (31, .iload_n 2, 1), (32, .if_icmp .ne 6, 3), (35, .iinc 3 1, 3), (38, .iinc 4 1, 3), (41, .goto (-36), 3), (44, .iload_n 3, 1), (45, .ireturn, 1)]
def MX0_countIn : x_MT := (RX0, yX0_countIn, cX0_countIn, 5, some .int, 5, 116, iX0_countIn)
theorem okX0_countIn : x_MOk MX0_countIn := ⟨by decide +kernel, tb6_of 38 rfl rfl, by decide +kernel, rfl, tb1_of 5 rfl rfl, by decide +kernel⟩
def iX0_countAt : List (Nat × Instr × Nat) := [(0, .iconst 0, 1), (1, .istore_n 3, 1), (2, .iconst 0, 1), (3, .istore 4, 2), (5, .iload 4, 2), (7, .bipush 100, 2), (9, .if_icmp .ge 35, 3), (12, .aload_n 1, 1), (13, .iload 4, 2), (15, .invokevirtual 96, 3), (18, .ifCond .eq 20, 3), (21, .aload_n 0, 1), (22, .aload_n 1, 1), (23, .iload 4, 2), (25, .invokevirtual 99, 3), (28, .invokevirtual 103, 3), (31, .iload_n 2, 1), (32, .if_icmp .ne 6, 3), (35, .iinc 3 1, 3), (38, .iinc 4 1, 3), (41, .goto (-36), 3), (44, .iload_n 3, 1), (45, .ireturn, 1)]
def MX0_countAt : x_MT := (RX0, yX0_countAt, cX0_countAt, 5, some .int, 6, 137, iX0_countAt)
theorem okX0_countAt : x_MOk MX0_countAt := ⟨by decide +kernel, tb6_of 161 rfl rfl, by decide +kernel, rfl, tb1_of 5 rfl rfl, by decide +kernel⟩
def iX0_cut : List (Nat × Instr × Nat) := [(0, .aload_n 0, 1), (1, .iload_n 1, 1), (2, .invokevirtual 57, 3), (5, .ifCond .eq 19, 3), (8, .aload_n 0, 1), (9, .getfield 34, 3), (12, .ifCond .lt 12, 3), (15, .aload_n 0, 1), (16, .getfield 34, 3), (19, .bipush 12, 2), (21, .if_icmp .lt 4, 3), (24, .return_, 1), (25, .aload_n 0, 1), (26, .getfield 34, 3), (29, .istore_n 3, 1), (30, .iload_n 3, 1), (31, .iload_n 1, 1), (32, .iconst 1, 1), (33, .iadd, 1), (34, .if_icmp .le 37, 3), (37, .aload_n 0, 1), (38, .getfield 9, 3), (41, .iload_n 3, 1), (42, .aload_n 0, 1), (43, .getfield 9, 3), (46, .iload_n 3, 1), (47, .iconst 1, 1), (48, .isub, 1), (49, .iaload, 1), (50, .iastore, 1), (51, .aload_n 0, 1), (52, .getfield 15, 3), (55, .iload_n 3, 1), (56, .aload_n 0, 1), (57, .getfield 15, 3), (60, .iload_n 3, 1), (61, .iconst 1, 1), (62, .isub, 1), (63, .iaload, 1), (64, .iastore, 1), (65, .iinc 3 (-1), 3), (68, .goto (-38), 3), (71, .aload_n 0, 1), (72, .getfield 9, 3), (75, .iload_n 1, 1), (76, .iconst 1, 1), (77, .iadd, 1), (78, .iload_n 2, 1), (79, .iastore, 1), (80, .aload_n 0, 1), (81, .getfield 15, 3), (84, .iload_n 1, 1), (85, .iconst 1, 1), (86, .iadd, 1), (87, .aload_n 0, 1), (88, .getfield 15, 3), (91, .iload_n 1, 1), (92, .iaload, 1), (93, .iastore, 1), (94, .aload_n 0, 1), (95, .dup, 1), (96, .getfield 34, 3), (99, .iconst 1, 1), (100, .iadd, 1), (101, .putfield 34, 3), (104, .aload_n 0, 1), (105, .dup, 1), (106, .getfield 38, 3), (109, .iconst 1, 1), (110, .iadd, 1), (111, .putfield 38, 3), (114, .aload_n 0, 1), (115, .getfield 48, 3), (118, .iload_n 1, 1), (119, .if_icmp .le 13, 3), (122, .aload_n 0, 1), (123, .dup, 1), (124, .getfield 48, 3), (127, .iconst 1, 1), (128, .iadd, 1), (129, .putfield 48, 3), (132, .return_, 1)]
def MX0_cut : x_MT := (RX0, yX0_cut, cX0_cut, 4, none, 1, 21, iX0_cut)
theorem okX0_cut : x_MOk MX0_cut := ⟨by decide +kernel, tb5_of 221 rfl rfl, by decide +kernel, rfl, tb1_of 5 rfl rfl, by decide +kernel⟩
def iX0_hasMove : List (Nat × Instr × Nat) := [(0, .aload_n 0, 1), (1, .getfield 48, 3), (4, .iconst (-1), 1), (5, .if_icmp .eq 7, 3), (8, .iconst 1, 1), (9, .goto 4, 3), (12, .iconst 0, 1), (13, .ireturn, 1)]
def MX0_hasMove : x_MT := (RX0, yX0_hasMove, cX0_hasMove, 1, some .boolean, 0, 0, iX0_hasMove)
theorem okX0_hasMove : x_MOk MX0_hasMove := ⟨by decide +kernel, tb4_of 50 rfl rfl, by decide +kernel, rfl, tb1_of 5 rfl rfl, by decide +kernel⟩
def iX0_isMoving : List (Nat × Instr × Nat) := [(0, .aload_n 0, 1), (1, .invokevirtual 106, 3), (4, .ifCond .eq 15, 3), (7, .iload_n 1, 1), (8, .aload_n 0, 1), (9, .getfield 48, 3), (12, .if_icmp .ne 7, 3), (15, .iconst 1, 1), (16, .goto 4, 3), (19, .iconst 0, 1), (20, .ireturn, 1)]
def MX0_isMoving : x_MT := (RX0, yX0_isMoving, cX0_isMoving, 2, some .boolean, 1, 20, iX0_isMoving)
theorem okX0_isMoving : x_MOk MX0_isMoving := ⟨by decide +kernel, tb5_of 212 rfl rfl, by decide +kernel, rfl, tb1_of 5 rfl rfl, by decide +kernel⟩
def iX0_beginMove : List (Nat × Instr × Nat) := [(0, .aload_n 0, 1), (1, .iload_n 1, 1), (2, .putfield 48, 3), (5, .aload_n 0, 1), (6, .iload_n 2, 1), (7, .putfield 51, 3), (10, .return_, 1)]
def MX0_beginMove : x_MT := (RX0, yX0_beginMove, cX0_beginMove, 3, none, 0, 0, iX0_beginMove)
theorem okX0_beginMove : x_MOk MX0_beginMove := ⟨by decide +kernel, tb5_of 239 rfl rfl, by decide +kernel, rfl, tb1_of 5 rfl rfl, by decide +kernel⟩
def iX0_isLeft : List (Nat × Instr × Nat) := [(0, .aload_n 1, 1), (1, .iload_n 2, 1), (2, .invokevirtual 96, 3), (5, .ifCond .eq 45, 3), (8, .aload_n 0, 1), (9, .aload_n 1, 1), (10, .iload_n 2, 1), (11, .invokevirtual 99, 3), (14, .invokevirtual 90, 3), (17, .aload_n 0, 1), (18, .getfield 48, 3), (21, .if_icmp .ne 29, 3), (24, .iload_n 2, 1), (25, .ifCond .lt 25, 3), (28, .iload_n 2, 1), (29, .aload_n 0, 1), (30, .getfield 21, 3), (33, .arraylength, 1), (34, .if_icmp .ge 16, 3), (37, .aload_n 0, 1), (38, .getfield 21, 3), (41, .iload_n 2, 1), (42, .baload, 1), (43, .ifCond .ne 7, 3), (46, .iconst 1, 1), (47, .goto 4, 3), (50, .iconst 0, 1), (51, .ireturn, 1)]
def MX0_isLeft : x_MT := (RX0, yX0_isLeft, cX0_isLeft, 3, some .boolean, 5, 116, iX0_isLeft)
theorem okX0_isLeft : x_MOk MX0_isLeft := ⟨by decide +kernel, tb6_of 7 rfl rfl, by decide +kernel, rfl, tb1_of 5 rfl rfl, by decide +kernel⟩
def iX0_countLeft : List (Nat × Instr × Nat) := [(0, .iconst 0, 1), (1, .istore_n 2, 1), (2, .iconst 0, 1), (3, .istore_n 3, 1), (4, .iload_n 3, 1), (5, .bipush 100, 2), (7, .if_icmp .ge 21, 3), (10, .aload_n 0, 1), (11, .aload_n 1, 1), (12, .iload_n 3, 1), (13, .invokevirtual 110, 3), (16, .ifCond .eq 6, 3), (19, .iinc 2 1, 3), (22, .iinc 3 1, 3), (25, .goto (-21), 3), (28, .iload_n 2, 1), (29, .ireturn, 1)]
def MX0_countLeft : x_MT := (RX0, yX0_countLeft, cX0_countLeft, 4, some .int, 6, 138, iX0_countLeft)
theorem okX0_countLeft : x_MOk MX0_countLeft := ⟨by decide +kernel, tb6_of 3 rfl rfl, by decide +kernel, rfl, tb1_of 5 rfl rfl, by decide +kernel⟩
def iX0_copySome : List (Nat × Instr × Nat) := [(0, .iload_n 2, 1), (1, .istore_n 3, 1), (2, .iconst 0, 1), (3, .istore 4, 2), (5, .iload 4, 2), (7, .aload_n 0, 1), (8, .getfield 21, 3), (11, .arraylength, 1), (12, .if_icmp .ge 34, 3), (15, .iload_n 3, 1), (16, .ifCond .le 30, 3), (19, .aload_n 0, 1), (20, .aload_n 1, 1), (21, .iload 4, 2), (23, .invokevirtual 110, 3), (26, .ifCond .eq 14, 3), (29, .aload_n 0, 1), (30, .getfield 21, 3), (33, .iload 4, 2), (35, .iconst 1, 1), (36, .bastore, 1), (37, .iinc 3 (-1), 3), (40, .iinc 4 1, 3), (43, .goto (-38), 3), (46, .return_, 1)]
def MX0_copySome : x_MT := (RX0, yX0_copySome, cX0_copySome, 5, none, 6, 138, iX0_copySome)
theorem okX0_copySome : x_MOk MX0_copySome := ⟨by decide +kernel, tb6_of 22 rfl rfl, by decide +kernel, rfl, tb1_of 5 rfl rfl, by decide +kernel⟩
def iX0_copyAtOnce : List (Nat × Instr × Nat) := [(0, .iload_n 1, 1), (1, .ifCond .lt 42, 3), (4, .iload_n 1, 1), (5, .aload_n 0, 1), (6, .getfield 21, 3), (9, .arraylength, 1), (10, .if_icmp .ge 33, 3), (13, .aload_n 0, 1), (14, .getfield 21, 3), (17, .iload_n 1, 1), (18, .aload_n 0, 1), (19, .invokevirtual 106, 3), (22, .ifCond .eq 19, 3), (25, .aload_n 0, 1), (26, .aload_n 2, 1), (27, .invokevirtual 90, 3), (30, .aload_n 0, 1), (31, .getfield 48, 3), (34, .if_icmp .ne 7, 3), (37, .iconst 1, 1), (38, .goto 4, 3), (41, .iconst 0, 1), (42, .bastore, 1), (43, .return_, 1)]
def MX0_copyAtOnce : x_MT := (RX0, yX0_copyAtOnce, cX0_copyAtOnce, 3, none, 5, 116, iX0_copyAtOnce)
theorem okX0_copyAtOnce : x_MOk MX0_copyAtOnce := ⟨by decide +kernel, tb4_of 46 rfl rfl, by decide +kernel, rfl, tb1_of 5 rfl rfl, by decide +kernel⟩
def iX0_dropCopy : List (Nat × Instr × Nat) := [(0, .iload_n 1, 1), (1, .ifCond .lt 19, 3), (4, .iload_n 1, 1), (5, .aload_n 0, 1), (6, .getfield 21, 3), (9, .arraylength, 1), (10, .if_icmp .ge 10, 3), (13, .aload_n 0, 1), (14, .getfield 21, 3), (17, .iload_n 1, 1), (18, .iconst 0, 1), (19, .bastore, 1), (20, .return_, 1)]
def MX0_dropCopy : x_MT := (RX0, yX0_dropCopy, cX0_dropCopy, 2, none, 0, 0, iX0_dropCopy)
theorem okX0_dropCopy : x_MOk MX0_dropCopy := ⟨by decide +kernel, tb4_of 163 rfl rfl, by decide +kernel, rfl, tb1_of 5 rfl rfl, by decide +kernel⟩
def iX0_endMove : List (Nat × Instr × Nat) := [(0, .iconst 0, 1), (1, .istore_n 1, 1), (2, .iconst 0, 1), (3, .istore_n 2, 1), (4, .iload_n 2, 1), (5, .aload_n 0, 1), (6, .getfield 21, 3), (9, .arraylength, 1), (10, .if_icmp .ge 28, 3), (13, .aload_n 0, 1), (14, .getfield 21, 3), (17, .iload_n 2, 1), (18, .baload, 1), (19, .ifCond .eq 6, 3), (22, .iinc 1 1, 3), (25, .aload_n 0, 1), (26, .getfield 21, 3), (29, .iload_n 2, 1), (30, .iconst 0, 1), (31, .bastore, 1), (32, .iinc 2 1, 3), (35, .goto (-31), 3), (38, .aload_n 0, 1), (39, .iconst (-1), 1), (40, .putfield 48, 3), (43, .aload_n 0, 1), (44, .iconst (-1), 1), (45, .putfield 51, 3), (48, .iload_n 1, 1), (49, .ireturn, 1)]
def MX0_endMove : x_MT := (RX0, yX0_endMove, cX0_endMove, 3, some .int, 0, 0, iX0_endMove)
theorem okX0_endMove : x_MOk MX0_endMove := ⟨by decide +kernel, tb6_of 42 rfl rfl, by decide +kernel, rfl, tb1_of 5 rfl rfl, by decide +kernel⟩
def iX0_finishMove : List (Nat × Instr × Nat) := [(0, .aload_n 0, 1), (1, .aload_n 1, 1), (2, .aload_n 0, 1), (3, .getfield 48, 3), (6, .invokevirtual 114, 3), (9, .istore_n 2, 1), (10, .aload_n 0, 1), (11, .aload_n 0, 1), (12, .getfield 48, 3), (15, .invokevirtual 93, 3), (18, .istore_n 3, 1), (19, .iload_n 3, 1), (20, .ifCond .lt 22, 3), (23, .iload_n 3, 1), (24, .aload_n 0, 1), (25, .getfield 18, 3), (28, .arraylength, 1), (29, .if_icmp .ge 13, 3), (32, .aload_n 0, 1), (33, .getfield 18, 3), (36, .iload_n 3, 1), (37, .dup2, 1), (38, .iaload, 1), (39, .iload_n 2, 1), (40, .iadd, 1), (41, .iastore, 1), (42, .aload_n 0, 1), (43, .getfield 48, 3), (46, .ifCond .lt 28, 3), (49, .aload_n 0, 1), (50, .getfield 48, 3), (53, .aload_n 0, 1), (54, .getfield 15, 3), (57, .arraylength, 1), (58, .if_icmp .ge 16, 3), (61, .aload_n 0, 1), (62, .getfield 15, 3), (65, .aload_n 0, 1), (66, .getfield 48, 3), (69, .aload_n 0, 1), (70, .getfield 51, 3), (73, .iastore, 1), (74, .aload_n 0, 1), (75, .dup, 1), (76, .getfield 38, 3), (79, .iconst 1, 1), (80, .iadd, 1), (81, .putfield 38, 3), (84, .aload_n 0, 1), (85, .invokevirtual 118, 3), (88, .pop, 1), (89, .iload_n 2, 1), (90, .ireturn, 1)]
def MX0_finishMove : x_MT := (RX0, yX0_finishMove, cX0_finishMove, 4, some .int, 6, 140, iX0_finishMove)
theorem okX0_finishMove : x_MOk MX0_finishMove := ⟨by decide +kernel, tb6_of 34 rfl rfl, by decide +kernel, rfl, tb1_of 5 rfl rfl, by decide +kernel⟩
def iX0_copiesAt : List (Nat × Instr × Nat) := [(0, .iconst 0, 1), (1, .istore_n 2, 1), (2, .iconst 0, 1), (3, .istore_n 3, 1), (4, .iload_n 3, 1), (5, .aload_n 0, 1), (6, .getfield 21, 3), (9, .arraylength, 1), (10, .if_icmp .ge 29, 3), (13, .iload_n 1, 1), (14, .aload_n 0, 1), (15, .getfield 51, 3), (18, .if_icmp .ne 21, 3), (21, .aload_n 0, 1), (22, .getfield 21, 3), (25, .iload_n 3, 1), (26, .baload, 1), (27, .ifCond .eq 6, 3), (30, .iinc 2 1, 3), (33, .iinc 3 1, 3), (36, .goto (-32), 3), (39, .iload_n 2, 1), (40, .ireturn, 1)]
def MX0_copiesAt : x_MT := (RX0, yX0_copiesAt, cX0_copiesAt, 4, some .int, 0, 0, iX0_copiesAt)
theorem okX0_copiesAt : x_MOk MX0_copiesAt := ⟨by decide +kernel, tb6_of 166 rfl rfl, by decide +kernel, rfl, tb1_of 5 rfl rfl, by decide +kernel⟩
def iX0_orphansOf : List (Nat × Instr × Nat) := [(0, .iload_n 1, 1), (1, .ifCond .lt 21, 3), (4, .iload_n 1, 1), (5, .aload_n 0, 1), (6, .getfield 18, 3), (9, .arraylength, 1), (10, .if_icmp .ge 12, 3), (13, .aload_n 0, 1), (14, .getfield 18, 3), (17, .iload_n 1, 1), (18, .iaload, 1), (19, .goto 4, 3), (22, .iconst 0, 1), (23, .ireturn, 1)]
def MX0_orphansOf : x_MT := (RX0, yX0_orphansOf, cX0_orphansOf, 2, some .int, 0, 0, iX0_orphansOf)
theorem okX0_orphansOf : x_MOk MX0_orphansOf := ⟨by decide +kernel, tb6_of 65 rfl rfl, by decide +kernel, rfl, tb1_of 5 rfl rfl, by decide +kernel⟩
def iX0_takeOrphans : List (Nat × Instr × Nat) := [(0, .aload_n 0, 1), (1, .iload_n 1, 1), (2, .invokevirtual 122, 3), (5, .istore_n 2, 1), (6, .iload_n 1, 1), (7, .ifCond .lt 19, 3), (10, .iload_n 1, 1), (11, .aload_n 0, 1), (12, .getfield 18, 3), (15, .arraylength, 1), (16, .if_icmp .ge 10, 3), (19, .aload_n 0, 1), (20, .getfield 18, 3), (23, .iload_n 1, 1), (24, .iconst 0, 1), (25, .iastore, 1), (26, .iload_n 2, 1), (27, .ireturn, 1)]
def MX0_takeOrphans : x_MT := (RX0, yX0_takeOrphans, cX0_takeOrphans, 3, some .int, 1, 21, iX0_takeOrphans)
theorem okX0_takeOrphans : x_MOk MX0_takeOrphans := ⟨by decide +kernel, tb6_of 61 rfl rfl, by decide +kernel, rfl, tb1_of 5 rfl rfl, by decide +kernel⟩
def iX0_shardAnew : List (Nat × Instr × Nat) := [(0, .iconst 0, 1), (1, .istore 4, 2), (3, .iload 4, 2), (5, .aload_n 0, 1), (6, .getfield 31, 3), (9, .arraylength, 1), (10, .if_icmp .ge 26, 3), (13, .aload_n 0, 1), (14, .getfield 31, 3), (17, .iload 4, 2), (19, .aload_n 0, 1), (20, .aload_n 1, 1), (21, .iload 4, 2), (23, .invokevirtual 99, 3), (26, .invokevirtual 103, 3), (29, .iastore, 1), (30, .iinc 4 1, 3), (33, .goto (-30), 3), (36, .aload_n 0, 1), (37, .iload_n 2, 1), (38, .putfield 41, 3), (41, .aload_n 0, 1), (42, .iload_n 3, 1), (43, .putfield 44, 3), (46, .aload_n 0, 1), (47, .dup, 1), (48, .getfield 38, 3), (51, .iconst 1, 1), (52, .iadd, 1), (53, .putfield 38, 3), (56, .aload_n 0, 1), (57, .invokevirtual 54, 3), (60, .iconst 0, 1), (61, .istore 4, 2), (63, .iconst 0, 1), (64, .istore 5, 2), (66, .iload 5, 2), (68, .aload_n 0, 1), (69, .getfield 31, 3), (72, .arraylength, 1), (73, .if_icmp .ge 41, 3), (76, .aload_n 1, 1), (77, .iload 5, 2), (79, .invokevirtual 96, 3), (82, .ifCond .eq 26, 3), (85, .aload_n 0, 1), (86, .aload_n 1, 1), (87, .iload 5, 2), (89, .invokevirtual 99, 3), (92, .invokevirtual 103, 3), (95, .aload_n 0, 1), (96, .getfield 31, 3), (99, .iload 5, 2), (101, .iaload, 1), (102, .if_icmp .eq 6, 3), (105, .iinc 4 1, 3), (108, .iinc 5 1, 3), (111, .goto (-45), 3), (114, .iload 4, 2), (116, .ireturn, 1)]
def MX0_shardAnew : x_MT := (RX0, yX0_shardAnew, cX0_shardAnew, 6, some .int, 6, 137, iX0_shardAnew)
theorem okX0_shardAnew : x_MOk MX0_shardAnew := ⟨by decide +kernel, tb6_of 77 rfl rfl, by decide +kernel, rfl, tb1_of 5 rfl rfl, by decide +kernel⟩
def iX0_useRouter : List (Nat × Instr × Nat) := [(0, .iload_n 1, 1), (1, .ifCond .lt 21, 3), (4, .iload_n 1, 1), (5, .iconst 2, 1), (6, .if_icmp .ge 16, 3), (9, .aload_n 0, 1), (10, .getfield 25, 3), (13, .iload_n 1, 1), (14, .iaload, 1), (15, .aload_n 0, 1), (16, .getfield 38, 3), (19, .if_icmp .ne 4, 3), (22, .return_, 1), (23, .aload_n 0, 1), (24, .getfield 25, 3), (27, .iload_n 1, 1), (28, .aload_n 0, 1), (29, .getfield 38, 3), (32, .iastore, 1), (33, .aload_n 0, 1), (34, .getfield 28, 3), (37, .iload_n 1, 1), (38, .dup2, 1), (39, .iaload, 1), (40, .iconst 1, 1), (41, .iadd, 1), (42, .iastore, 1), (43, .return_, 1)]
def MX0_useRouter : x_MT := (RX0, yX0_useRouter, cX0_useRouter, 2, none, 0, 0, iX0_useRouter)
theorem okX0_useRouter : x_MOk MX0_useRouter := ⟨by decide +kernel, tb4_of 42 rfl rfl, by decide +kernel, rfl, tb1_of 5 rfl rfl, by decide +kernel⟩
def iX0_routerVersion : List (Nat × Instr × Nat) := [(0, .iload_n 1, 1), (1, .ifCond .lt 17, 3), (4, .iload_n 1, 1), (5, .iconst 2, 1), (6, .if_icmp .ge 12, 3), (9, .aload_n 0, 1), (10, .getfield 25, 3), (13, .iload_n 1, 1), (14, .iaload, 1), (15, .goto 4, 3), (18, .iconst (-1), 1), (19, .ireturn, 1)]
def MX0_routerVersion : x_MT := (RX0, yX0_routerVersion, cX0_routerVersion, 2, some .int, 0, 0, iX0_routerVersion)
theorem okX0_routerVersion : x_MOk MX0_routerVersion := ⟨by decide +kernel, tb6_of 178 rfl rfl, by decide +kernel, rfl, tb1_of 5 rfl rfl, by decide +kernel⟩
def iX0_routerStale : List (Nat × Instr × Nat) := [(0, .iload_n 1, 1), (1, .ifCond .lt 17, 3), (4, .iload_n 1, 1), (5, .iconst 2, 1), (6, .if_icmp .ge 12, 3), (9, .aload_n 0, 1), (10, .getfield 28, 3), (13, .iload_n 1, 1), (14, .iaload, 1), (15, .goto 4, 3), (18, .iconst (-1), 1), (19, .ireturn, 1)]
def MX0_routerStale : x_MT := (RX0, yX0_routerStale, cX0_routerStale, 2, some .int, 0, 0, iX0_routerStale)
theorem okX0_routerStale : x_MOk MX0_routerStale := ⟨by decide +kernel, tb6_of 182 rfl rfl, by decide +kernel, rfl, tb1_of 5 rfl rfl, by decide +kernel⟩
def iX10_init : List (Nat × Instr × Nat) := [(0, .aload_n 0, 1), (1, .invokespecial 3, 3), (4, .aload_n 0, 1), (5, .iconst 0, 1), (6, .putfield 9, 3), (9, .aload_n 0, 1), (10, .iload_n 1, 1), (11, .ifCond .ge 7, 3), (14, .iconst 0, 1), (15, .goto 4, 3), (18, .iload_n 1, 1), (19, .newarray .int, 2), (21, .putfield 15, 3), (24, .return_, 1)]
def MX10_init : x_MT := (RX10, yX10_init, cX10_init, 2, none, 1, 20, iX10_init)
theorem okX10_init : x_MOk MX10_init := ⟨by decide +kernel, tb1_of 41 rfl rfl, by decide +kernel, rfl, tb1_of 3 rfl rfl, by decide +kernel⟩
def iX1_init : List (Nat × Instr × Nat) := [(0, .aload_n 0, 1), (1, .invokespecial 3, 3), (4, .aload_n 0, 1), (5, .new 9, 3), (8, .dup, 1), (9, .sipush 152, 3), (12, .invokespecial 11, 3), (15, .putfield 14, 3), (18, .aload_n 0, 1), (19, .new 9, 3), (22, .dup, 1), (23, .bipush 72, 2), (25, .invokespecial 11, 3), (28, .putfield 20, 3), (31, .return_, 1)]
def MX1_init : x_MT := (RX1, yX1_init, cX1_init, 1, none, 2, 41, iX1_init)
theorem okX1_init : x_MOk MX1_init := ⟨by decide +kernel, tb1_of 160 rfl rfl, by decide +kernel, rfl, tb1_of 7 rfl rfl, by decide +kernel⟩
def iX1_edited : List (Nat × Instr × Nat) := [(0, .aload_n 0, 1), (1, .getfield 14, 3), (4, .areturn, 1)]
def MX1_edited : x_MT := (RX1, yX1_edited, cX1_edited, 1, some (.object "Shardmoor$Value"), 0, 0, iX1_edited)
theorem okX1_edited : x_MOk MX1_edited := ⟨by decide +kernel, tb4_of 141 rfl rfl, by decide +kernel, rfl, tb1_of 7 rfl rfl, by decide +kernel⟩
def iX10_makeRoom : List (Nat × Instr × Nat) := [(0, .aload_n 0, 1), (1, .getfield 9, 3), (4, .iload_n 2, 1), (5, .iload_n 1, 1), (6, .isub, 1), (7, .isub, 1), (8, .iload_n 3, 1), (9, .iadd, 1), (10, .istore 4, 2), (12, .iload_n 1, 1), (13, .ifCond .lt 42, 3), (16, .iload_n 2, 1), (17, .iload_n 1, 1), (18, .if_icmp .lt 37, 3), (21, .iload_n 2, 1), (22, .aload_n 0, 1), (23, .getfield 9, 3), (26, .if_icmp .gt 29, 3), (29, .aload_n 0, 1), (30, .getfield 9, 3), (33, .aload_n 0, 1), (34, .getfield 15, 3), (37, .arraylength, 1), (38, .if_icmp .gt 17, 3), (41, .iload_n 3, 1), (42, .ifCond .lt 13, 3), (45, .iload 4, 2), (47, .aload_n 0, 1), (48, .getfield 15, 3), (51, .arraylength, 1), (52, .if_icmp .le 4, 3), (55, .return_, 1), (56, .aload_n 0, 1), (57, .getfield 15, 3), (60, .iload_n 2, 1), (61, .aload_n 0, 1), (62, .getfield 15, 3), (65, .iload_n 1, 1), (66, .iload_n 3, 1), (67, .iadd, 1), (68, .aload_n 0, 1), (69, .getfield 9, 3), (72, .iload_n 2, 1), (73, .isub, 1), (74, .invokestatic 71, 3), (77, .aload_n 0, 1), (78, .iload 4, 2), (80, .putfield 9, 3), (83, .return_, 1)]
def MX10_makeRoom : x_MT := (RX10, yX10_makeRoom, cX10_makeRoom, 5, none, 1, 26, iX10_makeRoom)
theorem okX10_makeRoom : x_MOk MX10_makeRoom := ⟨by decide +kernel, tb3_of 95 rfl rfl, by decide +kernel, rfl, tb1_of 3 rfl rfl, by decide +kernel⟩
def iX10_setSign : List (Nat × Instr × Nat) := [(0, .iload_n 1, 1), (1, .ifCond .lt 27, 3), (4, .iload_n 1, 1), (5, .aload_n 0, 1), (6, .getfield 9, 3), (9, .if_icmp .ge 19, 3), (12, .iload_n 1, 1), (13, .aload_n 0, 1), (14, .getfield 15, 3), (17, .arraylength, 1), (18, .if_icmp .ge 10, 3), (21, .aload_n 0, 1), (22, .getfield 15, 3), (25, .iload_n 1, 1), (26, .iload_n 2, 1), (27, .iastore, 1), (28, .return_, 1)]
def MX10_setSign : x_MT := (RX10, yX10_setSign, cX10_setSign, 3, none, 0, 0, iX10_setSign)
theorem okX10_setSign : x_MOk MX10_setSign := ⟨by decide +kernel, tb3_of 102 rfl rfl, by decide +kernel, rfl, tb1_of 3 rfl rfl, by decide +kernel⟩
def iX10_putValue : List (Nat × Instr × Nat) := [(0, .aload_n 0, 1), (1, .iload_n 1, 1), (2, .iload_n 2, 1), (3, .aload_n 3, 1), (4, .getfield 9, 3), (7, .invokevirtual 64, 3), (10, .iconst 0, 1), (11, .istore 4, 2), (13, .iload 4, 2), (15, .aload_n 3, 1), (16, .getfield 9, 3), (19, .if_icmp .ge 23, 3), (22, .aload_n 0, 1), (23, .iload_n 1, 1), (24, .iload 4, 2), (26, .iadd, 1), (27, .aload_n 3, 1), (28, .iload 4, 2), (30, .invokevirtual 19, 3), (33, .invokevirtual 68, 3), (36, .iinc 4 1, 3), (39, .goto (-26), 3), (42, .return_, 1)]
def MX10_putValue : x_MT := (RX10, yX10_putValue, cX10_putValue, 5, none, 2, 50, iX10_putValue)
theorem okX10_putValue : x_MOk MX10_putValue := ⟨by decide +kernel, tb3_of 186 rfl rfl, by decide +kernel, rfl, tb1_of 3 rfl rfl, by decide +kernel⟩
def iX10_become_ : List (Nat × Instr × Nat) := [(0, .aload_n 0, 1), (1, .iconst 0, 1), (2, .putfield 9, 3), (5, .aload_n 0, 1), (6, .iconst 0, 1), (7, .iconst 0, 1), (8, .aload_n 1, 1), (9, .invokevirtual 60, 3), (12, .return_, 1)]
def MX10_become_ : x_MT := (RX10, yX10_become_, cX10_become_, 2, none, 3, 74, iX10_become_)
theorem okX10_become_ : x_MOk MX10_become_ := ⟨by decide +kernel, tb4_of 0 rfl rfl, by decide +kernel, rfl, tb1_of 3 rfl rfl, by decide +kernel⟩
def iX10_endOf : List (Nat × Instr × Nat) := [(0, .iconst 0, 1), (1, .istore_n 2, 1), (2, .iload_n 1, 1), (3, .istore_n 3, 1), (4, .iload_n 3, 1), (5, .aload_n 0, 1), (6, .getfield 9, 3), (9, .if_icmp .ge 28, 3), (12, .iload_n 2, 1), (13, .aload_n 0, 1), (14, .iload_n 3, 1), (15, .invokevirtual 19, 3), (18, .invokestatic 23, 3), (21, .iadd, 1), (22, .istore_n 2, 1), (23, .iload_n 2, 1), (24, .ifCond .gt 7, 3), (27, .iload_n 3, 1), (28, .iconst 1, 1), (29, .iadd, 1), (30, .ireturn, 1), (31, .iinc 3 1, 3), (34, .goto (-30), 3), (37, .aload_n 0, 1), (38, .getfield 9, 3), (41, .ireturn, 1)]
def MX10_endOf : x_MT := (RX10, yX10_endOf, cX10_endOf, 4, some .int, 1, 21, iX10_endOf)
theorem okX10_endOf : x_MOk MX10_endOf := ⟨by decide +kernel, tb3_of 177 rfl rfl, by decide +kernel, rfl, tb1_of 3 rfl rfl, by decide +kernel⟩
def iX10_putSign : List (Nat × Instr × Nat) := [(0, .aload_n 0, 1), (1, .iload_n 1, 1), (2, .iload_n 1, 1), (3, .iconst 1, 1), (4, .invokevirtual 64, 3), (7, .aload_n 0, 1), (8, .iload_n 1, 1), (9, .iload_n 2, 1), (10, .invokevirtual 68, 3), (13, .return_, 1)]
def MX10_putSign : x_MT := (RX10, yX10_putSign, cX10_putSign, 3, none, 2, 50, iX10_putSign)
theorem okX10_putSign : x_MOk MX10_putSign := ⟨by decide +kernel, tb3_of 91 rfl rfl, by decide +kernel, rfl, tb1_of 3 rfl rfl, by decide +kernel⟩
def iX10_setField : List (Nat × Instr × Nat) := [(0, .aload_n 0, 1), (1, .iload_n 1, 1), (2, .iload_n 2, 1), (3, .invokevirtual 32, 3), (6, .istore 4, 2), (8, .aload_n 0, 1), (9, .iload 4, 2), (11, .invokevirtual 19, 3), (14, .iconst 1, 1), (15, .iload_n 2, 1), (16, .iadd, 1), (17, .if_icmp .ne 23, 3), (20, .aload_n 0, 1), (21, .iload 4, 2), (23, .iconst 1, 1), (24, .iadd, 1), (25, .aload_n 0, 1), (26, .iload 4, 2), (28, .iconst 1, 1), (29, .iadd, 1), (30, .invokevirtual 29, 3), (33, .aload_n 3, 1), (34, .invokevirtual 60, 3), (37, .goto 25, 3), (40, .aload_n 0, 1), (41, .iload 4, 2), (43, .iconst 1, 1), (44, .iload_n 2, 1), (45, .iadd, 1), (46, .invokevirtual 56, 3), (49, .aload_n 0, 1), (50, .iload 4, 2), (52, .iconst 1, 1), (53, .iadd, 1), (54, .iload 4, 2), (56, .iconst 1, 1), (57, .iadd, 1), (58, .aload_n 3, 1), (59, .invokevirtual 60, 3), (62, .return_, 1)]
def MX10_setField : x_MT := (RX10, yX10_setField, cX10_setField, 5, none, 3, 74, iX10_setField)
theorem okX10_setField : x_MOk MX10_setField := ⟨by decide +kernel, tb3_of 208 rfl rfl, by decide +kernel, rfl, tb1_of 3 rfl rfl, by decide +kernel⟩
def iX10_takeOut : List (Nat × Instr × Nat) := [(0, .aload_n 0, 1), (1, .iload_n 1, 1), (2, .iload_n 2, 1), (3, .iconst 0, 1), (4, .invokevirtual 64, 3), (7, .return_, 1)]
def MX10_takeOut : x_MT := (RX10, yX10_takeOut, cX10_takeOut, 3, none, 2, 50, iX10_takeOut)
theorem okX10_takeOut : x_MOk MX10_takeOut := ⟨by decide +kernel, tb4_of 107 rfl rfl, by decide +kernel, rfl, tb1_of 3 rfl rfl, by decide +kernel⟩
def iX10_takeField : List (Nat × Instr × Nat) := [(0, .aload_n 0, 1), (1, .iload_n 1, 1), (2, .iload_n 2, 1), (3, .invokevirtual 32, 3), (6, .istore_n 3, 1), (7, .aload_n 0, 1), (8, .iload_n 3, 1), (9, .invokevirtual 19, 3), (12, .iconst 1, 1), (13, .iload_n 2, 1), (14, .iadd, 1), (15, .if_icmp .ne 15, 3), (18, .aload_n 0, 1), (19, .iload_n 3, 1), (20, .aload_n 0, 1), (21, .iload_n 3, 1), (22, .iconst 1, 1), (23, .iadd, 1), (24, .invokevirtual 29, 3), (27, .invokevirtual 77, 3), (30, .return_, 1)]
def MX10_takeField : x_MT := (RX10, yX10_takeField, cX10_takeField, 4, none, 3, 72, iX10_takeField)
theorem okX10_takeField : x_MOk MX10_takeField := ⟨by decide +kernel, tb4_of 103 rfl rfl, by decide +kernel, rfl, tb1_of 3 rfl rfl, by decide +kernel⟩
def iX10_become : List (Nat × Instr × Nat) := [(0, .aload_n 0, 1), (1, .iconst 0, 1), (2, .putfield 9, 3), (5, .aload_n 0, 1), (6, .iconst 0, 1), (7, .iload_n 1, 1), (8, .invokevirtual 56, 3), (11, .iload_n 1, 1), (12, .sipush 4000, 3), (15, .if_icmp .lt 9, 3), (18, .aload_n 0, 1), (19, .iconst 1, 1), (20, .iconst 0, 1), (21, .invokevirtual 56, 3), (24, .return_, 1)]
def MX10_become : x_MT := (RX10, yX10_become, cX10_become, 2, none, 3, 72, iX10_become)
theorem okX10_become : x_MOk MX10_become := ⟨by decide +kernel, tb3_of 87 rfl rfl, by decide +kernel, rfl, tb1_of 3 rfl rfl, by decide +kernel⟩
def iX11_isNumber : List (Nat × Instr × Nat) := [(0, .iload_n 0, 1), (1, .sipush (-999), 3), (4, .if_icmp .lt 14, 3), (7, .iload_n 0, 1), (8, .sipush 999, 3), (11, .if_icmp .gt 7, 3), (14, .iconst 1, 1), (15, .goto 4, 3), (18, .iconst 0, 1), (19, .ireturn, 1)]
def MX11_isNumber : x_MT := (RX11, yX11_isNumber, cX11_isNumber, 1, some .boolean, 0, 0, iX11_isNumber)
theorem okX11_isNumber : x_MOk MX11_isNumber := ⟨by decide +kernel, tb3_of 113 rfl rfl, by decide +kernel, rfl, tb1_of 1 rfl rfl, by decide +kernel⟩
def iX1_addAt : List (Nat × Instr × Nat) := [(0, .aload_n 0, 1), (1, .getfield 14, 3), (4, .iload_n 1, 1), (5, .invokevirtual 49, 3), (8, .iload_n 2, 1), (9, .iadd, 1), (10, .istore_n 3, 1), (11, .iload_n 3, 1), (12, .invokestatic 71, 3), (15, .ifCond .ne 5, 3), (18, .iconst 0, 1), (19, .ireturn, 1), (20, .aload_n 0, 1), (21, .getfield 14, 3), (24, .iload_n 1, 1), (25, .sipush 2000, 3), (28, .iload_n 3, 1), (29, .iadd, 1), (30, .invokevirtual 75, 3), (33, .iconst 1, 1), (34, .ireturn, 1)]
def MX1_addAt : x_MT := (RX1, yX1_addAt, cX1_addAt, 4, some .boolean, 2, 42, iX1_addAt)
theorem okX1_addAt : x_MOk MX1_addAt := ⟨by decide +kernel, tb4_of 117 rfl rfl, by decide +kernel, rfl, tb1_of 7 rfl rfl, by decide +kernel⟩
def iX1_addTo : List (Nat × Instr × Nat) := [(0, .aload_n 0, 1), (1, .getfield 14, 3), (4, .iload_n 1, 1), (5, .iload_n 2, 1), (6, .invokevirtual 35, 3), (9, .istore 4, 2), (11, .iload 4, 2), (13, .ifCond .ge 30, 3), (16, .aload_n 0, 1), (17, .getfield 20, 3), (20, .sipush 2000, 3), (23, .iload_n 3, 1), (24, .iadd, 1), (25, .invokevirtual 39, 3), (28, .aload_n 0, 1), (29, .getfield 14, 3), (32, .iload_n 1, 1), (33, .iload_n 2, 1), (34, .aload_n 0, 1), (35, .getfield 20, 3), (38, .invokevirtual 41, 3), (41, .iconst 1, 1), (42, .ireturn, 1), (43, .aload_n 0, 1), (44, .getfield 14, 3), (47, .iload 4, 2), (49, .invokevirtual 27, 3), (52, .iconst 1, 1), (53, .if_icmp .ne 17, 3), (56, .aload_n 0, 1), (57, .iload 4, 2), (59, .iload_n 3, 1), (60, .invokevirtual 68, 3), (63, .ifCond .eq 7, 3), (66, .iconst 1, 1), (67, .goto 4, 3), (70, .iconst 0, 1), (71, .ireturn, 1)]
def MX1_addTo : x_MT := (RX1, yX1_addTo, cX1_addTo, 5, some .boolean, 4, 98, iX1_addTo)
theorem okX1_addTo : x_MOk MX1_addTo := ⟨by decide +kernel, tb4_of 112 rfl rfl, by decide +kernel, rfl, tb1_of 7 rfl rfl, by decide +kernel⟩
def iX10_putBehind : List (Nat × Instr × Nat) := [(0, .aload_n 0, 1), (1, .iload_n 1, 1), (2, .invokevirtual 29, 3), (5, .iconst 1, 1), (6, .isub, 1), (7, .istore_n 3, 1), (8, .aload_n 0, 1), (9, .iload_n 3, 1), (10, .iload_n 3, 1), (11, .aload_n 2, 1), (12, .invokevirtual 60, 3), (15, .return_, 1)]
def MX10_putBehind : x_MT := (RX10, yX10_putBehind, cX10_putBehind, 4, none, 3, 74, iX10_putBehind)
theorem okX10_putBehind : x_MOk MX10_putBehind := ⟨by decide +kernel, tb3_of 182 rfl rfl, by decide +kernel, rfl, tb1_of 3 rfl rfl, by decide +kernel⟩
def iX1_pushTo : List (Nat × Instr × Nat) := [(0, .aload_n 0, 1), (1, .getfield 14, 3), (4, .iload_n 1, 1), (5, .iload_n 2, 1), (6, .invokevirtual 35, 3), (9, .ifCond .ge 26, 3), (12, .aload_n 0, 1), (13, .getfield 20, 3), (16, .sipush 4000, 3), (19, .invokevirtual 39, 3), (22, .aload_n 0, 1), (23, .getfield 14, 3), (26, .iload_n 1, 1), (27, .iload_n 2, 1), (28, .aload_n 0, 1), (29, .getfield 20, 3), (32, .invokevirtual 41, 3), (35, .aload_n 0, 1), (36, .getfield 14, 3), (39, .iload_n 1, 1), (40, .iload_n 2, 1), (41, .invokevirtual 35, 3), (44, .istore 4, 2), (46, .aload_n 0, 1), (47, .getfield 14, 3), (50, .iload 4, 2), (52, .invokevirtual 27, 3), (55, .iconst 3, 1), (56, .if_icmp .eq 5, 3), (59, .iconst 0, 1), (60, .ireturn, 1), (61, .aload_n 0, 1), (62, .getfield 14, 3), (65, .iload 4, 2), (67, .aload_n 3, 1), (68, .invokevirtual 78, 3), (71, .iconst 1, 1), (72, .ireturn, 1)]
def MX1_pushTo : x_MT := (RX1, yX1_pushTo, cX1_pushTo, 5, some .boolean, 4, 98, iX1_pushTo)
theorem okX1_pushTo : x_MOk MX1_pushTo := ⟨by decide +kernel, tb4_of 123 rfl rfl, by decide +kernel, rfl, tb1_of 7 rfl rfl, by decide +kernel⟩
def iX10_order : List (Nat × Instr × Nat) := [(0, .iconst 0, 1), (1, .istore 4, 2), (3, .iconst 0, 1), (4, .istore 5, 2), (6, .iload 5, 2), (8, .aload_n 0, 1), (9, .getfield 9, 3), (12, .if_icmp .ge 66, 3), (15, .aload_n 0, 1), (16, .iload_n 1, 1), (17, .iload 5, 2), (19, .iadd, 1), (20, .invokevirtual 19, 3), (23, .istore 6, 2), (25, .aload_n 2, 1), (26, .iload_n 3, 1), (27, .iload 5, 2), (29, .iadd, 1), (30, .invokevirtual 19, 3), (33, .istore 7, 2), (35, .iload 6, 2), (37, .iload 7, 2), (39, .if_icmp .eq 16, 3), (42, .iload 6, 2), (44, .iload 7, 2), (46, .if_icmp .ge 7, 3), (49, .iconst (-1), 1), (50, .goto 4, 3), (53, .iconst 1, 1), (54, .ireturn, 1), (55, .iload 4, 2), (57, .iload 6, 2), (59, .invokestatic 23, 3), (62, .iadd, 1), (63, .istore 4, 2), (65, .iload 4, 2), (67, .ifCond .gt 5, 3), (70, .iconst 0, 1), (71, .ireturn, 1), (72, .iinc 5 1, 3), (75, .goto (-69), 3), (78, .iconst 0, 1), (79, .ireturn, 1)]
def MX10_order : x_MT := (RX10, yX10_order, cX10_order, 8, some .int, 1, 21, iX10_order)
theorem okX10_order : x_MOk MX10_order := ⟨by decide +kernel, tb2_of 190 rfl rfl, by decide +kernel, rfl, tb1_of 3 rfl rfl, by decide +kernel⟩
def iX1_pullFrom : List (Nat × Instr × Nat) := [(0, .iload_n 1, 1), (1, .iconst 1, 1), (2, .iadd, 1), (3, .istore_n 3, 1), (4, .iconst 0, 1), (5, .istore 4, 2), (7, .iload 4, 2), (9, .bipush 24, 2), (11, .if_icmp .ge 59, 3), (14, .aload_n 0, 1), (15, .getfield 14, 3), (18, .iload_n 3, 1), (19, .invokevirtual 82, 3), (22, .ifCond .eq 48, 3), (25, .aload_n 0, 1), (26, .getfield 14, 3), (29, .iload_n 3, 1), (30, .invokevirtual 85, 3), (33, .istore 5, 2), (35, .aload_n 0, 1), (36, .getfield 14, 3), (39, .iload_n 3, 1), (40, .aload_n 2, 1), (41, .iconst 0, 1), (42, .invokestatic 88, 3), (45, .ifCond .ne 16, 3), (48, .aload_n 0, 1), (49, .getfield 14, 3), (52, .iload_n 3, 1), (53, .iload 5, 2), (55, .invokevirtual 92, 3), (58, .goto 6, 3), (61, .iload 5, 2), (63, .istore_n 3, 1), (64, .iinc 4 1, 3), (67, .goto (-60), 3), (70, .iconst 1, 1), (71, .ireturn, 1)]
def MX1_pullFrom : x_MT := (RX1, yX1_pullFrom, cX1_pullFrom, 6, some .boolean, 3, 72, iX1_pullFrom)
theorem okX1_pullFrom : x_MOk MX1_pullFrom := ⟨by decide +kernel, tb4_of 128 rfl rfl, by decide +kernel, rfl, tb1_of 7 rfl rfl, by decide +kernel⟩
def iX1_addToEach : List (Nat × Instr × Nat) := [(0, .iload_n 1, 1), (1, .iconst 1, 1), (2, .iadd, 1), (3, .istore_n 3, 1), (4, .iconst 0, 1), (5, .istore 4, 2), (7, .iload 4, 2), (9, .bipush 24, 2), (11, .if_icmp .ge 52, 3), (14, .aload_n 0, 1), (15, .getfield 14, 3), (18, .iload_n 3, 1), (19, .invokevirtual 82, 3), (22, .ifCond .eq 41, 3), (25, .aload_n 0, 1), (26, .getfield 14, 3), (29, .iload_n 3, 1), (30, .invokevirtual 27, 3), (33, .iconst 1, 1), (34, .if_icmp .ne 14, 3), (37, .aload_n 0, 1), (38, .iload_n 3, 1), (39, .iload_n 2, 1), (40, .invokevirtual 68, 3), (43, .ifCond .ne 5, 3), (46, .iconst 0, 1), (47, .ireturn, 1), (48, .aload_n 0, 1), (49, .getfield 14, 3), (52, .iload_n 3, 1), (53, .invokevirtual 85, 3), (56, .istore_n 3, 1), (57, .iinc 4 1, 3), (60, .goto (-53), 3), (63, .iconst 1, 1), (64, .ireturn, 1)]
def MX1_addToEach : x_MT := (RX1, yX1_addToEach, cX1_addToEach, 5, some .boolean, 3, 65, iX1_addToEach)
theorem okX1_addToEach : x_MOk MX1_addToEach := ⟨by decide +kernel, tb4_of 136 rfl rfl, by decide +kernel, rfl, tb1_of 7 rfl rfl, by decide +kernel⟩
def iX1_editField : List (Nat × Instr × Nat) := [(0, .aload_n 0, 1), (1, .getfield 14, 3), (4, .iload_n 1, 1), (5, .iload_n 2, 1), (6, .invokevirtual 35, 3), (9, .istore 5, 2), (11, .iload_n 3, 1), (12, .tableswitch 117 0 4 #[36, 49, 60, 73, 82], 36), (48, .aload_n 0, 1), (49, .getfield 14, 3), (52, .iload_n 1, 1), (53, .iload_n 2, 1), (54, .aload 4, 2), (56, .invokevirtual 41, 3), (59, .iconst 1, 1), (60, .ireturn, 1), (61, .aload_n 0, 1), (62, .getfield 14, 3), (65, .iload_n 1, 1), (66, .iload_n 2, 1), (67, .invokevirtual 45, 3), (70, .iconst 1, 1), (71, .ireturn, 1), (72, .aload_n 0, 1), (73, .iload_n 1, 1), (74, .iload_n 2, 1), (75, .aload 4, 2), (77, .iconst 0, 1), (78, .invokevirtual 49, 3), (81, .invokevirtual 52, 3), (84, .ireturn, 1), (85, .aload_n 0, 1), (86, .iload_n 1, 1), (87, .iload_n 2, 1), (88, .aload 4, 2), (90, .invokevirtual 56, 3), (93, .ireturn, 1), (94, .iload 5, 2), (96, .ifCond .lt 27, 3), (99, .aload_n 0, 1), (100, .getfield 14, 3), (103, .iload 5, 2), (105, .invokevirtual 27, 3), (108, .iconst 3, 1), (109, .if_icmp .ne 18, 3), (112, .aload_n 0, 1), (113, .iload 5, 2), (115, .aload 4, 2), (117, .invokevirtual 60, 3), (120, .ifCond .eq 7, 3), (123, .iconst 1, 1), (124, .goto 4, 3), (127, .iconst 0, 1), (128, .ireturn, 1), (129, .iload 5, 2), (131, .ifCond .lt 31, 3), (134, .aload_n 0, 1), (135, .getfield 14, 3), (138, .iload 5, 2), (140, .invokevirtual 27, 3), (143, .iconst 3, 1), (144, .if_icmp .ne 22, 3), (147, .aload_n 0, 1), (148, .iload 5, 2), (150, .aload 4, 2), (152, .iconst 0, 1), (153, .invokevirtual 49, 3), (156, .invokevirtual 64, 3), (159, .ifCond .eq 7, 3), (162, .iconst 1, 1), (163, .goto 4, 3), (166, .iconst 0, 1), (167, .ireturn, 1)]
def MX1_editField : x_MT := (RX1, yX1_editField, cX1_editField, 6, some .boolean, 5, 122, iX1_editField)
theorem okX1_editField : x_MOk MX1_editField := ⟨by decide +kernel, tb4_of 97 rfl rfl, by decide +kernel, rfl, tb1_of 7 rfl rfl, by decide +kernel⟩
def iX1_canEdit : List (Nat × Instr × Nat) := [(0, .aload_n 0, 1), (1, .getfield 14, 3), (4, .aload_n 1, 1), (5, .invokevirtual 23, 3), (8, .iload_n 3, 1), (9, .iconst 2, 1), (10, .if_icmp .eq 8, 3), (13, .iload_n 3, 1), (14, .iconst 5, 1), (15, .if_icmp .ne 15, 3), (18, .aload 4, 2), (20, .iconst 0, 1), (21, .invokevirtual 27, 3), (24, .iconst 1, 1), (25, .if_icmp .eq 5, 3), (28, .iconst 0, 1), (29, .ireturn, 1), (30, .iload_n 2, 1), (31, .bipush 8, 2), (33, .if_icmp .ge 13, 3), (36, .aload_n 0, 1), (37, .iconst 0, 1), (38, .iload_n 2, 1), (39, .iload_n 3, 1), (40, .aload 4, 2), (42, .invokevirtual 31, 3), (45, .ireturn, 1), (46, .iload_n 2, 1), (47, .bipush 8, 2), (49, .idiv, 1), (50, .iconst 1, 1), (51, .isub, 1), (52, .istore 5, 2), (54, .aload_n 0, 1), (55, .getfield 14, 3), (58, .iconst 0, 1), (59, .iload 5, 2), (61, .invokevirtual 35, 3), (64, .istore 6, 2), (66, .iload 6, 2), (68, .ifCond .lt 38, 3), (71, .aload_n 0, 1), (72, .getfield 14, 3), (75, .iload 6, 2), (77, .invokevirtual 27, 3), (80, .iconst 4, 1), (81, .if_icmp .ne 23, 3), (84, .aload_n 0, 1), (85, .iload 6, 2), (87, .iload_n 2, 1), (88, .bipush 8, 2), (90, .irem, 1), (91, .iload_n 3, 1), (92, .aload 4, 2), (94, .invokevirtual 31, 3), (97, .ifCond .eq 7, 3), (100, .iconst 1, 1), (101, .goto 4, 3), (104, .iconst 0, 1), (105, .ireturn, 1), (106, .iload_n 3, 1), (107, .iconst 1, 1), (108, .if_icmp .eq 13, 3), (111, .iload_n 3, 1), (112, .iconst 4, 1), (113, .if_icmp .eq 8, 3), (116, .iload_n 3, 1), (117, .iconst 5, 1), (118, .if_icmp .ne 5, 3), (121, .iconst 1, 1), (122, .ireturn, 1), (123, .aload_n 0, 1), (124, .getfield 20, 3), (127, .sipush 5000, 3), (130, .invokevirtual 39, 3), (133, .aload_n 0, 1), (134, .getfield 14, 3), (137, .iconst 0, 1), (138, .iload 5, 2), (140, .aload_n 0, 1), (141, .getfield 20, 3), (144, .invokevirtual 41, 3), (147, .aload_n 0, 1), (148, .aload_n 0, 1), (149, .getfield 14, 3), (152, .iconst 0, 1), (153, .iload 5, 2), (155, .invokevirtual 35, 3), (158, .iload_n 2, 1), (159, .bipush 8, 2), (161, .irem, 1), (162, .iload_n 3, 1), (163, .aload 4, 2), (165, .invokevirtual 31, 3), (168, .ireturn, 1)]
def MX1_canEdit : x_MT := (RX1, yX1_canEdit, cX1_canEdit, 7, some .boolean, 6, 147, iX1_canEdit)
theorem okX1_canEdit : x_MOk MX1_canEdit := ⟨by decide +kernel, tb4_of 91 rfl rfl, by decide +kernel, rfl, tb1_of 7 rfl rfl, by decide +kernel⟩
def iX2_init : List (Nat × Instr × Nat) := [(0, .aload_n 0, 1), (1, .invokespecial 3, 3), (4, .aload_n 0, 1), (5, .new 9, 3), (8, .dup, 1), (9, .bipush 72, 2), (11, .invokespecial 11, 3), (14, .putfield 14, 3), (17, .aload_n 0, 1), (18, .iconst 0, 1), (19, .putfield 20, 3), (22, .aload_n 0, 1), (23, .iconst 0, 1), (24, .putfield 24, 3), (27, .return_, 1)]
def MX2_init : x_MT := (RX2, yX2_init, cX2_init, 1, none, 2, 41, iX2_init)
theorem okX2_init : x_MOk MX2_init := ⟨by decide +kernel, tb1_of 223 rfl rfl, by decide +kernel, rfl, tb1_of 11 rfl rfl, by decide +kernel⟩
def iX2_become : List (Nat × Instr × Nat) := [(0, .aload_n 0, 1), (1, .iload_n 1, 1), (2, .putfield 20, 3), (5, .aload_n 0, 1), (6, .iload_n 2, 1), (7, .putfield 24, 3), (10, .aload_n 0, 1), (11, .getfield 14, 3), (14, .aload_n 3, 1), (15, .invokevirtual 27, 3), (18, .return_, 1)]
def MX2_become : x_MT := (RX2, yX2_become, cX2_become, 4, none, 4, 95, iX2_become)
theorem okX2_become : x_MOk MX2_become := ⟨by decide +kernel, tb5_of 8 rfl rfl, by decide +kernel, rfl, tb1_of 11 rfl rfl, by decide +kernel⟩
def iX2_shape : List (Nat × Instr × Nat) := [(0, .aload_n 0, 1), (1, .getfield 20, 3), (4, .iconst 5, 1), (5, .imul, 1), (6, .aload_n 0, 1), (7, .getfield 24, 3), (10, .iadd, 1), (11, .iconst 1, 1), (12, .iadd, 1), (13, .ireturn, 1)]
def MX2_shape : x_MT := (RX2, yX2_shape, cX2_shape, 1, some .int, 0, 0, iX2_shape)
theorem okX2_shape : x_MOk MX2_shape := ⟨by decide +kernel, tb5_of 32 rfl rfl, by decide +kernel, rfl, tb1_of 11 rfl rfl, by decide +kernel⟩
def iX2_isFor : List (Nat × Instr × Nat) := [(0, .aload_n 0, 1), (1, .getfield 20, 3), (4, .iload_n 1, 1), (5, .if_icmp .ne 30, 3), (8, .aload_n 0, 1), (9, .getfield 24, 3), (12, .ifCond .eq 19, 3), (15, .aload_n 0, 1), (16, .getfield 24, 3), (19, .iconst 1, 1), (20, .if_icmp .eq 11, 3), (23, .aload_n 0, 1), (24, .getfield 24, 3), (27, .iconst 2, 1), (28, .if_icmp .ne 7, 3), (31, .iconst 1, 1), (32, .goto 4, 3), (35, .iconst 0, 1), (36, .ireturn, 1)]
def MX2_isFor : x_MT := (RX2, yX2_isFor, cX2_isFor, 2, some .boolean, 0, 0, iX2_isFor)
theorem okX2_isFor : x_MOk MX2_isFor := ⟨by decide +kernel, tb5_of 51 rfl rfl, by decide +kernel, rfl, tb1_of 11 rfl rfl, by decide +kernel⟩
def iX6_size : List (Nat × Instr × Nat) := [(0, .aload_n 0, 1), (1, .getfield 15, 3), (4, .ireturn, 1)]
def MX6_size : x_MT := (RX6, yX6_size, cX6_size, 1, some .int, 0, 0, iX6_size)
theorem okX6_size : x_MOk MX6_size := ⟨by decide +kernel, tb2_of 178 rfl rfl, by decide +kernel, rfl, tb1_of 9 rfl rfl, by decide +kernel⟩
def iX6_at : List (Nat × Instr × Nat) := [(0, .iload_n 1, 1), (1, .ifCond .lt 29, 3), (4, .iload_n 1, 1), (5, .aload_n 0, 1), (6, .getfield 15, 3), (9, .if_icmp .ge 21, 3), (12, .iload_n 1, 1), (13, .aload_n 0, 1), (14, .getfield 9, 3), (17, .arraylength, 1), (18, .if_icmp .ge 12, 3), (21, .aload_n 0, 1), (22, .getfield 9, 3), (25, .iload_n 1, 1), (26, .iaload, 1), (27, .goto 4, 3), (30, .iconst (-1), 1), (31, .ireturn, 1)]
def MX6_at : x_MT := (RX6, yX6_at, cX6_at, 2, some .int, 0, 0, iX6_at)
theorem okX6_at : x_MOk MX6_at := ⟨by decide +kernel, tb2_of 182 rfl rfl, by decide +kernel, rfl, tb1_of 9 rfl rfl, by decide +kernel⟩
def iX10_widthAt : List (Nat × Instr × Nat) := [(0, .iconst 0, 1), (1, .istore_n 2, 1), (2, .iconst 0, 1), (3, .istore_n 3, 1), (4, .iload_n 1, 1), (5, .istore 4, 2), (7, .iload 4, 2), (9, .aload_n 0, 1), (10, .getfield 9, 3), (13, .if_icmp .ge 46, 3), (16, .aload_n 0, 1), (17, .iload 4, 2), (19, .invokevirtual 19, 3), (22, .istore 5, 2), (24, .iload_n 2, 1), (25, .iconst 1, 1), (26, .if_icmp .ne 13, 3), (29, .iload 5, 2), (31, .bipush 9, 2), (33, .if_icmp .lt 6, 3), (36, .iinc 3 1, 3), (39, .iload_n 2, 1), (40, .iload 5, 2), (42, .invokestatic 23, 3), (45, .iadd, 1), (46, .istore_n 2, 1), (47, .iload_n 2, 1), (48, .ifCond .gt 5, 3), (51, .iload_n 3, 1), (52, .ireturn, 1), (53, .iinc 4 1, 3), (56, .goto (-49), 3), (59, .iload_n 3, 1), (60, .ireturn, 1)]
def MX10_widthAt : x_MT := (RX10, yX10_widthAt, cX10_widthAt, 6, some .int, 1, 21, iX10_widthAt)
theorem okX10_widthAt : x_MOk MX10_widthAt := ⟨by decide +kernel, tb2_of 194 rfl rfl, by decide +kernel, rfl, tb1_of 3 rfl rfl, by decide +kernel⟩
def iX2_isBeyond : List (Nat × Instr × Nat) := [(0, .aload_n 0, 1), (1, .getfield 24, 3), (4, .iconst 1, 1), (5, .if_icmp .ne 23, 3), (8, .iload_n 1, 1), (9, .aload_n 0, 1), (10, .getfield 14, 3), (13, .iconst 0, 1), (14, .invokevirtual 45, 3), (17, .if_icmp .ge 7, 3), (20, .iconst 1, 1), (21, .goto 24, 3), (24, .iconst 0, 1), (25, .goto 20, 3), (28, .iload_n 1, 1), (29, .aload_n 0, 1), (30, .getfield 14, 3), (33, .iconst 0, 1), (34, .invokevirtual 45, 3), (37, .if_icmp .le 7, 3), (40, .iconst 1, 1), (41, .goto 4, 3), (44, .iconst 0, 1), (45, .ireturn, 1)]
def MX2_isBeyond : x_MT := (RX2, yX2_isBeyond, cX2_isBeyond, 2, some .boolean, 1, 21, iX2_isBeyond)
theorem okX2_isBeyond : x_MOk MX2_isBeyond := ⟨by decide +kernel, tb2_of 203 rfl rfl, by decide +kernel, rfl, tb1_of 11 rfl rfl, by decide +kernel⟩
def iX2_fits : List (Nat × Instr × Nat) := [(0, .aload_n 1, 1), (1, .iload_n 2, 1), (2, .invokevirtual 48, 3), (5, .istore_n 3, 1), (6, .aload_n 0, 1), (7, .getfield 24, 3), (10, .tableswitch 82 0 4 #[34, 82, 82, 53, 55], 34), (44, .aload_n 1, 1), (45, .iload_n 2, 1), (46, .aload_n 0, 1), (47, .getfield 14, 3), (50, .iconst 0, 1), (51, .invokestatic 51, 3), (54, .ifCond .ne 7, 3), (57, .iconst 1, 1), (58, .goto 4, 3), (61, .iconst 0, 1), (62, .ireturn, 1), (63, .iconst 1, 1), (64, .ireturn, 1), (65, .iload_n 3, 1), (66, .iconst 3, 1), (67, .if_icmp .ne 23, 3), (70, .aload_n 1, 1), (71, .iload_n 2, 1), (72, .invokevirtual 55, 3), (75, .aload_n 0, 1), (76, .getfield 14, 3), (79, .iconst 0, 1), (80, .invokevirtual 58, 3), (83, .if_icmp .ne 7, 3), (86, .iconst 1, 1), (87, .goto 4, 3), (90, .iconst 0, 1), (91, .ireturn, 1), (92, .iload_n 3, 1), (93, .iconst 1, 1), (94, .if_icmp .eq 8, 3), (97, .iload_n 3, 1), (98, .iconst 2, 1), (99, .if_icmp .ne 31, 3), (102, .iload_n 3, 1), (103, .aload_n 0, 1), (104, .getfield 14, 3), (107, .iconst 0, 1), (108, .invokevirtual 48, 3), (111, .if_icmp .ne 19, 3), (114, .aload_n 0, 1), (115, .aload_n 1, 1), (116, .iload_n 2, 1), (117, .invokevirtual 45, 3), (120, .invokevirtual 61, 3), (123, .ifCond .eq 7, 3), (126, .iconst 1, 1), (127, .goto 4, 3), (130, .iconst 0, 1), (131, .ireturn, 1)]
def MX2_fits : x_MT := (RX2, yX2_fits, cX2_fits, 4, some .boolean, 2, 48, iX2_fits)
theorem okX2_fits : x_MOk MX2_fits := ⟨by decide +kernel, tb2_of 186 rfl rfl, by decide +kernel, rfl, tb1_of 11 rfl rfl, by decide +kernel⟩
def iX2_fitsSome : List (Nat × Instr × Nat) := [(0, .iconst 0, 1), (1, .istore_n 3, 1), (2, .iload_n 3, 1), (3, .aload_n 2, 1), (4, .invokevirtual 31, 3), (7, .if_icmp .ge 24, 3), (10, .aload_n 0, 1), (11, .aload_n 1, 1), (12, .aload_n 2, 1), (13, .iload_n 3, 1), (14, .invokevirtual 37, 3), (17, .invokevirtual 41, 3), (20, .ifCond .eq 5, 3), (23, .iconst 1, 1), (24, .ireturn, 1), (25, .iinc 3 1, 3), (28, .goto (-26), 3), (31, .iconst 0, 1), (32, .ireturn, 1)]
def MX2_fitsSome : x_MT := (RX2, yX2_fitsSome, cX2_fitsSome, 4, some .boolean, 3, 71, iX2_fitsSome)
theorem okX2_fitsSome : x_MOk MX2_fitsSome := ⟨by decide +kernel, tb2_of 174 rfl rfl, by decide +kernel, rfl, tb1_of 11 rfl rfl, by decide +kernel⟩
def iX2_fitsNothing : List (Nat × Instr × Nat) := [(0, .aload_n 0, 1), (1, .getfield 24, 3), (4, .ifCond .ne 20, 3), (7, .aload_n 0, 1), (8, .getfield 14, 3), (11, .iconst 0, 1), (12, .invokevirtual 45, 3), (15, .bipush 9, 2), (17, .if_icmp .ne 7, 3), (20, .iconst 1, 1), (21, .goto 4, 3), (24, .iconst 0, 1), (25, .ireturn, 1)]
def MX2_fitsNothing : x_MT := (RX2, yX2_fitsNothing, cX2_fitsNothing, 1, some .boolean, 1, 21, iX2_fitsNothing)
theorem okX2_fitsNothing : x_MOk MX2_fitsNothing := ⟨by decide +kernel, tb5_of 69 rfl rfl, by decide +kernel, rfl, tb1_of 11 rfl rfl, by decide +kernel⟩
def iX6_init : List (Nat × Instr × Nat) := [(0, .aload_n 0, 1), (1, .invokespecial 3, 3), (4, .aload_n 0, 1), (5, .bipush 24, 2), (7, .newarray .int, 2), (9, .putfield 9, 3), (12, .aload_n 0, 1), (13, .iconst 0, 1), (14, .putfield 15, 3), (17, .return_, 1)]
def MX6_init : x_MT := (RX6, yX6_init, cX6_init, 1, none, 1, 20, iX6_init)
theorem okX6_init : x_MOk MX6_init := ⟨by decide +kernel, tb1_of 181 rfl rfl, by decide +kernel, rfl, tb1_of 9 rfl rfl, by decide +kernel⟩
def iX3_init : List (Nat × Instr × Nat) := [(0, .aload_n 0, 1), (1, .invokespecial 3, 3), (4, .aload_n 0, 1), (5, .sipush 1440, 3), (8, .newarray .long, 2), (10, .putfield 11, 3), (13, .aload_n 0, 1), (14, .sipush 1440, 3), (17, .newarray .int, 2), (19, .putfield 15, 3), (22, .aload_n 0, 1), (23, .sipush 1440, 3), (26, .newarray .long, 2), (28, .putfield 19, 3), (31, .aload_n 0, 1), (32, .sipush 1440, 3), (35, .newarray .int, 2), (37, .putfield 22, 3), (40, .aload_n 0, 1), (41, .sipush 1440, 3), (44, .newarray .int, 2), (46, .putfield 25, 3), (49, .aload_n 0, 1), (50, .new 28, 3), (53, .dup, 1), (54, .invokespecial 30, 3), (57, .putfield 31, 3), (60, .aload_n 0, 1), (61, .iconst 0, 1), (62, .putfield 35, 3), (65, .return_, 1)]
def MX3_init : x_MT := (RX3, yX3_init, cX3_init, 1, none, 2, 40, iX3_init)
theorem okX3_init : x_MOk MX3_init := ⟨by decide +kernel, tb2_of 35 rfl rfl, by decide +kernel, rfl, tb1_of 12 rfl rfl, by decide +kernel⟩
def iX3_size : List (Nat × Instr × Nat) := [(0, .aload_n 0, 1), (1, .getfield 35, 3), (4, .ireturn, 1)]
def MX3_size : x_MT := (RX3, yX3_size, cX3_size, 1, some .int, 0, 0, iX3_size)
theorem okX3_size : x_MOk MX3_size := ⟨by decide +kernel, tb5_of 188 rfl rfl, by decide +kernel, rfl, tb1_of 12 rfl rfl, by decide +kernel⟩
def iX3_tell : List (Nat × Instr × Nat) := [(0, .iload_n 1, 1), (1, .ifCond .lt 18, 3), (4, .iload_n 1, 1), (5, .aload_n 0, 1), (6, .getfield 35, 3), (9, .if_icmp .ge 10, 3), (12, .iload_n 1, 1), (13, .sipush 1440, 3), (16, .if_icmp .lt 5, 3), (19, .lconst 0, 1), (20, .lreturn, 1), (21, .iload_n 2, 1), (22, .ifCond .ne 10, 3), (25, .aload_n 0, 1), (26, .getfield 11, 3), (29, .iload_n 1, 1), (30, .laload, 1), (31, .lreturn, 1), (32, .iload_n 2, 1), (33, .iconst 1, 1), (34, .if_icmp .ne 13, 3), (37, .aload_n 0, 1), (38, .getfield 15, 3), (41, .iload_n 1, 1), (42, .iaload, 1), (43, .i2l, 1), (44, .goto 9, 3), (47, .aload_n 0, 1), (48, .getfield 19, 3), (51, .iload_n 1, 1), (52, .laload, 1), (53, .lreturn, 1)]
def MX3_tell : x_MT := (RX3, yX3_tell, cX3_tell, 3, some .long, 0, 0, iX3_tell)
theorem okX3_tell : x_MOk MX3_tell := ⟨by decide +kernel, tb5_of 193 rfl rfl, by decide +kernel, rfl, tb1_of 12 rfl rfl, by decide +kernel⟩
def iX7_foundSize : List (Nat × Instr × Nat) := [(0, .aload_n 0, 1), (1, .getfield 37, 3), (4, .ireturn, 1)]
def MX7_foundSize : x_MT := (RX7, yX7_foundSize, cX7_foundSize, 1, some .int, 0, 0, iX7_foundSize)
theorem okX7_foundSize : x_MOk MX7_foundSize := ⟨by decide +kernel, tb5_of 101 rfl rfl, by decide +kernel, rfl, tb1_of 10 rfl rfl, by decide +kernel⟩
def iX7_foundAt : List (Nat × Instr × Nat) := [(0, .iload_n 1, 1), (1, .ifCond .lt 29, 3), (4, .iload_n 1, 1), (5, .aload_n 0, 1), (6, .getfield 37, 3), (9, .if_icmp .ge 21, 3), (12, .iload_n 1, 1), (13, .aload_n 0, 1), (14, .getfield 29, 3), (17, .arraylength, 1), (18, .if_icmp .ge 12, 3), (21, .aload_n 0, 1), (22, .getfield 29, 3), (25, .iload_n 1, 1), (26, .iaload, 1), (27, .goto 4, 3), (30, .iconst (-1), 1), (31, .ireturn, 1)]
def MX7_foundAt : x_MT := (RX7, yX7_foundAt, cX7_foundAt, 2, some .int, 0, 0, iX7_foundAt)
theorem okX7_foundAt : x_MOk MX7_foundAt := ⟨by decide +kernel, tb5_of 106 rfl rfl, by decide +kernel, rfl, tb1_of 10 rfl rfl, by decide +kernel⟩
def iX6_note : List (Nat × Instr × Nat) := [(0, .aload_n 0, 1), (1, .getfield 15, 3), (4, .ifCond .lt 35, 3), (7, .aload_n 0, 1), (8, .getfield 15, 3), (11, .aload_n 0, 1), (12, .getfield 9, 3), (15, .arraylength, 1), (16, .if_icmp .ge 23, 3), (19, .aload_n 0, 1), (20, .getfield 9, 3), (23, .aload_n 0, 1), (24, .getfield 15, 3), (27, .iload_n 1, 1), (28, .iastore, 1), (29, .aload_n 0, 1), (30, .dup, 1), (31, .getfield 15, 3), (34, .iconst 1, 1), (35, .iadd, 1), (36, .putfield 15, 3), (39, .return_, 1)]
def MX6_note : x_MT := (RX6, yX6_note, cX6_note, 2, none, 0, 0, iX6_note)
theorem okX6_note : x_MOk MX6_note := ⟨by decide +kernel, tb2_of 160 rfl rfl, by decide +kernel, rfl, tb1_of 9 rfl rfl, by decide +kernel⟩
def iX6_take : List (Nat × Instr × Nat) := [(0, .iload_n 2, 1), (1, .ifCond .ge 4, 3), (4, .return_, 1), (5, .aload_n 0, 1), (6, .iload_n 2, 1), (7, .invokevirtual 46, 3), (10, .aload_n 1, 1), (11, .iload_n 2, 1), (12, .invokevirtual 40, 3), (15, .sipush 4000, 3), (18, .if_icmp .eq 4, 3), (21, .return_, 1), (22, .iconst 0, 1), (23, .istore_n 3, 1), (24, .iload_n 2, 1), (25, .iconst 1, 1), (26, .iadd, 1), (27, .istore 4, 2), (29, .iload 4, 2), (31, .aload_n 1, 1), (32, .getfield 37, 3), (35, .if_icmp .ge 44, 3), (38, .iload_n 3, 1), (39, .ifCond .lt 40, 3), (42, .aload_n 1, 1), (43, .iload 4, 2), (45, .invokevirtual 40, 3), (48, .istore 5, 2), (50, .iload_n 3, 1), (51, .ifCond .ne 14, 3), (54, .iload 5, 2), (56, .ifCond .eq 9, 3), (59, .aload_n 0, 1), (60, .iload 4, 2), (62, .invokevirtual 46, 3), (65, .iload_n 3, 1), (66, .iload 5, 2), (68, .invokestatic 43, 3), (71, .iadd, 1), (72, .istore_n 3, 1), (73, .iinc 4 1, 3), (76, .goto (-47), 3), (79, .return_, 1)]
def MX6_take : x_MT := (RX6, yX6_take, cX6_take, 6, none, 1, 21, iX6_take)
theorem okX6_take : x_MOk MX6_take := ⟨by decide +kernel, tb2_of 156 rfl rfl, by decide +kernel, rfl, tb1_of 9 rfl rfl, by decide +kernel⟩
def iX6_takeOfEach : List (Nat × Instr × Nat) := [(0, .iconst 0, 1), (1, .istore 4, 2), (3, .iload_n 2, 1), (4, .iconst 1, 1), (5, .iadd, 1), (6, .istore 5, 2), (8, .iload 5, 2), (10, .aload_n 1, 1), (11, .getfield 37, 3), (14, .if_icmp .ge 55, 3), (17, .iload 4, 2), (19, .ifCond .lt 50, 3), (22, .aload_n 1, 1), (23, .iload 5, 2), (25, .invokevirtual 40, 3), (28, .istore 6, 2), (30, .iload 4, 2), (32, .iconst 1, 1), (33, .if_icmp .ne 20, 3), (36, .iload 6, 2), (38, .iconst 1, 1), (39, .iload_n 3, 1), (40, .iadd, 1), (41, .if_icmp .ne 12, 3), (44, .aload_n 0, 1), (45, .aload_n 1, 1), (46, .iload 5, 2), (48, .iconst 1, 1), (49, .iadd, 1), (50, .invokevirtual 25, 3), (53, .iload 4, 2), (55, .iload 6, 2), (57, .invokestatic 43, 3), (60, .iadd, 1), (61, .istore 4, 2), (63, .iinc 5 1, 3), (66, .goto (-58), 3), (69, .return_, 1)]
def MX6_takeOfEach : x_MT := (RX6, yX6_takeOfEach, cX6_takeOfEach, 7, none, 2, 46, iX6_takeOfEach)
theorem okX6_takeOfEach : x_MOk MX6_takeOfEach := ⟨by decide +kernel, tb2_of 170 rfl rfl, by decide +kernel, rfl, tb1_of 9 rfl rfl, by decide +kernel⟩
def iX6_gather : List (Nat × Instr × Nat) := [(0, .aload_n 0, 1), (1, .iconst 0, 1), (2, .putfield 15, 3), (5, .iload_n 2, 1), (6, .bipush 8, 2), (8, .if_icmp .ge 15, 3), (11, .aload_n 0, 1), (12, .aload_n 1, 1), (13, .aload_n 1, 1), (14, .iconst 0, 1), (15, .iload_n 2, 1), (16, .invokevirtual 19, 3), (19, .invokevirtual 25, 3), (22, .return_, 1), (23, .aload_n 1, 1), (24, .iconst 0, 1), (25, .iload_n 2, 1), (26, .bipush 8, 2), (28, .idiv, 1), (29, .iconst 1, 1), (30, .isub, 1), (31, .invokevirtual 19, 3), (34, .istore_n 3, 1), (35, .iload_n 2, 1), (36, .bipush 8, 2), (38, .irem, 1), (39, .istore 4, 2), (41, .aload_n 1, 1), (42, .iload_n 3, 1), (43, .invokevirtual 29, 3), (46, .istore 5, 2), (48, .iload 5, 2), (50, .iconst 4, 1), (51, .if_icmp .ne 15, 3), (54, .aload_n 0, 1), (55, .aload_n 1, 1), (56, .aload_n 1, 1), (57, .iload_n 3, 1), (58, .iload 4, 2), (60, .invokevirtual 19, 3), (63, .invokevirtual 25, 3), (66, .iload 5, 2), (68, .iconst 3, 1), (69, .if_icmp .ne 11, 3), (72, .aload_n 0, 1), (73, .aload_n 1, 1), (74, .iload_n 3, 1), (75, .iload 4, 2), (77, .invokevirtual 33, 3), (80, .return_, 1)]
def MX6_gather : x_MT := (RX6, yX6_gather, cX6_gather, 6, none, 3, 72, iX6_gather)
theorem okX6_gather : x_MOk MX6_gather := ⟨by decide +kernel, tb2_of 137 rfl rfl, by decide +kernel, rfl, tb1_of 9 rfl rfl, by decide +kernel⟩
def iX3_sumOf : List (Nat × Instr × Nat) := [(0, .aload_n 0, 1), (1, .getfield 31, 3), (4, .aload_n 1, 1), (5, .iload_n 2, 1), (6, .invokevirtual 73, 3), (9, .lconst 0, 1), (10, .lstore_n 3, 1), (11, .iconst 0, 1), (12, .istore 5, 2), (14, .iload 5, 2), (16, .aload_n 0, 1), (17, .getfield 31, 3), (20, .invokevirtual 77, 3), (23, .if_icmp .ge 40, 3), (26, .aload_n 0, 1), (27, .getfield 31, 3), (30, .iload 5, 2), (32, .invokevirtual 80, 3), (35, .istore 6, 2), (37, .aload_n 1, 1), (38, .iload 6, 2), (40, .invokevirtual 82, 3), (43, .iconst 1, 1), (44, .if_icmp .ne 13, 3), (47, .lload_n 3, 1), (48, .aload_n 1, 1), (49, .iload 6, 2), (51, .invokevirtual 85, 3), (54, .i2l, 1), (55, .ladd, 1), (56, .lstore_n 3, 1), (57, .iinc 5 1, 3), (60, .goto (-46), 3), (63, .lload_n 3, 1), (64, .lreturn, 1)]
def MX3_sumOf : x_MT := (RX3, yX3_sumOf, cX3_sumOf, 7, some .long, 4, 97, iX3_sumOf)
theorem okX3_sumOf : x_MOk MX3_sumOf := ⟨by decide +kernel, tb5_of 141 rfl rfl, by decide +kernel, rfl, tb1_of 12 rfl rfl, by decide +kernel⟩
def iX3_orderTo : List (Nat × Instr × Nat) := [(0, .iload_n 2, 1), (1, .ifCond .lt 10, 3), (4, .iload_n 2, 1), (5, .sipush 1440, 3), (8, .if_icmp .lt 5, 3), (11, .iconst 0, 1), (12, .ireturn, 1), (13, .aload_n 1, 1), (14, .aload_n 0, 1), (15, .getfield 22, 3), (18, .iload_n 2, 1), (19, .iaload, 1), (20, .invokevirtual 55, 3), (23, .aload_n 0, 1), (24, .getfield 25, 3), (27, .iload_n 2, 1), (28, .iaload, 1), (29, .aload_n 3, 1), (30, .iload 4, 2), (32, .invokestatic 100, 3), (35, .ireturn, 1)]
def MX3_orderTo : x_MT := (RX3, yX3_orderTo, cX3_orderTo, 5, some .int, 2, 48, iX3_orderTo)
theorem okX3_orderTo : x_MOk MX3_orderTo := ⟨by decide +kernel, tb5_of 158 rfl rfl, by decide +kernel, rfl, tb1_of 12 rfl rfl, by decide +kernel⟩
def iX3_makeGroup : List (Nat × Instr × Nat) := [(0, .iload_n 1, 1), (1, .ifCond .lt 21, 3), (4, .iload_n 1, 1), (5, .aload_n 0, 1), (6, .getfield 35, 3), (9, .if_icmp .gt 13, 3), (12, .aload_n 0, 1), (13, .getfield 35, 3), (16, .sipush 1440, 3), (19, .if_icmp .lt 5, 3), (22, .iconst (-1), 1), (23, .ireturn, 1), (24, .aload_n 0, 1), (25, .getfield 35, 3), (28, .istore 4, 2), (30, .iload 4, 2), (32, .iload_n 1, 1), (33, .if_icmp .le 73, 3), (36, .aload_n 0, 1), (37, .getfield 15, 3), (40, .iload 4, 2), (42, .aload_n 0, 1), (43, .getfield 15, 3), (46, .iload 4, 2), (48, .iconst 1, 1), (49, .isub, 1), (50, .iaload, 1), (51, .iastore, 1), (52, .aload_n 0, 1), (53, .getfield 19, 3), (56, .iload 4, 2), (58, .aload_n 0, 1), (59, .getfield 19, 3), (62, .iload 4, 2), (64, .iconst 1, 1), (65, .isub, 1), (66, .laload, 1), (67, .lastore, 1), (68, .aload_n 0, 1), (69, .getfield 22, 3), (72, .iload 4, 2), (74, .aload_n 0, 1), (75, .getfield 22, 3), (78, .iload 4, 2), (80, .iconst 1, 1), (81, .isub, 1), (82, .iaload, 1), (83, .iastore, 1), (84, .aload_n 0, 1), (85, .getfield 25, 3), (88, .iload 4, 2), (90, .aload_n 0, 1), (91, .getfield 25, 3), (94, .iload 4, 2), (96, .iconst 1, 1), (97, .isub, 1), (98, .iaload, 1), (99, .iastore, 1), (100, .iinc 4 (-1), 3), (103, .goto (-73), 3), (106, .aload_n 0, 1), (107, .getfield 15, 3), (110, .iload_n 1, 1), (111, .iconst 0, 1), (112, .iastore, 1), (113, .aload_n 0, 1), (114, .getfield 19, 3), (117, .iload_n 1, 1), (118, .lconst 0, 1), (119, .lastore, 1), (120, .aload_n 0, 1), (121, .getfield 22, 3), (124, .iload_n 1, 1), (125, .iload_n 2, 1), (126, .iastore, 1), (127, .aload_n 0, 1), (128, .getfield 25, 3), (131, .iload_n 1, 1), (132, .iload_n 3, 1), (133, .iastore, 1), (134, .aload_n 0, 1), (135, .dup, 1), (136, .getfield 35, 3), (139, .iconst 1, 1), (140, .iadd, 1), (141, .putfield 35, 3), (144, .iload_n 1, 1), (145, .ireturn, 1)]
def MX3_makeGroup : x_MT := (RX3, yX3_makeGroup, cX3_makeGroup, 5, some .int, 0, 0, iX3_makeGroup)
theorem okX3_makeGroup : x_MOk MX3_makeGroup := ⟨by decide +kernel, tb5_of 163 rfl rfl, by decide +kernel, rfl, tb1_of 12 rfl rfl, by decide +kernel⟩
def iX3_groupFor : List (Nat × Instr × Nat) := [(0, .aload_n 1, 1), (1, .iload_n 2, 1), (2, .invokevirtual 55, 3), (5, .astore 4, 2), (7, .iconst 0, 1), (8, .istore 5, 2), (10, .aload_n 0, 1), (11, .getfield 35, 3), (14, .istore 6, 2), (16, .iconst 0, 1), (17, .istore 7, 2), (19, .iload 7, 2), (21, .sipush 1440, 3), (24, .if_icmp .ge 63, 3), (27, .iload 5, 2), (29, .iload 6, 2), (31, .if_icmp .ge 56, 3), (34, .iload 5, 2), (36, .iload 6, 2), (38, .iadd, 1), (39, .iconst 2, 1), (40, .idiv, 1), (41, .istore 8, 2), (43, .aload_n 0, 1), (44, .aload_n 1, 1), (45, .iload 8, 2), (47, .aload 4, 2), (49, .iload_n 3, 1), (50, .invokevirtual 92, 3), (53, .istore 9, 2), (55, .iload 9, 2), (57, .ifCond .ne 6, 3), (60, .iload 8, 2), (62, .ireturn, 1), (63, .iload 9, 2), (65, .ifCond .ge 12, 3), (68, .iload 8, 2), (70, .iconst 1, 1), (71, .iadd, 1), (72, .istore 5, 2), (74, .goto 7, 3), (77, .iload 8, 2), (79, .istore 6, 2), (81, .iinc 7 1, 3), (84, .goto (-65), 3), (87, .aload_n 0, 1), (88, .iload 5, 2), (90, .iload_n 2, 1), (91, .iload_n 3, 1), (92, .invokevirtual 96, 3), (95, .ireturn, 1)]
def MX3_groupFor : x_MT := (RX3, yX3_groupFor, cX3_groupFor, 10, some .int, 3, 72, iX3_groupFor)
theorem okX3_groupFor : x_MOk MX3_groupFor := ⟨by decide +kernel, tb5_of 154 rfl rfl, by decide +kernel, rfl, tb1_of 12 rfl rfl, by decide +kernel⟩
def iX3_takeIn : List (Nat × Instr × Nat) := [(0, .aload_n 1, 1), (1, .iload_n 2, 1), (2, .invokevirtual 55, 3), (5, .astore 6, 2), (7, .aload_n 0, 1), (8, .getfield 31, 3), (11, .aload 6, 2), (13, .iload_n 3, 1), (14, .invokevirtual 73, 3), (17, .iconst 0, 1), (18, .istore 7, 2), (20, .iload 7, 2), (22, .aload_n 0, 1), (23, .getfield 31, 3), (26, .invokevirtual 77, 3), (29, .if_icmp .ge 77, 3), (32, .aload_n 0, 1), (33, .getfield 31, 3), (36, .iload 7, 2), (38, .invokevirtual 80, 3), (41, .istore 8, 2), (43, .aload 6, 2), (45, .iload 8, 2), (47, .invokevirtual 82, 3), (50, .iconst 3, 1), (51, .if_icmp .eq 49, 3), (54, .aload_n 0, 1), (55, .aload_n 1, 1), (56, .iload_n 2, 1), (57, .iload 8, 2), (59, .invokevirtual 88, 3), (62, .istore 9, 2), (64, .iload 9, 2), (66, .ifCond .lt 34, 3), (69, .iload 9, 2), (71, .sipush 1440, 3), (74, .if_icmp .ge 26, 3), (77, .aload_n 0, 1), (78, .getfield 15, 3), (81, .iload 9, 2), (83, .dup2, 1), (84, .iaload, 1), (85, .iconst 1, 1), (86, .iadd, 1), (87, .iastore, 1), (88, .aload_n 0, 1), (89, .getfield 19, 3), (92, .iload 9, 2), (94, .dup2, 1), (95, .laload, 1), (96, .lload 4, 2), (98, .ladd, 1), (99, .lastore, 1), (100, .iinc 7 1, 3), (103, .goto (-83), 3), (106, .return_, 1)]
def MX3_takeIn : x_MT := (RX3, yX3_takeIn, cX3_takeIn, 10, none, 4, 101, iX3_takeIn)
theorem okX3_takeIn : x_MOk MX3_takeIn := ⟨by decide +kernel, tb5_of 150 rfl rfl, by decide +kernel, rfl, tb1_of 12 rfl rfl, by decide +kernel⟩
def iX10_printOn : List (Nat × Instr × Nat) := [(0, .iload_n 3, 1), (1, .ifCond .ne 5, 3), (4, .lload_n 1, 1), (5, .lreturn, 1), (6, .iload_n 3, 1), (7, .bipush 9, 2), (9, .if_icmp .ge 14, 3), (12, .ldc2_w 42, 3), (15, .lload_n 1, 1), (16, .lmul, 1), (17, .iload_n 3, 1), (18, .iconst 1, 1), (19, .isub, 1), (20, .i2l, 1), (21, .ladd, 1), (22, .lreturn, 1), (23, .aload_n 0, 1), (24, .iload 4, 2), (26, .invokevirtual 44, 3), (29, .istore 5, 2), (31, .ldc2_w 42, 3), (34, .lload_n 1, 1), (35, .lmul, 1), (36, .iload 5, 2), (38, .iconst 1, 1), (39, .iadd, 1), (40, .i2l, 1), (41, .ladd, 1), (42, .lstore 6, 2), (44, .iload 5, 2), (46, .iconst 1, 1), (47, .if_icmp .ne 18, 3), (50, .ldc2_w 42, 3), (53, .lload 6, 2), (55, .lmul, 1), (56, .aload_n 0, 1), (57, .iload 4, 2), (59, .invokevirtual 47, 3), (62, .i2l, 1), (63, .ladd, 1), (64, .lreturn, 1), (65, .iload 5, 2), (67, .iconst 2, 1), (68, .if_icmp .ne 18, 3), (71, .ldc2_w 42, 3), (74, .lload 6, 2), (76, .lmul, 1), (77, .aload_n 0, 1), (78, .iload 4, 2), (80, .invokevirtual 50, 3), (83, .i2l, 1), (84, .ladd, 1), (85, .lreturn, 1), (86, .iload 5, 2), (88, .ifCond .ne 8, 3), (91, .lload 6, 2), (93, .goto 17, 3), (96, .ldc2_w 42, 3), (99, .lload 6, 2), (101, .lmul, 1), (102, .aload_n 0, 1), (103, .iload 4, 2), (105, .invokevirtual 53, 3), (108, .i2l, 1), (109, .ladd, 1), (110, .lreturn, 1)]
def MX10_printOn : x_MT := (RX10, yX10_printOn, cX10_printOn, 8, some .long, 2, 46, iX10_printOn)
theorem okX10_printOn : x_MOk MX10_printOn := ⟨by decide +kernel, tb5_of 172 rfl rfl, by decide +kernel, rfl, tb1_of 3 rfl rfl, by decide +kernel⟩
def iX10_printAt : List (Nat × Instr × Nat) := [(0, .ldc2_w 36, 3), (3, .lstore_n 2, 1), (4, .iconst 0, 1), (5, .istore 4, 2), (7, .iload_n 1, 1), (8, .istore 5, 2), (10, .iload 5, 2), (12, .aload_n 0, 1), (13, .getfield 9, 3), (16, .if_icmp .ge 44, 3), (19, .aload_n 0, 1), (20, .iload 5, 2), (22, .invokevirtual 19, 3), (25, .istore 6, 2), (27, .aload_n 0, 1), (28, .lload_n 2, 1), (29, .iload 6, 2), (31, .iload 5, 2), (33, .invokevirtual 38, 3), (36, .lstore_n 2, 1), (37, .iload 4, 2), (39, .iload 6, 2), (41, .invokestatic 23, 3), (44, .iadd, 1), (45, .istore 4, 2), (47, .iload 4, 2), (49, .ifCond .gt 5, 3), (52, .lload_n 2, 1), (53, .lreturn, 1), (54, .iinc 5 1, 3), (57, .goto (-47), 3), (60, .lload_n 2, 1), (61, .lreturn, 1)]
def MX10_printAt : x_MT := (RX10, yX10_printAt, cX10_printAt, 7, some .long, 3, 73, iX10_printAt)
theorem okX10_printAt : x_MOk MX10_printAt := ⟨by decide +kernel, tb5_of 167 rfl rfl, by decide +kernel, rfl, tb1_of 3 rfl rfl, by decide +kernel⟩
def iX3_build : List (Nat × Instr × Nat) := [(0, .aload_n 0, 1), (1, .iconst 0, 1), (2, .putfield 35, 3), (5, .iconst 0, 1), (6, .istore 5, 2), (8, .iload 5, 2), (10, .aload_n 2, 1), (11, .invokevirtual 39, 3), (14, .if_icmp .ge 46, 3), (17, .aload_n 2, 1), (18, .iload 5, 2), (20, .invokevirtual 45, 3), (23, .istore 6, 2), (25, .aload_n 1, 1), (26, .iload 6, 2), (28, .invokevirtual 49, 3), (31, .ifCond .eq 23, 3), (34, .aload_n 0, 1), (35, .aload_n 1, 1), (36, .iload 6, 2), (38, .iload_n 3, 1), (39, .aload_n 0, 1), (40, .aload_n 1, 1), (41, .iload 6, 2), (43, .invokevirtual 55, 3), (46, .iload 4, 2), (48, .invokevirtual 59, 3), (51, .invokevirtual 63, 3), (54, .iinc 5 1, 3), (57, .goto (-49), 3), (60, .iconst 0, 1), (61, .istore 5, 2), (63, .iload 5, 2), (65, .aload_n 0, 1), (66, .getfield 35, 3), (69, .if_icmp .ge 45, 3), (72, .iload 5, 2), (74, .sipush 1440, 3), (77, .if_icmp .ge 37, 3), (80, .aload_n 0, 1), (81, .getfield 11, 3), (84, .iload 5, 2), (86, .aload_n 1, 1), (87, .aload_n 0, 1), (88, .getfield 22, 3), (91, .iload 5, 2), (93, .iaload, 1), (94, .invokevirtual 55, 3), (97, .aload_n 0, 1), (98, .getfield 25, 3), (101, .iload 5, 2), (103, .iaload, 1), (104, .invokevirtual 67, 3), (107, .lastore, 1), (108, .iinc 5 1, 3), (111, .goto (-48), 3), (114, .aload_n 0, 1), (115, .getfield 35, 3), (118, .ireturn, 1)]
def MX3_build : x_MT := (RX3, yX3_build, cX3_build, 7, some .int, 5, 130, iX3_build)
theorem okX3_build : x_MOk MX3_build := ⟨by decide +kernel, tb5_of 133 rfl rfl, by decide +kernel, rfl, tb1_of 12 rfl rfl, by decide +kernel⟩
def iX4_init : List (Nat × Instr × Nat) := [(0, .aload_n 0, 1), (1, .invokespecial 3, 3), (4, .aload_n 0, 1), (5, .iconst 3, 1), (6, .newarray .int, 2), (8, .putfield 9, 3), (11, .aload_n 0, 1), (12, .iconst 3, 1), (13, .newarray .boolean, 2), (15, .putfield 15, 3), (18, .aload_n 0, 1), (19, .sipush 512, 3), (22, .newarray .int, 2), (24, .putfield 19, 3), (27, .aload_n 0, 1), (28, .sipush 512, 3), (31, .newarray .int, 2), (33, .putfield 22, 3), (36, .aload_n 0, 1), (37, .sipush 512, 3), (40, .newarray .int, 2), (42, .putfield 25, 3), (45, .aload_n 0, 1), (46, .new 28, 3), (49, .dup, 1), (50, .invokespecial 30, 3), (53, .putfield 31, 3), (56, .aload_n 0, 1), (57, .iconst 0, 1), (58, .putfield 35, 3), (61, .iconst 0, 1), (62, .istore_n 1, 1), (63, .iload_n 1, 1), (64, .aload_n 0, 1), (65, .getfield 9, 3), (68, .arraylength, 1), (69, .if_icmp .ge 16, 3), (72, .aload_n 0, 1), (73, .getfield 9, 3), (76, .iload_n 1, 1), (77, .iconst (-1), 1), (78, .iastore, 1), (79, .iinc 1 1, 3), (82, .goto (-19), 3), (85, .return_, 1)]
def MX4_init : x_MT := (RX4, yX4_init, cX4_init, 2, none, 2, 40, iX4_init)
theorem okX4_init : x_MOk MX4_init := ⟨by decide +kernel, tb1_of 175 rfl rfl, by decide +kernel, rfl, tb1_of 8 rfl rfl, by decide +kernel⟩
def iX4_has : List (Nat × Instr × Nat) := [(0, .iload_n 1, 1), (1, .ifCond .lt 22, 3), (4, .iload_n 1, 1), (5, .iconst 3, 1), (6, .if_icmp .ge 17, 3), (9, .aload_n 0, 1), (10, .getfield 9, 3), (13, .iload_n 1, 1), (14, .iaload, 1), (15, .iconst (-1), 1), (16, .if_icmp .eq 7, 3), (19, .iconst 1, 1), (20, .goto 4, 3), (23, .iconst 0, 1), (24, .ireturn, 1)]
def MX4_has : x_MT := (RX4, yX4_has, cX4_has, 2, some .boolean, 0, 0, iX4_has)
theorem okX4_has : x_MOk MX4_has := ⟨by decide +kernel, tb4_of 212 rfl rfl, by decide +kernel, rfl, tb1_of 8 rfl rfl, by decide +kernel⟩
def iX4_pathOf : List (Nat × Instr × Nat) := [(0, .iload_n 1, 1), (1, .ifCond .lt 17, 3), (4, .iload_n 1, 1), (5, .iconst 3, 1), (6, .if_icmp .ge 12, 3), (9, .aload_n 0, 1), (10, .getfield 9, 3), (13, .iload_n 1, 1), (14, .iaload, 1), (15, .goto 4, 3), (18, .iconst (-1), 1), (19, .ireturn, 1)]
def MX4_pathOf : x_MT := (RX4, yX4_pathOf, cX4_pathOf, 2, some .int, 0, 0, iX4_pathOf)
theorem okX4_pathOf : x_MOk MX4_pathOf := ⟨by decide +kernel, tb5_of 47 rfl rfl, by decide +kernel, rfl, tb1_of 8 rfl rfl, by decide +kernel⟩
def iX4_hasPath : List (Nat × Instr × Nat) := [(0, .iconst 0, 1), (1, .istore_n 2, 1), (2, .iload_n 2, 1), (3, .aload_n 0, 1), (4, .getfield 9, 3), (7, .arraylength, 1), (8, .if_icmp .ge 21, 3), (11, .aload_n 0, 1), (12, .getfield 9, 3), (15, .iload_n 2, 1), (16, .iaload, 1), (17, .iload_n 1, 1), (18, .if_icmp .ne 5, 3), (21, .iconst 1, 1), (22, .ireturn, 1), (23, .iinc 2 1, 3), (26, .goto (-24), 3), (29, .iconst 0, 1), (30, .ireturn, 1)]
def MX4_hasPath : x_MT := (RX4, yX4_hasPath, cX4_hasPath, 3, some .boolean, 0, 0, iX4_hasPath)
theorem okX4_hasPath : x_MOk MX4_hasPath := ⟨by decide +kernel, tb4_of 196 rfl rfl, by decide +kernel, rfl, tb1_of 8 rfl rfl, by decide +kernel⟩
def iX4_lowestFree : List (Nat × Instr × Nat) := [(0, .iconst 0, 1), (1, .istore_n 1, 1), (2, .iload_n 1, 1), (3, .aload_n 0, 1), (4, .getfield 9, 3), (7, .arraylength, 1), (8, .if_icmp .ge 21, 3), (11, .aload_n 0, 1), (12, .getfield 9, 3), (15, .iload_n 1, 1), (16, .iaload, 1), (17, .iconst (-1), 1), (18, .if_icmp .ne 5, 3), (21, .iload_n 1, 1), (22, .ireturn, 1), (23, .iinc 1 1, 3), (26, .goto (-24), 3), (29, .iconst (-1), 1), (30, .ireturn, 1)]
def MX4_lowestFree : x_MT := (RX4, yX4_lowestFree, cX4_lowestFree, 2, some .int, 0, 0, iX4_lowestFree)
theorem okX4_lowestFree : x_MOk MX4_lowestFree := ⟨by decide +kernel, tb4_of 192 rfl rfl, by decide +kernel, rfl, tb1_of 8 rfl rfl, by decide +kernel⟩
def iX4_make : List (Nat × Instr × Nat) := [(0, .iload_n 1, 1), (1, .ifCond .lt 22, 3), (4, .iload_n 1, 1), (5, .iconst 3, 1), (6, .if_icmp .ge 17, 3), (9, .aload_n 0, 1), (10, .getfield 9, 3), (13, .iload_n 1, 1), (14, .iload_n 2, 1), (15, .iastore, 1), (16, .aload_n 0, 1), (17, .getfield 15, 3), (20, .iload_n 1, 1), (21, .iload_n 3, 1), (22, .bastore, 1), (23, .return_, 1)]
def MX4_make : x_MT := (RX4, yX4_make, cX4_make, 4, none, 0, 0, iX4_make)
theorem okX4_make : x_MOk MX4_make := ⟨by decide +kernel, tb4_of 201 rfl rfl, by decide +kernel, rfl, tb1_of 8 rfl rfl, by decide +kernel⟩
def iX4_indexOfPlan : List (Nat × Instr × Nat) := [(0, .iload_n 1, 1), (1, .ifCond .lt 19, 3), (4, .iload_n 1, 1), (5, .sipush 512, 3), (8, .if_icmp .ge 12, 3), (11, .aload_n 0, 1), (12, .getfield 22, 3), (15, .iload_n 1, 1), (16, .iaload, 1), (17, .goto 4, 3), (20, .iconst (-1), 1), (21, .ireturn, 1)]
def MX4_indexOfPlan : x_MT := (RX4, yX4_indexOfPlan, cX4_indexOfPlan, 2, some .int, 0, 0, iX4_indexOfPlan)
theorem okX4_indexOfPlan : x_MOk MX4_indexOfPlan := ⟨by decide +kernel, tb4_of 221 rfl rfl, by decide +kernel, rfl, tb1_of 8 rfl rfl, by decide +kernel⟩
def iX4_forgetPlan : List (Nat × Instr × Nat) := [(0, .aload_n 0, 1), (1, .getfield 35, 3), (4, .iconst 1, 1), (5, .isub, 1), (6, .istore_n 2, 1), (7, .iload_n 1, 1), (8, .ifCond .lt 15, 3), (11, .iload_n 1, 1), (12, .iload_n 2, 1), (13, .if_icmp .gt 10, 3), (16, .iload_n 2, 1), (17, .sipush 512, 3), (20, .if_icmp .lt 4, 3), (23, .return_, 1), (24, .aload_n 0, 1), (25, .getfield 19, 3), (28, .iload_n 1, 1), (29, .aload_n 0, 1), (30, .getfield 19, 3), (33, .iload_n 2, 1), (34, .iaload, 1), (35, .iastore, 1), (36, .aload_n 0, 1), (37, .getfield 22, 3), (40, .iload_n 1, 1), (41, .aload_n 0, 1), (42, .getfield 22, 3), (45, .iload_n 2, 1), (46, .iaload, 1), (47, .iastore, 1), (48, .aload_n 0, 1), (49, .getfield 25, 3), (52, .iload_n 1, 1), (53, .aload_n 0, 1), (54, .getfield 25, 3), (57, .iload_n 2, 1), (58, .iaload, 1), (59, .iastore, 1), (60, .aload_n 0, 1), (61, .iload_n 2, 1), (62, .putfield 35, 3), (65, .return_, 1)]
def MX4_forgetPlan : x_MT := (RX4, yX4_forgetPlan, cX4_forgetPlan, 3, none, 0, 0, iX4_forgetPlan)
theorem okX4_forgetPlan : x_MOk MX4_forgetPlan := ⟨by decide +kernel, tb4_of 225 rfl rfl, by decide +kernel, rfl, tb1_of 8 rfl rfl, by decide +kernel⟩
def iX4_abolish : List (Nat × Instr × Nat) := [(0, .iload_n 1, 1), (1, .ifCond .lt 8, 3), (4, .iload_n 1, 1), (5, .iconst 3, 1), (6, .if_icmp .lt 5, 3), (9, .iconst 0, 1), (10, .ireturn, 1), (11, .aload_n 0, 1), (12, .getfield 9, 3), (15, .iload_n 1, 1), (16, .iconst (-1), 1), (17, .iastore, 1), (18, .aload_n 0, 1), (19, .getfield 35, 3), (22, .istore_n 2, 1), (23, .iload_n 2, 1), (24, .iconst 1, 1), (25, .isub, 1), (26, .istore_n 3, 1), (27, .iload_n 3, 1), (28, .ifCond .lt 23, 3), (31, .aload_n 0, 1), (32, .iload_n 3, 1), (33, .invokevirtual 39, 3), (36, .iload_n 1, 1), (37, .if_icmp .ne 8, 3), (40, .aload_n 0, 1), (41, .iload_n 3, 1), (42, .invokevirtual 43, 3), (45, .iinc 3 (-1), 3), (48, .goto (-21), 3), (51, .iload_n 2, 1), (52, .aload_n 0, 1), (53, .getfield 35, 3), (56, .isub, 1), (57, .ireturn, 1)]
def MX4_abolish : x_MT := (RX4, yX4_abolish, cX4_abolish, 4, some .int, 1, 22, iX4_abolish)
theorem okX4_abolish : x_MOk MX4_abolish := ⟨by decide +kernel, tb4_of 217 rfl rfl, by decide +kernel, rfl, tb1_of 8 rfl rfl, by decide +kernel⟩
def iX4_isFirst : List (Nat × Instr × Nat) := [(0, .iconst 0, 1), (1, .istore_n 3, 1), (2, .iload_n 3, 1), (3, .iload_n 2, 1), (4, .if_icmp .ge 35, 3), (7, .aload_n 1, 1), (8, .aload_n 0, 1), (9, .getfield 31, 3), (12, .iload_n 3, 1), (13, .invokevirtual 79, 3), (16, .aload_n 1, 1), (17, .aload_n 0, 1), (18, .getfield 31, 3), (21, .iload_n 2, 1), (22, .invokevirtual 79, 3), (25, .invokestatic 81, 3), (28, .ifCond .ne 5, 3), (31, .iconst 0, 1), (32, .ireturn, 1), (33, .iinc 3 1, 3), (36, .goto (-34), 3), (39, .iconst 1, 1), (40, .ireturn, 1)]
def MX4_isFirst : x_MT := (RX4, yX4_isFirst, cX4_isFirst, 4, some .boolean, 2, 48, iX4_isFirst)
theorem okX4_isFirst : x_MOk MX4_isFirst := ⟨by decide +kernel, tb6_of 132 rfl rfl, by decide +kernel, rfl, tb1_of 8 rfl rfl, by decide +kernel⟩
def iX4_hasEntryForNone : List (Nat × Instr × Nat) := [(0, .iload_n 1, 1), (1, .ifCond .lt 21, 3), (4, .iload_n 1, 1), (5, .iconst 3, 1), (6, .if_icmp .ge 16, 3), (9, .aload_n 0, 1), (10, .getfield 15, 3), (13, .iload_n 1, 1), (14, .baload, 1), (15, .ifCond .ne 7, 3), (18, .iconst 1, 1), (19, .goto 4, 3), (22, .iconst 0, 1), (23, .ireturn, 1)]
def MX4_hasEntryForNone : x_MT := (RX4, yX4_hasEntryForNone, cX4_hasEntryForNone, 2, some .boolean, 0, 0, iX4_hasEntryForNone)
theorem okX4_hasEntryForNone : x_MOk MX4_hasEntryForNone := ⟨by decide +kernel, tb5_of 65 rfl rfl, by decide +kernel, rfl, tb1_of 8 rfl rfl, by decide +kernel⟩
def iX4_entriesFor : List (Nat × Instr × Nat) := [(0, .aload_n 0, 1), (1, .getfield 31, 3), (4, .aload_n 1, 1), (5, .aload_n 0, 1), (6, .iload_n 2, 1), (7, .invokevirtual 61, 3), (10, .invokevirtual 64, 3), (13, .iconst 0, 1), (14, .istore_n 3, 1), (15, .iconst 0, 1), (16, .istore 4, 2), (18, .iload 4, 2), (20, .aload_n 0, 1), (21, .getfield 31, 3), (24, .invokevirtual 68, 3), (27, .if_icmp .ge 22, 3), (30, .aload_n 0, 1), (31, .aload_n 1, 1), (32, .iload 4, 2), (34, .invokevirtual 72, 3), (37, .ifCond .eq 6, 3), (40, .iinc 3 1, 3), (43, .iinc 4 1, 3), (46, .goto (-28), 3), (49, .iload_n 3, 1), (50, .ifCond .ne 15, 3), (53, .aload_n 0, 1), (54, .iload_n 2, 1), (55, .invokevirtual 76, 3), (58, .ifCond .eq 7, 3), (61, .iconst 1, 1), (62, .goto 4, 3), (65, .iload_n 3, 1), (66, .ireturn, 1)]
def MX4_entriesFor : x_MT := (RX4, yX4_entriesFor, cX4_entriesFor, 5, some .int, 4, 97, iX4_entriesFor)
theorem okX4_entriesFor : x_MOk MX4_entriesFor := ⟨by decide +kernel, tb6_of 128 rfl rfl, by decide +kernel, rfl, tb1_of 8 rfl rfl, by decide +kernel⟩
def iX4_countEntries : List (Nat × Instr × Nat) := [(0, .iconst 0, 1), (1, .istore_n 3, 1), (2, .iconst 0, 1), (3, .istore 4, 2), (5, .iload 4, 2), (7, .bipush 100, 2), (9, .if_icmp .ge 32, 3), (12, .aload_n 1, 1), (13, .iload 4, 2), (15, .invokevirtual 47, 3), (18, .ifCond .eq 17, 3), (21, .iload_n 3, 1), (22, .aload_n 0, 1), (23, .aload_n 1, 1), (24, .iload 4, 2), (26, .invokevirtual 53, 3), (29, .iload_n 2, 1), (30, .invokevirtual 57, 3), (33, .iadd, 1), (34, .istore_n 3, 1), (35, .iinc 4 1, 3), (38, .goto (-33), 3), (41, .iload_n 3, 1), (42, .ireturn, 1)]
def MX4_countEntries : x_MT := (RX4, yX4_countEntries, cX4_countEntries, 5, some .int, 5, 121, iX4_countEntries)
theorem okX4_countEntries : x_MOk MX4_countEntries := ⟨by decide +kernel, tb6_of 124 rfl rfl, by decide +kernel, rfl, tb1_of 8 rfl rfl, by decide +kernel⟩
def iX4_countLooked : List (Nat × Instr × Nat) := [(0, .iconst 0, 1), (1, .istore 4, 2), (3, .iconst 0, 1), (4, .istore 5, 2), (6, .iload 5, 2), (8, .bipush 100, 2), (10, .if_icmp .ge 100, 3), (13, .aload_n 1, 1), (14, .iload 5, 2), (16, .invokevirtual 47, 3), (19, .ifCond .eq 85, 3), (22, .aload_n 1, 1), (23, .iload 5, 2), (25, .invokevirtual 53, 3), (28, .astore 6, 2), (30, .aload_n 0, 1), (31, .getfield 31, 3), (34, .aload 6, 2), (36, .aload_n 0, 1), (37, .iload_n 2, 1), (38, .invokevirtual 61, 3), (41, .invokevirtual 64, 3), (44, .aload_n 0, 1), (45, .getfield 31, 3), (48, .invokevirtual 68, 3), (51, .ifCond .le 16, 3), (54, .aload_n 3, 1), (55, .aload 6, 2), (57, .aload_n 0, 1), (58, .getfield 31, 3), (61, .invokevirtual 87, 3), (64, .goto 23, 3), (67, .aload_n 0, 1), (68, .iload_n 2, 1), (69, .invokevirtual 76, 3), (72, .ifCond .eq 14, 3), (75, .aload_n 3, 1), (76, .invokevirtual 93, 3), (79, .ifCond .eq 7, 3), (82, .iconst 1, 1), (83, .goto 4, 3), (86, .iconst 0, 1), (87, .istore 7, 2), (89, .iload 4, 2), (91, .iload 7, 2), (93, .ifCond .eq 7, 3), (96, .iconst 1, 1), (97, .goto 4, 3), (100, .iconst 0, 1), (101, .iadd, 1), (102, .istore 4, 2), (104, .iinc 5 1, 3), (107, .goto (-101), 3), (110, .iload 4, 2), (112, .ireturn, 1)]
def MX4_countLooked : x_MT := (RX4, yX4_countLooked, cX4_countLooked, 8, some .int, 4, 97, iX4_countLooked)
theorem okX4_countLooked : x_MOk MX4_countLooked := ⟨by decide +kernel, tb5_of 55 rfl rfl, by decide +kernel, rfl, tb1_of 8 rfl rfl, by decide +kernel⟩
def iX4_plansKept : List (Nat × Instr × Nat) := [(0, .aload_n 0, 1), (1, .getfield 35, 3), (4, .ireturn, 1)]
def MX4_plansKept : x_MT := (RX4, yX4_plansKept, cX4_plansKept, 1, some .int, 0, 0, iX4_plansKept)
theorem okX4_plansKept : x_MOk MX4_plansKept := ⟨by decide +kernel, tb5_of 118 rfl rfl, by decide +kernel, rfl, tb1_of 8 rfl rfl, by decide +kernel⟩
def iX4_planFor : List (Nat × Instr × Nat) := [(0, .iconst 0, 1), (1, .istore_n 2, 1), (2, .iload_n 2, 1), (3, .aload_n 0, 1), (4, .getfield 35, 3), (7, .if_icmp .ge 28, 3), (10, .iload_n 2, 1), (11, .sipush 512, 3), (14, .if_icmp .ge 21, 3), (17, .aload_n 0, 1), (18, .getfield 19, 3), (21, .iload_n 2, 1), (22, .iaload, 1), (23, .iload_n 1, 1), (24, .if_icmp .ne 5, 3), (27, .iload_n 2, 1), (28, .ireturn, 1), (29, .iinc 2 1, 3), (32, .goto (-30), 3), (35, .iconst (-1), 1), (36, .ireturn, 1)]
def MX4_planFor : x_MT := (RX4, yX4_planFor, cX4_planFor, 3, some .int, 0, 0, iX4_planFor)
theorem okX4_planFor : x_MOk MX4_planFor := ⟨by decide +kernel, tb5_of 36 rfl rfl, by decide +kernel, rfl, tb1_of 8 rfl rfl, by decide +kernel⟩
def iX4_looksOfPlan : List (Nat × Instr × Nat) := [(0, .iload_n 1, 1), (1, .ifCond .lt 19, 3), (4, .iload_n 1, 1), (5, .sipush 512, 3), (8, .if_icmp .ge 12, 3), (11, .aload_n 0, 1), (12, .getfield 25, 3), (15, .iload_n 1, 1), (16, .iaload, 1), (17, .goto 4, 3), (20, .iconst 0, 1), (21, .ireturn, 1)]
def MX4_looksOfPlan : x_MT := (RX4, yX4_looksOfPlan, cX4_looksOfPlan, 2, some .int, 0, 0, iX4_looksOfPlan)
theorem okX4_looksOfPlan : x_MOk MX4_looksOfPlan := ⟨by decide +kernel, tb5_of 73 rfl rfl, by decide +kernel, rfl, tb1_of 8 rfl rfl, by decide +kernel⟩
def iX4_keepPlan : List (Nat × Instr × Nat) := [(0, .aload_n 0, 1), (1, .getfield 35, 3), (4, .ifCond .lt 53, 3), (7, .aload_n 0, 1), (8, .getfield 35, 3), (11, .sipush 512, 3), (14, .if_icmp .ge 43, 3), (17, .aload_n 0, 1), (18, .getfield 19, 3), (21, .aload_n 0, 1), (22, .getfield 35, 3), (25, .iload_n 1, 1), (26, .iastore, 1), (27, .aload_n 0, 1), (28, .getfield 22, 3), (31, .aload_n 0, 1), (32, .getfield 35, 3), (35, .iload_n 2, 1), (36, .iastore, 1), (37, .aload_n 0, 1), (38, .getfield 25, 3), (41, .aload_n 0, 1), (42, .getfield 35, 3), (45, .iload_n 3, 1), (46, .iastore, 1), (47, .aload_n 0, 1), (48, .dup, 1), (49, .getfield 35, 3), (52, .iconst 1, 1), (53, .iadd, 1), (54, .putfield 35, 3), (57, .return_, 1)]
def MX4_keepPlan : x_MT := (RX4, yX4_keepPlan, cX4_keepPlan, 4, none, 0, 0, iX4_keepPlan)
theorem okX4_keepPlan : x_MOk MX4_keepPlan := ⟨by decide +kernel, tb5_of 86 rfl rfl, by decide +kernel, rfl, tb1_of 8 rfl rfl, by decide +kernel⟩
def iX5_init : List (Nat × Instr × Nat) := [(0, .aload_n 0, 1), (1, .invokespecial 3, 3), (4, .aload_n 0, 1), (5, .bipush 10, 2), (7, .anewarray 9, 3), (10, .putfield 11, 3), (13, .aload_n 0, 1), (14, .new 9, 3), (17, .dup, 1), (18, .iconst 0, 1), (19, .invokespecial 17, 3), (22, .putfield 20, 3), (25, .aload_n 0, 1), (26, .iconst 0, 1), (27, .putfield 24, 3), (30, .iconst 0, 1), (31, .istore_n 1, 1), (32, .iload_n 1, 1), (33, .aload_n 0, 1), (34, .getfield 11, 3), (37, .arraylength, 1), (38, .if_icmp .ge 24, 3), (41, .aload_n 0, 1), (42, .getfield 11, 3), (45, .iload_n 1, 1), (46, .new 9, 3), (49, .dup, 1), (50, .bipush 72, 2), (52, .invokespecial 17, 3), (55, .aastore, 1), (56, .iinc 1 1, 3), (59, .goto (-27), 3), (62, .return_, 1)]
def MX5_init : x_MT := (RX5, yX5_init, cX5_init, 2, none, 2, 41, iX5_init)
theorem okX5_init : x_MOk MX5_init := ⟨by decide +kernel, tb1_of 34 rfl rfl, by decide +kernel, rfl, tb1_of 2 rfl rfl, by decide +kernel⟩
def iX5_isEmpty : List (Nat × Instr × Nat) := [(0, .aload_n 0, 1), (1, .getfield 24, 3), (4, .ifCond .ne 7, 3), (7, .iconst 1, 1), (8, .goto 4, 3), (11, .iconst 0, 1), (12, .ireturn, 1)]
def MX5_isEmpty : x_MT := (RX5, yX5_isEmpty, cX5_isEmpty, 1, some .boolean, 0, 0, iX5_isEmpty)
theorem okX5_isEmpty : x_MOk MX5_isEmpty := ⟨by decide +kernel, tb4_of 86 rfl rfl, by decide +kernel, rfl, tb1_of 2 rfl rfl, by decide +kernel⟩
def iX5_isFull : List (Nat × Instr × Nat) := [(0, .aload_n 0, 1), (1, .getfield 24, 3), (4, .aload_n 0, 1), (5, .getfield 11, 3), (8, .arraylength, 1), (9, .if_icmp .lt 7, 3), (12, .iconst 1, 1), (13, .goto 4, 3), (16, .iconst 0, 1), (17, .ireturn, 1)]
def MX5_isFull : x_MT := (RX5, yX5_isFull, cX5_isFull, 1, some .boolean, 0, 0, iX5_isFull)
theorem okX5_isFull : x_MOk MX5_isFull := ⟨by decide +kernel, tb3_of 2 rfl rfl, by decide +kernel, rfl, tb1_of 2 rfl rfl, by decide +kernel⟩
def iX5_at : List (Nat × Instr × Nat) := [(0, .iload_n 1, 1), (1, .ifCond .lt 21, 3), (4, .iload_n 1, 1), (5, .aload_n 0, 1), (6, .getfield 11, 3), (9, .arraylength, 1), (10, .if_icmp .ge 12, 3), (13, .aload_n 0, 1), (14, .getfield 11, 3), (17, .iload_n 1, 1), (18, .aaload, 1), (19, .goto 7, 3), (22, .aload_n 0, 1), (23, .getfield 20, 3), (26, .astore_n 2, 1), (27, .aload_n 2, 1), (28, .ifnonnull 10, 3), (31, .aload_n 0, 1), (32, .getfield 20, 3), (35, .goto 4, 3), (38, .aload_n 2, 1), (39, .areturn, 1)]
def MX5_at : x_MT := (RX5, yX5_at, cX5_at, 3, some (.object "Shardmoor$Value"), 0, 0, iX5_at)
theorem okX5_at : x_MOk MX5_at := ⟨by decide +kernel, tb3_of 83 rfl rfl, by decide +kernel, rfl, tb1_of 2 rfl rfl, by decide +kernel⟩
def iX5_top : List (Nat × Instr × Nat) := [(0, .aload_n 0, 1), (1, .aload_n 0, 1), (2, .getfield 24, 3), (5, .iconst 1, 1), (6, .isub, 1), (7, .invokevirtual 39, 3), (10, .areturn, 1)]
def MX5_top : x_MT := (RX5, yX5_top, cX5_top, 1, some (.object "Shardmoor$Value"), 1, 22, iX5_top)
theorem okX5_top : x_MOk MX5_top := ⟨by decide +kernel, tb3_of 79 rfl rfl, by decide +kernel, rfl, tb1_of 2 rfl rfl, by decide +kernel⟩
def iX5_put : List (Nat × Instr × Nat) := [(0, .aload_n 0, 1), (1, .invokevirtual 28, 3), (4, .ifCond .ne 21, 3), (7, .aload_n 0, 1), (8, .dup, 1), (9, .getfield 24, 3), (12, .iconst 1, 1), (13, .iadd, 1), (14, .putfield 24, 3), (17, .aload_n 0, 1), (18, .invokevirtual 32, 3), (21, .iload_n 1, 1), (22, .invokevirtual 36, 3), (25, .aload_n 0, 1), (26, .getfield 24, 3), (29, .ireturn, 1)]
def MX5_put : x_MT := (RX5, yX5_put, cX5_put, 2, some .int, 4, 93, iX5_put)
theorem okX5_put : x_MOk MX5_put := ⟨by decide +kernel, tb3_of 74 rfl rfl, by decide +kernel, rfl, tb1_of 2 rfl rfl, by decide +kernel⟩
def iX5_below : List (Nat × Instr × Nat) := [(0, .aload_n 0, 1), (1, .aload_n 0, 1), (2, .getfield 24, 3), (5, .iconst 2, 1), (6, .isub, 1), (7, .invokevirtual 39, 3), (10, .areturn, 1)]
def MX5_below : x_MT := (RX5, yX5_below, cX5_below, 1, some (.object "Shardmoor$Value"), 1, 22, iX5_below)
theorem okX5_below : x_MOk MX5_below := ⟨by decide +kernel, tb3_of 162 rfl rfl, by decide +kernel, rfl, tb1_of 2 rfl rfl, by decide +kernel⟩
def iX5_takeTop : List (Nat × Instr × Nat) := [(0, .aload_n 0, 1), (1, .getfield 24, 3), (4, .ifCond .le 13, 3), (7, .aload_n 0, 1), (8, .dup, 1), (9, .getfield 24, 3), (12, .iconst 1, 1), (13, .isub, 1), (14, .putfield 24, 3), (17, .aload_n 0, 1), (18, .getfield 24, 3), (21, .ireturn, 1)]
def MX5_takeTop : x_MT := (RX5, yX5_takeTop, cX5_takeTop, 1, some .int, 0, 0, iX5_takeTop)
theorem okX5_takeTop : x_MOk MX5_takeTop := ⟨by decide +kernel, tb3_of 190 rfl rfl, by decide +kernel, rfl, tb1_of 2 rfl rfl, by decide +kernel⟩
def iX5_takeAll : List (Nat × Instr × Nat) := [(0, .aload_n 0, 1), (1, .getfield 24, 3), (4, .istore_n 1, 1), (5, .aload_n 0, 1), (6, .iconst 0, 1), (7, .putfield 24, 3), (10, .iload_n 1, 1), (11, .ireturn, 1)]
def MX5_takeAll : x_MT := (RX5, yX5_takeAll, cX5_takeAll, 2, some .int, 0, 0, iX5_takeAll)
theorem okX5_takeAll : x_MOk MX5_takeAll := ⟨by decide +kernel, tb2_of 100 rfl rfl, by decide +kernel, rfl, tb1_of 2 rfl rfl, by decide +kernel⟩
def iX7_init : List (Nat × Instr × Nat) := [(0, .aload_n 0, 1), (1, .invokespecial 3, 3), (4, .aload_n 0, 1), (5, .iconst 3, 1), (6, .anewarray 9, 3), (9, .putfield 11, 3), (12, .aload_n 0, 1), (13, .new 9, 3), (16, .dup, 1), (17, .invokespecial 17, 3), (20, .putfield 18, 3), (23, .aload_n 0, 1), (24, .new 22, 3), (27, .dup, 1), (28, .invokespecial 24, 3), (31, .putfield 25, 3), (34, .aload_n 0, 1), (35, .bipush 60, 2), (37, .newarray .int, 2), (39, .putfield 29, 3), (42, .aload_n 0, 1), (43, .iconst 0, 1), (44, .putfield 33, 3), (47, .aload_n 0, 1), (48, .iconst 0, 1), (49, .putfield 37, 3), (52, .aload_n 0, 1), (53, .iconst (-1), 1), (54, .putfield 40, 3), (57, .aload_n 0, 1), (58, .iconst 0, 1), (59, .putfield 43, 3), (62, .aload_n 0, 1), (63, .iconst 0, 1), (64, .putfield 46, 3), (67, .aload_n 0, 1), (68, .iconst 0, 1), (69, .putfield 49, 3), (72, .iconst 0, 1), (73, .istore_n 1, 1), (74, .iload_n 1, 1), (75, .aload_n 0, 1), (76, .getfield 11, 3), (79, .arraylength, 1), (80, .if_icmp .ge 22, 3), (83, .aload_n 0, 1), (84, .getfield 11, 3), (87, .iload_n 1, 1), (88, .new 9, 3), (91, .dup, 1), (92, .invokespecial 17, 3), (95, .aastore, 1), (96, .iinc 1 1, 3), (99, .goto (-25), 3), (102, .return_, 1)]
def MX7_init : x_MT := (RX7, yX7_init, cX7_init, 2, none, 3, 61, iX7_init)
theorem okX7_init : x_MOk MX7_init := ⟨by decide +kernel, tb1_of 216 rfl rfl, by decide +kernel, rfl, tb1_of 10 rfl rfl, by decide +kernel⟩
def iX7_size : List (Nat × Instr × Nat) := [(0, .aload_n 0, 1), (1, .getfield 33, 3), (4, .ireturn, 1)]
def MX7_size : x_MT := (RX7, yX7_size, cX7_size, 1, some .int, 0, 0, iX7_size)
theorem okX7_size : x_MOk MX7_size := ⟨by decide +kernel, tb5_of 13 rfl rfl, by decide +kernel, rfl, tb1_of 10 rfl rfl, by decide +kernel⟩
def iX7_isFull : List (Nat × Instr × Nat) := [(0, .aload_n 0, 1), (1, .getfield 33, 3), (4, .aload_n 0, 1), (5, .getfield 11, 3), (8, .arraylength, 1), (9, .if_icmp .lt 7, 3), (12, .iconst 1, 1), (13, .goto 4, 3), (16, .iconst 0, 1), (17, .ireturn, 1)]
def MX7_isFull : x_MT := (RX7, yX7_isFull, cX7_isFull, 1, some .boolean, 0, 0, iX7_isFull)
theorem okX7_isFull : x_MOk MX7_isFull := ⟨by decide +kernel, tb4_of 237 rfl rfl, by decide +kernel, rfl, tb1_of 10 rfl rfl, by decide +kernel⟩
def iX7_filterAt : List (Nat × Instr × Nat) := [(0, .iload_n 1, 1), (1, .ifCond .lt 21, 3), (4, .iload_n 1, 1), (5, .aload_n 0, 1), (6, .getfield 11, 3), (9, .arraylength, 1), (10, .if_icmp .ge 12, 3), (13, .aload_n 0, 1), (14, .getfield 11, 3), (17, .iload_n 1, 1), (18, .aaload, 1), (19, .goto 7, 3), (22, .aload_n 0, 1), (23, .getfield 18, 3), (26, .astore_n 2, 1), (27, .aload_n 2, 1), (28, .ifnonnull 10, 3), (31, .aload_n 0, 1), (32, .getfield 18, 3), (35, .goto 4, 3), (38, .aload_n 2, 1), (39, .areturn, 1)]
def MX7_filterAt : x_MT := (RX7, yX7_filterAt, cX7_filterAt, 3, some (.object "Shardmoor$Filter"), 0, 0, iX7_filterAt)
theorem okX7_filterAt : x_MOk MX7_filterAt := ⟨by decide +kernel, tb2_of 133 rfl rfl, by decide +kernel, rfl, tb1_of 10 rfl rfl, by decide +kernel⟩
def iX7_addFilter : List (Nat × Instr × Nat) := [(0, .aload_n 0, 1), (1, .invokevirtual 53, 3), (4, .ifCond .ne 27, 3), (7, .aload_n 0, 1), (8, .aload_n 0, 1), (9, .getfield 33, 3), (12, .invokevirtual 57, 3), (15, .iload_n 1, 1), (16, .iload_n 2, 1), (17, .aload_n 3, 1), (18, .invokevirtual 61, 3), (21, .aload_n 0, 1), (22, .dup, 1), (23, .getfield 33, 3), (26, .iconst 1, 1), (27, .iadd, 1), (28, .putfield 33, 3), (31, .return_, 1)]
def MX7_addFilter : x_MT := (RX7, yX7_addFilter, cX7_addFilter, 4, none, 5, 118, iX7_addFilter)
theorem okX7_addFilter : x_MOk MX7_addFilter := ⟨by decide +kernel, tb5_of 3 rfl rfl, by decide +kernel, rfl, tb1_of 10 rfl rfl, by decide +kernel⟩
def iX7_takeAllFilters : List (Nat × Instr × Nat) := [(0, .aload_n 0, 1), (1, .getfield 33, 3), (4, .istore_n 1, 1), (5, .aload_n 0, 1), (6, .iconst 0, 1), (7, .putfield 33, 3), (10, .iload_n 1, 1), (11, .ireturn, 1)]
def MX7_takeAllFilters : x_MT := (RX7, yX7_takeAllFilters, cX7_takeAllFilters, 2, some .int, 0, 0, iX7_takeAllFilters)
theorem okX7_takeAllFilters : x_MOk MX7_takeAllFilters := ⟨by decide +kernel, tb2_of 108 rfl rfl, by decide +kernel, rfl, tb1_of 10 rfl rfl, by decide +kernel⟩
def iX7_latest : List (Nat × Instr × Nat) := [(0, .iload_n 1, 1), (1, .ifCond .ne 8, 3), (4, .aload_n 0, 1), (5, .getfield 40, 3), (8, .ireturn, 1), (9, .iload_n 1, 1), (10, .iconst 1, 1), (11, .if_icmp .ne 8, 3), (14, .aload_n 0, 1), (15, .getfield 43, 3), (18, .ireturn, 1), (19, .iload_n 1, 1), (20, .iconst 2, 1), (21, .if_icmp .ne 10, 3), (24, .aload_n 0, 1), (25, .getfield 46, 3), (28, .goto 15, 3), (31, .aload_n 0, 1), (32, .getfield 49, 3), (35, .ifCond .eq 7, 3), (38, .iconst 1, 1), (39, .goto 4, 3), (42, .iconst 0, 1), (43, .ireturn, 1)]
def MX7_latest : x_MT := (RX7, yX7_latest, cX7_latest, 2, some .int, 0, 0, iX7_latest)
theorem okX7_latest : x_MOk MX7_latest := ⟨by decide +kernel, tb5_of 122 rfl rfl, by decide +kernel, rfl, tb1_of 10 rfl rfl, by decide +kernel⟩
def iX7_fitsAll : List (Nat × Instr × Nat) := [(0, .iconst 0, 1), (1, .istore_n 2, 1), (2, .iload_n 2, 1), (3, .aload_n 0, 1), (4, .getfield 33, 3), (7, .if_icmp .ge 41, 3), (10, .aload_n 0, 1), (11, .iload_n 2, 1), (12, .invokevirtual 57, 3), (15, .astore_n 3, 1), (16, .aload_n 0, 1), (17, .getfield 25, 3), (20, .aload_n 1, 1), (21, .aload_n 3, 1), (22, .getfield 79, 3), (25, .invokevirtual 82, 3), (28, .aload_n 3, 1), (29, .aload_n 1, 1), (30, .aload_n 0, 1), (31, .getfield 25, 3), (34, .invokevirtual 86, 3), (37, .ifCond .ne 5, 3), (40, .iconst 0, 1), (41, .ireturn, 1), (42, .iinc 2 1, 3), (45, .goto (-43), 3), (48, .iconst 1, 1), (49, .ireturn, 1)]
def MX7_fitsAll : x_MT := (RX7, yX7_fitsAll, cX7_fitsAll, 4, some .boolean, 4, 97, iX7_fitsAll)
theorem okX7_fitsAll : x_MOk MX7_fitsAll := ⟨by decide +kernel, tb2_of 129 rfl rfl, by decide +kernel, rfl, tb1_of 10 rfl rfl, by decide +kernel⟩
def iX7_countFitting : List (Nat × Instr × Nat) := [(0, .iconst 0, 1), (1, .istore_n 2, 1), (2, .iconst 0, 1), (3, .istore_n 3, 1), (4, .iload_n 3, 1), (5, .bipush 100, 2), (7, .if_icmp .ge 32, 3), (10, .aload_n 1, 1), (11, .iload_n 3, 1), (12, .invokevirtual 65, 3), (15, .ifCond .eq 18, 3), (18, .aload_n 0, 1), (19, .aload_n 1, 1), (20, .iload_n 3, 1), (21, .invokevirtual 71, 3), (24, .invokevirtual 75, 3), (27, .ifCond .eq 6, 3), (30, .iinc 2 1, 3), (33, .iinc 3 1, 3), (36, .goto (-32), 3), (39, .iload_n 2, 1), (40, .ireturn, 1)]
def MX7_countFitting : x_MT := (RX7, yX7_countFitting, cX7_countFitting, 4, some .int, 5, 120, iX7_countFitting)
theorem okX7_countFitting : x_MOk MX7_countFitting := ⟨by decide +kernel, tb2_of 116 rfl rfl, by decide +kernel, rfl, tb1_of 10 rfl rfl, by decide +kernel⟩
def iX7_search : List (Nat × Instr × Nat) := [(0, .aload_n 0, 1), (1, .iconst 0, 1), (2, .putfield 37, 3), (5, .iconst 0, 1), (6, .istore_n 2, 1), (7, .iload_n 2, 1), (8, .bipush 100, 2), (10, .if_icmp .ge 61, 3), (13, .aload_n 0, 1), (14, .getfield 37, 3), (17, .aload_n 0, 1), (18, .getfield 29, 3), (21, .arraylength, 1), (22, .if_icmp .ge 49, 3), (25, .aload_n 1, 1), (26, .iload_n 2, 1), (27, .invokevirtual 65, 3), (30, .ifCond .eq 35, 3), (33, .aload_n 0, 1), (34, .aload_n 1, 1), (35, .iload_n 2, 1), (36, .invokevirtual 71, 3), (39, .invokevirtual 75, 3), (42, .ifCond .eq 23, 3), (45, .aload_n 0, 1), (46, .getfield 29, 3), (49, .aload_n 0, 1), (50, .getfield 37, 3), (53, .iload_n 2, 1), (54, .iastore, 1), (55, .aload_n 0, 1), (56, .dup, 1), (57, .getfield 37, 3), (60, .iconst 1, 1), (61, .iadd, 1), (62, .putfield 37, 3), (65, .iinc 2 1, 3), (68, .goto (-61), 3), (71, .aload_n 0, 1), (72, .getfield 37, 3), (75, .ireturn, 1)]
def MX7_search : x_MT := (RX7, yX7_search, cX7_search, 3, some .int, 5, 120, iX7_search)
theorem okX7_search : x_MOk MX7_search := ⟨by decide +kernel, tb5_of 90 rfl rfl, by decide +kernel, rfl, tb1_of 10 rfl rfl, by decide +kernel⟩
def iX7_shape : List (Nat × Instr × Nat) := [(0, .iconst 0, 1), (1, .istore_n 1, 1), (2, .iconst 0, 1), (3, .istore_n 2, 1), (4, .iload_n 2, 1), (5, .aload_n 0, 1), (6, .getfield 33, 3), (9, .if_icmp .ge 24, 3), (12, .iload_n 1, 1), (13, .sipush 361, 3), (16, .imul, 1), (17, .aload_n 0, 1), (18, .iload_n 2, 1), (19, .invokevirtual 57, 3), (22, .invokevirtual 90, 3), (25, .iadd, 1), (26, .istore_n 1, 1), (27, .iinc 2 1, 3), (30, .goto (-26), 3), (33, .iload_n 1, 1), (34, .ireturn, 1)]
def MX7_shape : x_MT := (RX7, yX7_shape, cX7_shape, 3, some .int, 1, 22, iX7_shape)
theorem okX7_shape : x_MOk MX7_shape := ⟨by decide +kernel, tb5_of 28 rfl rfl, by decide +kernel, rfl, tb1_of 10 rfl rfl, by decide +kernel⟩
def iX8_size : List (Nat × Instr × Nat) := [(0, .aload_n 0, 1), (1, .getfield 32, 3), (4, .ireturn, 1)]
def MX8_size : x_MT := (RX8, yX8_size, cX8_size, 1, some .int, 0, 0, iX8_size)
theorem okX8_size : x_MOk MX8_size := ⟨by decide +kernel, tb2_of 211 rfl rfl, by decide +kernel, rfl, tb1_of 4 rfl rfl, by decide +kernel⟩
def iX7_filterFor : List (Nat × Instr × Nat) := [(0, .iconst 0, 1), (1, .istore_n 3, 1), (2, .iload_n 3, 1), (3, .aload_n 0, 1), (4, .getfield 33, 3), (7, .if_icmp .ge 40, 3), (10, .aload_n 2, 1), (11, .iload_n 1, 1), (12, .invokevirtual 133, 3), (15, .ifCond .eq 32, 3), (18, .aload_n 0, 1), (19, .iload_n 3, 1), (20, .invokevirtual 57, 3), (23, .astore 4, 2), (25, .aload 4, 2), (27, .aload_n 2, 1), (28, .iload_n 1, 1), (29, .invokevirtual 134, 3), (32, .invokevirtual 137, 3), (35, .ifCond .eq 6, 3), (38, .aload 4, 2), (40, .areturn, 1), (41, .iinc 3 1, 3), (44, .goto (-42), 3), (47, .aload_n 0, 1), (48, .getfield 18, 3), (51, .areturn, 1)]
def MX7_filterFor : x_MT := (RX7, yX7_filterFor, cX7_filterFor, 5, some (.object "Shardmoor$Filter"), 1, 22, iX7_filterFor)
theorem okX7_filterFor : x_MOk MX7_filterFor := ⟨by decide +kernel, tb5_of 42 rfl rfl, by decide +kernel, rfl, tb1_of 10 rfl rfl, by decide +kernel⟩
def iX7_tryPlan : List (Nat × Instr × Nat) := [(0, .aload_n 0, 1), (1, .getfield 46, 3), (4, .ifCond .eq 11, 3), (7, .iload_n 2, 1), (8, .aload_n 0, 1), (9, .getfield 43, 3), (12, .if_icmp .ge 13, 3), (15, .aload_n 0, 1), (16, .iload_n 1, 1), (17, .putfield 40, 3), (20, .aload_n 0, 1), (21, .iload_n 2, 1), (22, .putfield 43, 3), (25, .aload_n 0, 1), (26, .dup, 1), (27, .getfield 46, 3), (30, .iconst 1, 1), (31, .iadd, 1), (32, .putfield 46, 3), (35, .return_, 1)]
def MX7_tryPlan : x_MT := (RX7, yX7_tryPlan, cX7_tryPlan, 3, none, 0, 0, iX7_tryPlan)
theorem okX7_tryPlan : x_MOk MX7_tryPlan := ⟨by decide +kernel, tb5_of 82 rfl rfl, by decide +kernel, rfl, tb1_of 10 rfl rfl, by decide +kernel⟩
def iX7_tryPlans : List (Nat × Instr × Nat) := [(0, .iconst 0, 1), (1, .istore_n 3, 1), (2, .iload_n 3, 1), (3, .iconst 3, 1), (4, .if_icmp .ge 39, 3), (7, .aload_n 0, 1), (8, .iload_n 3, 1), (9, .aload_n 2, 1), (10, .invokevirtual 106, 3), (13, .astore 4, 2), (15, .aload 4, 2), (17, .aload_n 0, 1), (18, .getfield 18, 3), (21, .if_acmp .eq 16, 3), (24, .aload_n 0, 1), (25, .iload_n 3, 1), (26, .aload_n 2, 1), (27, .aload_n 1, 1), (28, .iload_n 3, 1), (29, .aload 4, 2), (31, .invokevirtual 110, 3), (34, .invokevirtual 129, 3), (37, .iinc 3 1, 3), (40, .goto (-38), 3), (43, .aload_n 0, 1), (44, .iconst (-1), 1), (45, .aload_n 1, 1), (46, .invokevirtual 104, 3), (49, .invokevirtual 129, 3), (52, .return_, 1)]
def MX7_tryPlans : x_MT := (RX7, yX7_tryPlans, cX7_tryPlans, 5, none, 5, 124, iX7_tryPlans)
theorem okX7_tryPlans : x_MOk MX7_tryPlans := ⟨by decide +kernel, tb5_of 78 rfl rfl, by decide +kernel, rfl, tb1_of 10 rfl rfl, by decide +kernel⟩
def iX7_choosePlan : List (Nat × Instr × Nat) := [(0, .aload_n 0, 1), (1, .invokevirtual 94, 3), (4, .istore_n 3, 1), (5, .aload_n 2, 1), (6, .iload_n 3, 1), (7, .invokevirtual 95, 3), (10, .istore 4, 2), (12, .aload_n 0, 1), (13, .iconst 0, 1), (14, .putfield 46, 3), (17, .aload_n 0, 1), (18, .iconst 0, 1), (19, .putfield 49, 3), (22, .iload 4, 2), (24, .iconst (-1), 1), (25, .if_icmp .eq 79, 3), (28, .aload_n 0, 1), (29, .aload_n 2, 1), (30, .iload 4, 2), (32, .invokevirtual 101, 3), (35, .putfield 40, 3), (38, .aload_n 0, 1), (39, .aload_n 0, 1), (40, .getfield 40, 3), (43, .iconst (-1), 1), (44, .if_icmp .ne 10, 3), (47, .aload_n 1, 1), (48, .invokevirtual 104, 3), (51, .goto 21, 3), (54, .aload_n 2, 1), (55, .aload_n 1, 1), (56, .aload_n 0, 1), (57, .getfield 40, 3), (60, .aload_n 0, 1), (61, .aload_n 0, 1), (62, .getfield 40, 3), (65, .aload_n 2, 1), (66, .invokevirtual 106, 3), (69, .invokevirtual 110, 3), (72, .putfield 43, 3), (75, .aload_n 0, 1), (76, .getfield 43, 3), (79, .iconst 2, 1), (80, .aload_n 2, 1), (81, .iload 4, 2), (83, .invokevirtual 114, 3), (86, .imul, 1), (87, .iconst 2, 1), (88, .iadd, 1), (89, .if_icmp .gt 4, 3), (92, .return_, 1), (93, .aload_n 2, 1), (94, .iload 4, 2), (96, .invokevirtual 117, 3), (99, .aload_n 0, 1), (100, .iconst 1, 1), (101, .putfield 49, 3), (104, .aload_n 0, 1), (105, .aload_n 1, 1), (106, .aload_n 2, 1), (107, .invokevirtual 121, 3), (110, .aload_n 2, 1), (111, .iload_n 3, 1), (112, .aload_n 0, 1), (113, .getfield 40, 3), (116, .aload_n 0, 1), (117, .getfield 43, 3), (120, .invokevirtual 125, 3), (123, .return_, 1)]
def MX7_choosePlan : x_MT := (RX7, yX7_choosePlan, cX7_choosePlan, 5, none, 6, 148, iX7_choosePlan)
theorem okX7_choosePlan : x_MOk MX7_choosePlan := ⟨by decide +kernel, tb5_of 24 rfl rfl, by decide +kernel, rfl, tb1_of 10 rfl rfl, by decide +kernel⟩
def iX8_init : List (Nat × Instr × Nat) := [(0, .aload_n 0, 1), (1, .invokespecial 3, 3), (4, .aload_n 0, 1), (5, .bipush 100, 2), (7, .anewarray 9, 3), (10, .putfield 11, 3), (13, .aload_n 0, 1), (14, .bipush 100, 2), (16, .newarray .boolean, 2), (18, .putfield 17, 3), (21, .aload_n 0, 1), (22, .bipush 8, 2), (24, .newarray .int, 2), (26, .putfield 21, 3), (29, .aload_n 0, 1), (30, .new 9, 3), (33, .dup, 1), (34, .iconst 0, 1), (35, .invokespecial 25, 3), (38, .putfield 28, 3), (41, .aload_n 0, 1), (42, .iconst 0, 1), (43, .putfield 32, 3), (46, .iconst 0, 1), (47, .istore_n 1, 1), (48, .iload_n 1, 1), (49, .aload_n 0, 1), (50, .getfield 11, 3), (53, .arraylength, 1), (54, .if_icmp .ge 24, 3), (57, .aload_n 0, 1), (58, .getfield 11, 3), (61, .iload_n 1, 1), (62, .new 9, 3), (65, .dup, 1), (66, .bipush 72, 2), (68, .invokespecial 25, 3), (71, .aastore, 1), (72, .iinc 1 1, 3), (75, .goto (-27), 3), (78, .return_, 1)]
def MX8_init : x_MT := (RX8, yX8_init, cX8_init, 2, none, 2, 41, iX8_init)
theorem okX8_init : x_MOk MX8_init := ⟨by decide +kernel, tb1_of 66 rfl rfl, by decide +kernel, rfl, tb1_of 4 rfl rfl, by decide +kernel⟩
def iX8_put : List (Nat × Instr × Nat) := [(0, .iload_n 1, 1), (1, .ifCond .lt 12, 3), (4, .iload_n 1, 1), (5, .aload_n 0, 1), (6, .getfield 17, 3), (9, .arraylength, 1), (10, .if_icmp .lt 4, 3), (13, .return_, 1), (14, .aload_n 0, 1), (15, .getfield 17, 3), (18, .iload_n 1, 1), (19, .baload, 1), (20, .ifCond .ne 20, 3), (23, .aload_n 0, 1), (24, .getfield 17, 3), (27, .iload_n 1, 1), (28, .iconst 1, 1), (29, .bastore, 1), (30, .aload_n 0, 1), (31, .dup, 1), (32, .getfield 32, 3), (35, .iconst 1, 1), (36, .iadd, 1), (37, .putfield 32, 3), (40, .aload_n 0, 1), (41, .iload_n 1, 1), (42, .invokevirtual 40, 3), (45, .aload_n 2, 1), (46, .invokevirtual 44, 3), (49, .return_, 1)]
def MX8_put : x_MT := (RX8, yX8_put, cX8_put, 3, none, 4, 95, iX8_put)
theorem okX8_put : x_MOk MX8_put := ⟨by decide +kernel, tb3_of 235 rfl rfl, by decide +kernel, rfl, tb1_of 4 rfl rfl, by decide +kernel⟩
def iX8_takeOut : List (Nat × Instr × Nat) := [(0, .iload_n 1, 1), (1, .ifCond .lt 38, 3), (4, .iload_n 1, 1), (5, .aload_n 0, 1), (6, .getfield 17, 3), (9, .arraylength, 1), (10, .if_icmp .ge 29, 3), (13, .aload_n 0, 1), (14, .getfield 17, 3), (17, .iload_n 1, 1), (18, .baload, 1), (19, .ifCond .eq 20, 3), (22, .aload_n 0, 1), (23, .getfield 17, 3), (26, .iload_n 1, 1), (27, .iconst 0, 1), (28, .bastore, 1), (29, .aload_n 0, 1), (30, .dup, 1), (31, .getfield 32, 3), (34, .iconst 1, 1), (35, .isub, 1), (36, .putfield 32, 3), (39, .return_, 1)]
def MX8_takeOut : x_MT := (RX8, yX8_takeOut, cX8_takeOut, 2, none, 0, 0, iX8_takeOut)
theorem okX8_takeOut : x_MOk MX8_takeOut := ⟨by decide +kernel, tb4_of 159 rfl rfl, by decide +kernel, rfl, tb1_of 4 rfl rfl, by decide +kernel⟩
def iX8_keeps : List (Nat × Instr × Nat) := [(0, .iload_n 2, 1), (1, .ifCond .eq 17, 3), (4, .aload_n 0, 1), (5, .aload_n 0, 1), (6, .iconst 0, 1), (7, .iload_n 1, 1), (8, .invokevirtual 52, 3), (11, .invokevirtual 56, 3), (14, .iload_n 2, 1), (15, .if_icmp .ne 7, 3), (18, .iconst 1, 1), (19, .goto 4, 3), (22, .iconst 0, 1), (23, .ireturn, 1)]
def MX8_keeps : x_MT := (RX8, yX8_keeps, cX8_keeps, 3, some .boolean, 3, 69, iX8_keeps)
theorem okX8_keeps : x_MOk MX8_keeps := ⟨by decide +kernel, tb3_of 226 rfl rfl, by decide +kernel, rfl, tb1_of 4 rfl rfl, by decide +kernel⟩
def iX8_keepsRules : List (Nat × Instr × Nat) := [(0, .iconst 0, 1), (1, .istore_n 2, 1), (2, .iload_n 2, 1), (3, .aload_n 0, 1), (4, .getfield 21, 3), (7, .arraylength, 1), (8, .if_icmp .ge 25, 3), (11, .aload_n 1, 1), (12, .iload_n 2, 1), (13, .aload_n 0, 1), (14, .getfield 21, 3), (17, .iload_n 2, 1), (18, .iaload, 1), (19, .invokestatic 48, 3), (22, .ifCond .ne 5, 3), (25, .iconst 0, 1), (26, .ireturn, 1), (27, .iinc 2 1, 3), (30, .goto (-28), 3), (33, .iconst 1, 1), (34, .ireturn, 1)]
def MX8_keepsRules : x_MT := (RX8, yX8_keepsRules, cX8_keepsRules, 3, some .boolean, 4, 91, iX8_keepsRules)
theorem okX8_keepsRules : x_MOk MX8_keepsRules := ⟨by decide +kernel, tb3_of 223 rfl rfl, by decide +kernel, rfl, tb1_of 4 rfl rfl, by decide +kernel⟩
def iX8_allKeep : List (Nat × Instr × Nat) := [(0, .iconst 0, 1), (1, .istore_n 3, 1), (2, .iload_n 3, 1), (3, .bipush 100, 2), (5, .if_icmp .ge 32, 3), (8, .aload_n 0, 1), (9, .iload_n 3, 1), (10, .invokevirtual 36, 3), (13, .ifCond .eq 18, 3), (16, .aload_n 0, 1), (17, .iload_n 3, 1), (18, .invokevirtual 40, 3), (21, .iload_n 1, 1), (22, .iload_n 2, 1), (23, .invokestatic 48, 3), (26, .ifCond .ne 5, 3), (29, .iconst 0, 1), (30, .ireturn, 1), (31, .iinc 3 1, 3), (34, .goto (-32), 3), (37, .iconst 1, 1), (38, .ireturn, 1)]
def MX8_allKeep : x_MT := (RX8, yX8_allKeep, cX8_allKeep, 4, some .boolean, 4, 91, iX8_allKeep)
theorem okX8_allKeep : x_MOk MX8_allKeep := ⟨by decide +kernel, tb4_of 175 rfl rfl, by decide +kernel, rfl, tb1_of 4 rfl rfl, by decide +kernel⟩
def iX8_setRule : List (Nat × Instr × Nat) := [(0, .iload_n 1, 1), (1, .ifCond .lt 12, 3), (4, .iload_n 1, 1), (5, .aload_n 0, 1), (6, .getfield 21, 3), (9, .arraylength, 1), (10, .if_icmp .lt 5, 3), (13, .iconst 0, 1), (14, .ireturn, 1), (15, .aload_n 0, 1), (16, .getfield 21, 3), (19, .iload_n 1, 1), (20, .iaload, 1), (21, .istore_n 3, 1), (22, .aload_n 0, 1), (23, .getfield 21, 3), (26, .iload_n 1, 1), (27, .iload_n 2, 1), (28, .iastore, 1), (29, .iload_n 3, 1), (30, .ireturn, 1)]
def MX8_setRule : x_MT := (RX8, yX8_setRule, cX8_setRule, 4, some .int, 0, 0, iX8_setRule)
theorem okX8_setRule : x_MOk MX8_setRule := ⟨by decide +kernel, tb4_of 180 rfl rfl, by decide +kernel, rfl, tb1_of 4 rfl rfl, by decide +kernel⟩
def iX9_init : List (Nat × Instr × Nat) := [(0, .aload_n 0, 1), (1, .invokespecial 3, 3), (4, .aload_n 0, 1), (5, .sipush 1024, 3), (8, .newarray .int, 2), (10, .putfield 9, 3), (13, .aload_n 0, 1), (14, .sipush 1024, 3), (17, .newarray .int, 2), (19, .putfield 15, 3), (22, .aload_n 0, 1), (23, .sipush 1024, 3), (26, .newarray .int, 2), (28, .putfield 18, 3), (31, .aload_n 0, 1), (32, .iconst 0, 1), (33, .putfield 21, 3), (36, .return_, 1)]
def MX9_init : x_MT := (RX9, yX9_init, cX9_init, 1, none, 1, 20, iX9_init)
theorem okX9_init : x_MOk MX9_init := ⟨by decide +kernel, tb1_of 141 rfl rfl, by decide +kernel, rfl, tb1_of 6 rfl rfl, by decide +kernel⟩
def iX9_put : List (Nat × Instr × Nat) := [(0, .aload_n 0, 1), (1, .getfield 21, 3), (4, .ifCond .lt 53, 3), (7, .aload_n 0, 1), (8, .getfield 21, 3), (11, .sipush 1024, 3), (14, .if_icmp .ge 43, 3), (17, .aload_n 0, 1), (18, .getfield 9, 3), (21, .aload_n 0, 1), (22, .getfield 21, 3), (25, .iload_n 1, 1), (26, .iastore, 1), (27, .aload_n 0, 1), (28, .getfield 15, 3), (31, .aload_n 0, 1), (32, .getfield 21, 3), (35, .iload_n 2, 1), (36, .iastore, 1), (37, .aload_n 0, 1), (38, .getfield 18, 3), (41, .aload_n 0, 1), (42, .getfield 21, 3), (45, .iload_n 3, 1), (46, .iastore, 1), (47, .aload_n 0, 1), (48, .dup, 1), (49, .getfield 21, 3), (52, .iconst 1, 1), (53, .iadd, 1), (54, .putfield 21, 3), (57, .return_, 1)]
def MX9_put : x_MT := (RX9, yX9_put, cX9_put, 4, none, 0, 0, iX9_put)
theorem okX9_put : x_MOk MX9_put := ⟨by decide +kernel, tb4_of 54 rfl rfl, by decide +kernel, rfl, tb1_of 6 rfl rfl, by decide +kernel⟩
def iX9_has : List (Nat × Instr × Nat) := [(0, .iload_n 1, 1), (1, .iconst 1, 1), (2, .if_icmp .lt 15, 3), (5, .iload_n 1, 1), (6, .aload_n 0, 1), (7, .getfield 21, 3), (10, .if_icmp .gt 7, 3), (13, .iconst 1, 1), (14, .goto 4, 3), (17, .iconst 0, 1), (18, .ireturn, 1)]
def MX9_has : x_MT := (RX9, yX9_has, cX9_has, 2, some .boolean, 0, 0, iX9_has)
theorem okX9_has : x_MOk MX9_has := ⟨by decide +kernel, tb6_of 193 rfl rfl, by decide +kernel, rfl, tb1_of 6 rfl rfl, by decide +kernel⟩
def iX9_firstBehind : List (Nat × Instr × Nat) := [(0, .iload_n 1, 1), (1, .iconst 0, 1), (2, .invokestatic 25, 3), (5, .istore_n 2, 1), (6, .iload_n 2, 1), (7, .aload_n 0, 1), (8, .getfield 21, 3), (11, .if_icmp .ge 9, 3), (14, .iload_n 2, 1), (15, .iconst 1, 1), (16, .iadd, 1), (17, .goto 4, 3), (20, .iconst (-1), 1), (21, .ireturn, 1)]
def MX9_firstBehind : x_MT := (RX9, yX9_firstBehind, cX9_firstBehind, 3, some .int, 1, 21, iX9_firstBehind)
theorem okX9_firstBehind : x_MOk MX9_firstBehind := ⟨by decide +kernel, tb2_of 219 rfl rfl, by decide +kernel, rfl, tb1_of 6 rfl rfl, by decide +kernel⟩
def iX9_tell : List (Nat × Instr × Nat) := [(0, .iload_n 1, 1), (1, .iconst 1, 1), (2, .isub, 1), (3, .istore_n 3, 1), (4, .iload_n 3, 1), (5, .ifCond .lt 18, 3), (8, .iload_n 3, 1), (9, .aload_n 0, 1), (10, .getfield 21, 3), (13, .if_icmp .ge 10, 3), (16, .iload_n 3, 1), (17, .sipush 1024, 3), (20, .if_icmp .lt 5, 3), (23, .iconst (-1), 1), (24, .ireturn, 1), (25, .iload_n 2, 1), (26, .ifCond .ne 10, 3), (29, .aload_n 0, 1), (30, .getfield 9, 3), (33, .iload_n 3, 1), (34, .iaload, 1), (35, .ireturn, 1), (36, .iload_n 2, 1), (37, .iconst 1, 1), (38, .if_icmp .ne 12, 3), (41, .aload_n 0, 1), (42, .getfield 15, 3), (45, .iload_n 3, 1), (46, .iaload, 1), (47, .goto 9, 3), (50, .aload_n 0, 1), (51, .getfield 18, 3), (54, .iload_n 3, 1), (55, .iaload, 1), (56, .ireturn, 1)]
def MX9_tell : x_MT := (RX9, yX9_tell, cX9_tell, 4, some .int, 0, 0, iX9_tell)
theorem okX9_tell : x_MOk MX9_tell := ⟨by decide +kernel, tb6_of 198 rfl rfl, by decide +kernel, rfl, tb1_of 6 rfl rfl, by decide +kernel⟩
def iX10_partsAt : List (Nat × Instr × Nat) := [(0, .iconst 0, 1), (1, .istore_n 2, 1), (2, .iload_n 1, 1), (3, .ifCond .ge 7, 3), (6, .iload_n 1, 1), (7, .goto 8, 3), (10, .aload_n 0, 1), (11, .iload_n 1, 1), (12, .invokevirtual 29, 3), (15, .istore_n 3, 1), (16, .iload_n 1, 1), (17, .istore 4, 2), (19, .iload 4, 2), (21, .iload_n 3, 1), (22, .if_icmp .ge 23, 3), (25, .aload_n 0, 1), (26, .iload 4, 2), (28, .invokevirtual 19, 3), (31, .bipush 9, 2), (33, .if_icmp .lt 6, 3), (36, .iinc 2 1, 3), (39, .iinc 4 1, 3), (42, .goto (-23), 3), (45, .iload_n 2, 1), (46, .ireturn, 1)]
def MX10_partsAt : x_MT := (RX10, yX10_partsAt, cX10_partsAt, 5, some .int, 2, 44, iX10_partsAt)
theorem okX10_partsAt : x_MOk MX10_partsAt := ⟨by decide +kernel, tb3_of 173 rfl rfl, by decide +kernel, rfl, tb1_of 3 rfl rfl, by decide +kernel⟩
def iX10_parts : List (Nat × Instr × Nat) := [(0, .aload_n 0, 1), (1, .iconst 0, 1), (2, .invokevirtual 26, 3), (5, .ireturn, 1)]
def MX10_parts : x_MT := (RX10, yX10_parts, cX10_parts, 1, some .int, 3, 68, iX10_parts)
theorem okX10_parts : x_MOk MX10_parts := ⟨by decide +kernel, tb3_of 169 rfl rfl, by decide +kernel, rfl, tb1_of 3 rfl rfl, by decide +kernel⟩
def iX11_init : List (Nat × Instr × Nat) := [(0, .aload_n 0, 1), (1, .invokespecial 3, 3), (4, .aload_n 0, 1), (5, .new 9, 3), (8, .dup, 1), (9, .invokespecial 11, 3), (12, .putfield 12, 3), (15, .aload_n 0, 1), (16, .new 16, 3), (19, .dup, 1), (20, .invokespecial 18, 3), (23, .putfield 19, 3), (26, .aload_n 0, 1), (27, .new 23, 3), (30, .dup, 1), (31, .invokespecial 25, 3), (34, .putfield 26, 3), (37, .aload_n 0, 1), (38, .new 30, 3), (41, .dup, 1), (42, .invokespecial 32, 3), (45, .putfield 33, 3), (48, .aload_n 0, 1), (49, .new 37, 3), (52, .dup, 1), (53, .invokespecial 39, 3), (56, .putfield 40, 3), (59, .aload_n 0, 1), (60, .new 44, 3), (63, .dup, 1), (64, .invokespecial 46, 3), (67, .putfield 47, 3), (70, .aload_n 0, 1), (71, .new 51, 3), (74, .dup, 1), (75, .invokespecial 53, 3), (78, .putfield 54, 3), (81, .aload_n 0, 1), (82, .new 58, 3), (85, .dup, 1), (86, .invokespecial 60, 3), (89, .putfield 61, 3), (92, .aload_n 0, 1), (93, .iconst (-1), 1), (94, .putfield 65, 3), (97, .aload_n 0, 1), (98, .iconst 0, 1), (99, .putfield 69, 3), (102, .return_, 1)]
def MX11_init : x_MT := (RX11, yX11_init, cX11_init, 1, none, 4, 82, iX11_init)
theorem okX11_init : x_MOk MX11_init := ⟨by decide +kernel, tb1_of 26 rfl rfl, by decide +kernel, rfl, tb1_of 1 rfl rfl, by decide +kernel⟩
def iX11_pileUp : List (Nat × Instr × Nat) := [(0, .aload_n 0, 1), (1, .getfield 12, 3), (4, .invokevirtual 408, 3), (7, .ifCond .eq 14, 3), (10, .new 101, 3), (13, .dup, 1), (14, .ldc_w 409, 3), (17, .invokespecial 105, 3), (20, .athrow, 1), (21, .aload_n 0, 1), (22, .getfield 12, 3), (25, .iload_n 1, 1), (26, .invokevirtual 411, 3), (29, .ireturn, 1)]
def MX11_pileUp : x_MT := (RX11, yX11_pileUp, cX11_pileUp, 2, some .int, 6, 114, iX11_pileUp)
theorem okX11_pileUp : x_MOk MX11_pileUp := ⟨by decide +kernel, tb2_of 238 rfl rfl, by decide +kernel, rfl, tb1_of 1 rfl rfl, by decide +kernel⟩
def iX11_nothing : List (Nat × Instr × Nat) := [(0, .aload_n 0, 1), (1, .bipush 9, 2), (3, .invokevirtual 74, 3), (6, .ireturn, 1)]
def MX11_nothing : x_MT := (RX11, yX11_nothing, cX11_nothing, 1, some .int, 7, 135, iX11_nothing)
theorem okX11_nothing : x_MOk MX11_nothing := ⟨by decide +kernel, tb2_of 234 rfl rfl, by decide +kernel, rfl, tb1_of 1 rfl rfl, by decide +kernel⟩
def iX11_number : List (Nat × Instr × Nat) := [(0, .iload_n 1, 1), (1, .invokestatic 78, 3), (4, .ifCond .ne 13, 3), (7, .new 82, 3), (10, .dup, 1), (11, .ldc 84, 2), (13, .invokespecial 86, 3), (16, .athrow, 1), (17, .aload_n 0, 1), (18, .sipush 2000, 3), (21, .iload_n 1, 1), (22, .iadd, 1), (23, .invokevirtual 74, 3), (26, .ireturn, 1)]
def MX11_number : x_MT := (RX11, yX11_number, cX11_number, 2, some .int, 7, 135, iX11_number)
theorem okX11_number : x_MOk MX11_number := ⟨by decide +kernel, tb3_of 110 rfl rfl, by decide +kernel, rfl, tb1_of 1 rfl rfl, by decide +kernel⟩
def iX11_word : List (Nat × Instr × Nat) := [(0, .iload_n 1, 1), (1, .ifCond .lt 9, 3), (4, .iload_n 1, 1), (5, .bipush 100, 2), (7, .if_icmp .lt 13, 3), (10, .new 82, 3), (13, .dup, 1), (14, .ldc 89, 2), (16, .invokespecial 86, 3), (19, .athrow, 1), (20, .aload_n 0, 1), (21, .sipush 3000, 3), (24, .iload_n 1, 1), (25, .iadd, 1), (26, .invokevirtual 74, 3), (29, .ireturn, 1)]
def MX11_word : x_MT := (RX11, yX11_word, cX11_word, 2, some .int, 7, 135, iX11_word)
theorem okX11_word : x_MOk MX11_word := ⟨by decide +kernel, tb3_of 136 rfl rfl, by decide +kernel, rfl, tb1_of 1 rfl rfl, by decide +kernel⟩
def iX11_row : List (Nat × Instr × Nat) := [(0, .aload_n 0, 1), (1, .sipush 4000, 3), (4, .invokevirtual 74, 3), (7, .ireturn, 1)]
def MX11_row : x_MT := (RX11, yX11_row, cX11_row, 1, some .int, 7, 135, iX11_row)
theorem okX11_row : x_MOk MX11_row := ⟨by decide +kernel, tb3_of 144 rfl rfl, by decide +kernel, rfl, tb1_of 1 rfl rfl, by decide +kernel⟩
def iX11_object : List (Nat × Instr × Nat) := [(0, .aload_n 0, 1), (1, .sipush 5000, 3), (4, .invokevirtual 74, 3), (7, .ireturn, 1)]
def MX11_object : x_MT := (RX11, yX11_object, cX11_object, 1, some .int, 7, 135, iX11_object)
theorem okX11_object : x_MOk MX11_object := ⟨by decide +kernel, tb3_of 151 rfl rfl, by decide +kernel, rfl, tb1_of 1 rfl rfl, by decide +kernel⟩
def iX11_add : List (Nat × Instr × Nat) := [(0, .aload_n 0, 1), (1, .getfield 12, 3), (4, .invokevirtual 91, 3), (7, .astore_n 1, 1), (8, .aload_n 0, 1), (9, .getfield 12, 3), (12, .invokevirtual 95, 3), (15, .astore_n 2, 1), (16, .aload_n 1, 1), (17, .iconst 0, 1), (18, .invokevirtual 98, 3), (21, .iconst 3, 1), (22, .if_icmp .eq 13, 3), (25, .new 101, 3), (28, .dup, 1), (29, .ldc 103, 2), (31, .invokespecial 105, 3), (34, .athrow, 1), (35, .aload_n 1, 1), (36, .invokevirtual 106, 3), (39, .aload_n 2, 1), (40, .invokevirtual 106, 3), (43, .iadd, 1), (44, .bipush 24, 2), (46, .if_icmp .le 13, 3), (49, .new 101, 3), (52, .dup, 1), (53, .ldc 110, 2), (55, .invokespecial 105, 3), (58, .athrow, 1), (59, .aload_n 1, 1), (60, .iconst 0, 1), (61, .aload_n 2, 1), (62, .invokevirtual 112, 3), (65, .aload_n 0, 1), (66, .getfield 12, 3), (69, .invokevirtual 116, 3), (72, .ireturn, 1)]
def MX11_add : x_MT := (RX11, yX11_add, cX11_add, 3, some .int, 6, 97, iX11_add)
theorem okX11_add : x_MOk MX11_add := ⟨by decide +kernel, tb3_of 158 rfl rfl, by decide +kernel, rfl, tb1_of 1 rfl rfl, by decide +kernel⟩
def iX11_isField : List (Nat × Instr × Nat) := [(0, .iload_n 0, 1), (1, .ifCond .lt 13, 3), (4, .iload_n 0, 1), (5, .bipush 8, 2), (7, .if_icmp .ge 7, 3), (10, .iconst 1, 1), (11, .goto 4, 3), (14, .iconst 0, 1), (15, .ireturn, 1)]
def MX11_isField : x_MT := (RX11, yX11_isField, cX11_isField, 1, some .boolean, 0, 0, iX11_isField)
theorem okX11_isField : x_MOk MX11_isField := ⟨by decide +kernel, tb3_of 200 rfl rfl, by decide +kernel, rfl, tb1_of 1 rfl rfl, by decide +kernel⟩
def iX11_give : List (Nat × Instr × Nat) := [(0, .iload_n 1, 1), (1, .invokestatic 119, 3), (4, .ifCond .ne 13, 3), (7, .new 82, 3), (10, .dup, 1), (11, .ldc 122, 2), (13, .invokespecial 86, 3), (16, .athrow, 1), (17, .aload_n 0, 1), (18, .getfield 12, 3), (21, .invokevirtual 91, 3), (24, .astore_n 2, 1), (25, .aload_n 0, 1), (26, .getfield 12, 3), (29, .invokevirtual 95, 3), (32, .astore_n 3, 1), (33, .aload_n 2, 1), (34, .iconst 0, 1), (35, .invokevirtual 98, 3), (38, .iconst 4, 1), (39, .if_icmp .eq 13, 3), (42, .new 101, 3), (45, .dup, 1), (46, .ldc 124, 2), (48, .invokespecial 105, 3), (51, .athrow, 1), (52, .aload_n 2, 1), (53, .aload_n 2, 1), (54, .iconst 0, 1), (55, .iload_n 1, 1), (56, .invokevirtual 126, 3), (59, .invokevirtual 130, 3), (62, .istore 4, 2), (64, .aload_n 2, 1), (65, .invokevirtual 106, 3), (68, .iload 4, 2), (70, .isub, 1), (71, .aload_n 3, 1), (72, .invokevirtual 106, 3), (75, .iadd, 1), (76, .bipush 24, 2), (78, .if_icmp .le 13, 3), (81, .new 101, 3), (84, .dup, 1), (85, .ldc 110, 2), (87, .invokespecial 105, 3), (90, .athrow, 1), (91, .aload_n 2, 1), (92, .iconst 0, 1), (93, .iload_n 1, 1), (94, .aload_n 3, 1), (95, .invokevirtual 133, 3), (98, .aload_n 0, 1), (99, .getfield 12, 3), (102, .invokevirtual 116, 3), (105, .ireturn, 1)]
def MX11_give : x_MT := (RX11, yX11_give, cX11_give, 5, some .int, 6, 98, iX11_give)
theorem okX11_give : x_MOk MX11_give := ⟨by decide +kernel, tb3_of 197 rfl rfl, by decide +kernel, rfl, tb1_of 1 rfl rfl, by decide +kernel⟩
def iX11_drop : List (Nat × Instr × Nat) := [(0, .aload_n 0, 1), (1, .getfield 12, 3), (4, .invokevirtual 137, 3), (7, .ireturn, 1)]
def MX11_drop : x_MT := (RX11, yX11_drop, cX11_drop, 1, some .int, 1, 21, iX11_drop)
theorem okX11_drop : x_MOk MX11_drop := ⟨by decide +kernel, tb2_of 96 rfl rfl, by decide +kernel, rfl, tb1_of 1 rfl rfl, by decide +kernel⟩
def iX11_isRouter : List (Nat × Instr × Nat) := [(0, .iload_n 0, 1), (1, .ifCond .lt 12, 3), (4, .iload_n 0, 1), (5, .iconst 2, 1), (6, .if_icmp .ge 7, 3), (9, .iconst 1, 1), (10, .goto 4, 3), (13, .iconst 0, 1), (14, .ireturn, 1)]
def MX11_isRouter : x_MT := (RX11, yX11_isRouter, cX11_isRouter, 1, some .boolean, 0, 0, iX11_isRouter)
theorem okX11_isRouter : x_MOk MX11_isRouter := ⟨by decide +kernel, tb3_of 218 rfl rfl, by decide +kernel, rfl, tb1_of 1 rfl rfl, by decide +kernel⟩
def iX11_tellChange : List (Nat × Instr × Nat) := [(0, .aload_n 0, 1), (1, .getfield 19, 3), (4, .iload_n 2, 1), (5, .invokevirtual 182, 3), (8, .astore 4, 2), (10, .aload_n 0, 1), (11, .getfield 26, 3), (14, .aload 4, 2), (16, .invokevirtual 363, 3), (19, .istore 5, 2), (21, .aload_n 0, 1), (22, .getfield 26, 3), (25, .iload_n 3, 1), (26, .invokevirtual 201, 3), (29, .aload_n 0, 1), (30, .getfield 26, 3), (33, .iload_n 2, 1), (34, .aload 4, 2), (36, .invokevirtual 413, 3), (39, .aload_n 0, 1), (40, .getfield 33, 3), (43, .iload_n 1, 1), (44, .iload_n 2, 1), (45, .iload 5, 2), (47, .invokevirtual 416, 3), (50, .iload 5, 2), (52, .ireturn, 1)]
def MX11_tellChange : x_MT := (RX11, yX11_tellChange, cX11_tellChange, 6, some .int, 6, 138, iX11_tellChange)
theorem okX11_tellChange : x_MOk MX11_tellChange := ⟨by decide +kernel, tb4_of 4 rfl rfl, by decide +kernel, rfl, tb1_of 1 rfl rfl, by decide +kernel⟩
def iX11_insert : List (Nat × Instr × Nat) := [(0, .iload_n 1, 1), (1, .invokestatic 140, 3), (4, .ifCond .eq 13, 3), (7, .iload_n 2, 1), (8, .ifCond .lt 9, 3), (11, .iload_n 2, 1), (12, .bipush 100, 2), (14, .if_icmp .lt 13, 3), (17, .new 82, 3), (20, .dup, 1), (21, .ldc 143, 2), (23, .invokespecial 86, 3), (26, .athrow, 1), (27, .aload_n 0, 1), (28, .getfield 12, 3), (31, .invokevirtual 95, 3), (34, .astore_n 3, 1), (35, .aload_n 3, 1), (36, .iconst 0, 1), (37, .invokevirtual 98, 3), (40, .iconst 4, 1), (41, .if_icmp .ne 14, 3), (44, .aload_n 0, 1), (45, .getfield 19, 3), (48, .aload_n 3, 1), (49, .invokevirtual 145, 3), (52, .ifCond .ne 13, 3), (55, .new 101, 3), (58, .dup, 1), (59, .ldc 149, 2), (61, .invokespecial 105, 3), (64, .athrow, 1), (65, .aload_n 0, 1), (66, .getfield 19, 3), (69, .iload_n 2, 1), (70, .invokevirtual 151, 3), (73, .ifCond .ne 15, 3), (76, .aload_n 0, 1), (77, .getfield 19, 3), (80, .invokevirtual 154, 3), (83, .bipush 60, 2), (85, .if_icmp .lt 13, 3), (88, .new 101, 3), (91, .dup, 1), (92, .ldc 157, 2), (94, .invokespecial 105, 3), (97, .athrow, 1), (98, .aload_n 0, 1), (99, .getfield 19, 3), (102, .iload_n 2, 1), (103, .aload_n 3, 1), (104, .invokevirtual 159, 3), (107, .aload_n 0, 1), (108, .getfield 12, 3), (111, .invokevirtual 116, 3), (114, .pop, 1), (115, .aload_n 0, 1), (116, .iconst 0, 1), (117, .iload_n 2, 1), (118, .iload_n 1, 1), (119, .invokevirtual 162, 3), (122, .ireturn, 1)]
def MX11_insert : x_MT := (RX11, yX11_insert, cX11_insert, 4, some .int, 7, 163, iX11_insert)
theorem okX11_insert : x_MOk MX11_insert := ⟨by decide +kernel, tb3_of 215 rfl rfl, by decide +kernel, rfl, tb1_of 1 rfl rfl, by decide +kernel⟩
def iX11_isPath : List (Nat × Instr × Nat) := [(0, .iload_n 0, 1), (1, .ifCond .lt 13, 3), (4, .iload_n 0, 1), (5, .bipush 72, 2), (7, .if_icmp .ge 7, 3), (10, .iconst 1, 1), (11, .goto 4, 3), (14, .iconst 0, 1), (15, .ireturn, 1)]
def MX11_isPath : x_MT := (RX11, yX11_isPath, cX11_isPath, 1, some .boolean, 0, 0, iX11_isPath)
theorem okX11_isPath : x_MOk MX11_isPath := ⟨by decide +kernel, tb4_of 81 rfl rfl, by decide +kernel, rfl, tb1_of 1 rfl rfl, by decide +kernel⟩
def iX11_update : List (Nat × Instr × Nat) := [(0, .aload_n 0, 1), (1, .getfield 19, 3), (4, .iload_n 2, 1), (5, .invokevirtual 151, 3), (8, .ifCond .ne 13, 3), (11, .new 166, 3), (14, .dup, 1), (15, .ldc 168, 2), (17, .invokespecial 170, 3), (20, .athrow, 1), (21, .iload_n 1, 1), (22, .invokestatic 140, 3), (25, .ifCond .eq 21, 3), (28, .iload_n 3, 1), (29, .invokestatic 171, 3), (32, .ifCond .eq 14, 3), (35, .iload 4, 2), (37, .ifCond .lt 9, 3), (40, .iload 4, 2), (42, .iconst 5, 1), (43, .if_icmp .le 13, 3), (46, .new 82, 3), (49, .dup, 1), (50, .ldc 174, 2), (52, .invokespecial 86, 3), (55, .athrow, 1), (56, .iload 4, 2), (58, .iconst 1, 1), (59, .if_icmp .eq 23, 3), (62, .aload_n 0, 1), (63, .getfield 12, 3), (66, .invokevirtual 176, 3), (69, .ifCond .eq 13, 3), (72, .new 101, 3), (75, .dup, 1), (76, .ldc 180, 2), (78, .invokespecial 105, 3), (81, .athrow, 1), (82, .aload_n 0, 1), (83, .getfield 19, 3), (86, .iload_n 2, 1), (87, .invokevirtual 182, 3), (90, .astore 5, 2), (92, .aload_n 0, 1), (93, .getfield 40, 3), (96, .aload 5, 2), (98, .iload_n 3, 1), (99, .iload 4, 2), (101, .aload_n 0, 1), (102, .getfield 12, 3), (105, .invokevirtual 95, 3), (108, .invokevirtual 186, 3), (111, .ifCond .ne 13, 3), (114, .new 101, 3), (117, .dup, 1), (118, .ldc 190, 2), (120, .invokespecial 105, 3), (123, .athrow, 1), (124, .aload_n 0, 1), (125, .getfield 40, 3), (128, .invokevirtual 192, 3), (131, .astore 6, 2), (133, .aload 6, 2), (135, .invokevirtual 106, 3), (138, .bipush 24, 2), (140, .if_icmp .gt 15, 3), (143, .aload_n 0, 1), (144, .getfield 19, 3), (147, .aload 6, 2), (149, .invokevirtual 145, 3), (152, .ifCond .ne 13, 3), (155, .new 101, 3), (158, .dup, 1), (159, .ldc 195, 2), (161, .invokespecial 105, 3), (164, .athrow, 1), (165, .iload 4, 2), (167, .iconst 1, 1), (168, .if_icmp .eq 11, 3), (171, .aload_n 0, 1), (172, .getfield 12, 3), (175, .invokevirtual 116, 3), (178, .pop, 1), (179, .aload 6, 2), (181, .iconst 0, 1), (182, .aload 5, 2), (184, .iconst 0, 1), (185, .invokestatic 197, 3), (188, .ifCond .ne 13, 3), (191, .aload_n 0, 1), (192, .getfield 26, 3), (195, .iload_n 1, 1), (196, .invokevirtual 201, 3), (199, .iconst 0, 1), (200, .ireturn, 1), (201, .aload_n 0, 1), (202, .getfield 19, 3), (205, .iload_n 2, 1), (206, .aload 6, 2), (208, .invokevirtual 159, 3), (211, .aload_n 0, 1), (212, .iconst 1, 1), (213, .iload_n 2, 1), (214, .iload_n 1, 1), (215, .invokevirtual 162, 3), (218, .pop, 1), (219, .iconst 1, 1), (220, .ireturn, 1)]
def MX11_update : x_MT := (RX11, yX11_update, cX11_update, 7, some .boolean, 7, 173, iX11_update)
theorem okX11_update : x_MOk MX11_update := ⟨by decide +kernel, tb4_of 62 rfl rfl, by decide +kernel, rfl, tb1_of 1 rfl rfl, by decide +kernel⟩
def iX11_takeAway : List (Nat × Instr × Nat) := [(0, .aload_n 0, 1), (1, .getfield 26, 3), (4, .aload_n 0, 1), (5, .getfield 19, 3), (8, .iload_n 1, 1), (9, .invokevirtual 182, 3), (12, .invokevirtual 363, 3), (15, .istore_n 2, 1), (16, .aload_n 0, 1), (17, .getfield 19, 3), (20, .iload_n 1, 1), (21, .invokevirtual 419, 3), (24, .aload_n 0, 1), (25, .getfield 26, 3), (28, .iload_n 1, 1), (29, .invokevirtual 422, 3), (32, .aload_n 0, 1), (33, .getfield 33, 3), (36, .iconst 2, 1), (37, .iload_n 1, 1), (38, .iload_n 2, 1), (39, .invokevirtual 416, 3), (42, .iload_n 2, 1), (43, .ireturn, 1)]
def MX11_takeAway : x_MT := (RX11, yX11_takeAway, cX11_takeAway, 3, some .int, 6, 137, iX11_takeAway)
theorem okX11_takeAway : x_MOk MX11_takeAway := ⟨by decide +kernel, tb4_of 155 rfl rfl, by decide +kernel, rfl, tb1_of 1 rfl rfl, by decide +kernel⟩
def iX11_remove : List (Nat × Instr × Nat) := [(0, .aload_n 0, 1), (1, .getfield 19, 3), (4, .iload_n 2, 1), (5, .invokevirtual 151, 3), (8, .ifCond .ne 13, 3), (11, .new 166, 3), (14, .dup, 1), (15, .ldc 168, 2), (17, .invokespecial 170, 3), (20, .athrow, 1), (21, .iload_n 1, 1), (22, .invokestatic 140, 3), (25, .ifCond .ne 13, 3), (28, .new 82, 3), (31, .dup, 1), (32, .ldc 205, 2), (34, .invokespecial 86, 3), (37, .athrow, 1), (38, .aload_n 0, 1), (39, .getfield 26, 3), (42, .iload_n 1, 1), (43, .invokevirtual 201, 3), (46, .aload_n 0, 1), (47, .iload_n 2, 1), (48, .invokevirtual 207, 3), (51, .ireturn, 1)]
def MX11_remove : x_MT := (RX11, yX11_remove, cX11_remove, 3, some .int, 7, 159, iX11_remove)
theorem okX11_remove : x_MOk MX11_remove := ⟨by decide +kernel, tb4_of 150 rfl rfl, by decide +kernel, rfl, tb1_of 1 rfl rfl, by decide +kernel⟩
def iX11_rule : List (Nat × Instr × Nat) := [(0, .iload_n 1, 1), (1, .invokestatic 119, 3), (4, .ifCond .eq 12, 3), (7, .iload_n 2, 1), (8, .ifCond .lt 8, 3), (11, .iload_n 2, 1), (12, .iconst 4, 1), (13, .if_icmp .le 13, 3), (16, .new 82, 3), (19, .dup, 1), (20, .ldc 210, 2), (22, .invokespecial 86, 3), (25, .athrow, 1), (26, .aload_n 0, 1), (27, .getfield 19, 3), (30, .iload_n 1, 1), (31, .iload_n 2, 1), (32, .invokevirtual 212, 3), (35, .ifCond .ne 13, 3), (38, .new 101, 3), (41, .dup, 1), (42, .ldc 216, 2), (44, .invokespecial 105, 3), (47, .athrow, 1), (48, .aload_n 0, 1), (49, .getfield 19, 3), (52, .iload_n 1, 1), (53, .iload_n 2, 1), (54, .invokevirtual 218, 3), (57, .ireturn, 1)]
def MX11_rule : x_MT := (RX11, yX11_rule, cX11_rule, 3, some .int, 6, 114, iX11_rule)
theorem okX11_rule : x_MOk MX11_rule := ⟨by decide +kernel, tb4_of 170 rfl rfl, by decide +kernel, rfl, tb1_of 1 rfl rfl, by decide +kernel⟩
def iX11_index : List (Nat × Instr × Nat) := [(0, .iload_n 1, 1), (1, .invokestatic 171, 3), (4, .ifCond .ne 13, 3), (7, .new 82, 3), (10, .dup, 1), (11, .ldc 221, 2), (13, .invokespecial 86, 3), (16, .athrow, 1), (17, .aload_n 0, 1), (18, .getfield 47, 3), (21, .invokevirtual 223, 3), (24, .istore_n 3, 1), (25, .iload_n 3, 1), (26, .iconst (-1), 1), (27, .if_icmp .eq 14, 3), (30, .aload_n 0, 1), (31, .getfield 47, 3), (34, .iload_n 1, 1), (35, .invokevirtual 226, 3), (38, .ifCond .eq 13, 3), (41, .new 101, 3), (44, .dup, 1), (45, .ldc 229, 2), (47, .invokespecial 105, 3), (50, .athrow, 1), (51, .aload_n 0, 1), (52, .getfield 47, 3), (55, .iload_n 3, 1), (56, .iload_n 1, 1), (57, .iload_n 2, 1), (58, .invokevirtual 231, 3), (61, .iload_n 3, 1), (62, .ireturn, 1)]
def MX11_index : x_MT := (RX11, yX11_index, cX11_index, 4, some .int, 6, 90, iX11_index)
theorem okX11_index : x_MOk MX11_index := ⟨by decide +kernel, tb4_of 187 rfl rfl, by decide +kernel, rfl, tb1_of 1 rfl rfl, by decide +kernel⟩
def iX11_dropIndex : List (Nat × Instr × Nat) := [(0, .aload_n 0, 1), (1, .getfield 47, 3), (4, .iload_n 1, 1), (5, .invokevirtual 235, 3), (8, .ifCond .ne 13, 3), (11, .new 166, 3), (14, .dup, 1), (15, .ldc 236, 2), (17, .invokespecial 170, 3), (20, .athrow, 1), (21, .aload_n 0, 1), (22, .getfield 47, 3), (25, .iload_n 1, 1), (26, .invokevirtual 238, 3), (29, .ireturn, 1)]
def MX11_dropIndex : x_MT := (RX11, yX11_dropIndex, cX11_dropIndex, 2, some .int, 6, 90, iX11_dropIndex)
theorem okX11_dropIndex : x_MOk MX11_dropIndex := ⟨by decide +kernel, tb4_of 208 rfl rfl, by decide +kernel, rfl, tb1_of 1 rfl rfl, by decide +kernel⟩
def iX11_filter : List (Nat × Instr × Nat) := [(0, .iload_n 1, 1), (1, .invokestatic 171, 3), (4, .ifCond .eq 12, 3), (7, .iload_n 2, 1), (8, .ifCond .lt 8, 3), (11, .iload_n 2, 1), (12, .iconst 4, 1), (13, .if_icmp .le 13, 3), (16, .new 82, 3), (19, .dup, 1), (20, .ldc 241, 2), (22, .invokespecial 86, 3), (25, .athrow, 1), (26, .aload_n 0, 1), (27, .getfield 12, 3), (30, .invokevirtual 176, 3), (33, .ifCond .ne 13, 3), (36, .aload_n 0, 1), (37, .getfield 54, 3), (40, .invokevirtual 243, 3), (43, .ifCond .eq 13, 3), (46, .new 101, 3), (49, .dup, 1), (50, .ldc 246, 2), (52, .invokespecial 105, 3), (55, .athrow, 1), (56, .iload_n 2, 1), (57, .iconst 4, 1), (58, .if_icmp .ne 28, 3), (61, .aload_n 0, 1), (62, .getfield 12, 3), (65, .invokevirtual 95, 3), (68, .iconst 0, 1), (69, .invokevirtual 98, 3), (72, .iconst 1, 1), (73, .if_icmp .eq 13, 3), (76, .new 101, 3), (79, .dup, 1), (80, .ldc 248, 2), (82, .invokespecial 105, 3), (85, .athrow, 1), (86, .aload_n 0, 1), (87, .getfield 54, 3), (90, .iload_n 1, 1), (91, .iload_n 2, 1), (92, .aload_n 0, 1), (93, .getfield 12, 3), (96, .invokevirtual 95, 3), (99, .invokevirtual 250, 3), (102, .aload_n 0, 1), (103, .getfield 12, 3), (106, .invokevirtual 116, 3), (109, .pop, 1), (110, .aload_n 0, 1), (111, .getfield 54, 3), (114, .invokevirtual 253, 3), (117, .ireturn, 1)]
def MX11_filter : x_MT := (RX11, yX11_filter, cX11_filter, 3, some .int, 6, 141, iX11_filter)
theorem okX11_filter : x_MOk MX11_filter := ⟨by decide +kernel, tb4_of 232 rfl rfl, by decide +kernel, rfl, tb1_of 1 rfl rfl, by decide +kernel⟩
def iX11_clear : List (Nat × Instr × Nat) := [(0, .aload_n 0, 1), (1, .getfield 54, 3), (4, .invokevirtual 254, 3), (7, .ireturn, 1)]
def MX11_clear : x_MT := (RX11, yX11_clear, cX11_clear, 1, some .int, 1, 21, iX11_clear)
theorem okX11_clear : x_MOk MX11_clear := ⟨by decide +kernel, tb2_of 104 rfl rfl, by decide +kernel, rfl, tb1_of 1 rfl rfl, by decide +kernel⟩
def iX11_find : List (Nat × Instr × Nat) := [(0, .iload_n 1, 1), (1, .invokestatic 140, 3), (4, .ifCond .ne 13, 3), (7, .new 82, 3), (10, .dup, 1), (11, .ldc 205, 2), (13, .invokespecial 86, 3), (16, .athrow, 1), (17, .aload_n 0, 1), (18, .getfield 26, 3), (21, .iload_n 1, 1), (22, .invokevirtual 201, 3), (25, .aload_n 0, 1), (26, .getfield 54, 3), (29, .aload_n 0, 1), (30, .getfield 19, 3), (33, .aload_n 0, 1), (34, .getfield 47, 3), (37, .invokevirtual 257, 3), (40, .aload_n 0, 1), (41, .getfield 54, 3), (44, .aload_n 0, 1), (45, .getfield 19, 3), (48, .invokevirtual 261, 3), (51, .ireturn, 1)]
def MX11_find : x_MT := (RX11, yX11_find, cX11_find, 2, some .int, 7, 172, iX11_find)
theorem okX11_find : x_MOk MX11_find := ⟨by decide +kernel, tb5_of 20 rfl rfl, by decide +kernel, rfl, tb1_of 1 rfl rfl, by decide +kernel⟩
def iX11_found : List (Nat × Instr × Nat) := [(0, .iload_n 1, 1), (1, .ifCond .lt 14, 3), (4, .iload_n 1, 1), (5, .aload_n 0, 1), (6, .getfield 54, 3), (9, .invokevirtual 265, 3), (12, .if_icmp .lt 14, 3), (15, .new 166, 3), (18, .dup, 1), (19, .ldc_w 268, 3), (22, .invokespecial 170, 3), (25, .athrow, 1), (26, .aload_n 0, 1), (27, .getfield 54, 3), (30, .iload_n 1, 1), (31, .invokevirtual 270, 3), (34, .ireturn, 1)]
def MX11_found : x_MT := (RX11, yX11_found, cX11_found, 2, some .int, 6, 90, iX11_found)
theorem okX11_found : x_MOk MX11_found := ⟨by decide +kernel, tb5_of 97 rfl rfl, by decide +kernel, rfl, tb1_of 1 rfl rfl, by decide +kernel⟩
def iX11_findAnew : List (Nat × Instr × Nat) := [(0, .aload_n 0, 1), (1, .getfield 54, 3), (4, .aload_n 0, 1), (5, .getfield 19, 3), (8, .invokevirtual 273, 3), (11, .ireturn, 1)]
def MX11_findAnew : x_MT := (RX11, yX11_findAnew, cX11_findAnew, 1, some .int, 6, 143, iX11_findAnew)
theorem okX11_findAnew : x_MOk MX11_findAnew := ⟨by decide +kernel, tb2_of 112 rfl rfl, by decide +kernel, rfl, tb1_of 1 rfl rfl, by decide +kernel⟩
def iX11_plan : List (Nat × Instr × Nat) := [(0, .iload_n 1, 1), (1, .ifCond .lt 8, 3), (4, .iload_n 1, 1), (5, .iconst 4, 1), (6, .if_icmp .le 14, 3), (9, .new 82, 3), (12, .dup, 1), (13, .ldc_w 276, 3), (16, .invokespecial 86, 3), (19, .athrow, 1), (20, .iload_n 1, 1), (21, .iconst 4, 1), (22, .if_icmp .ne 13, 3), (25, .aload_n 0, 1), (26, .getfield 47, 3), (29, .invokevirtual 278, 3), (32, .goto 11, 3), (35, .aload_n 0, 1), (36, .getfield 54, 3), (39, .iload_n 1, 1), (40, .invokevirtual 281, 3), (43, .ireturn, 1)]
def MX11_plan : x_MT := (RX11, yX11_plan, cX11_plan, 2, some .int, 6, 90, iX11_plan)
theorem okX11_plan : x_MOk MX11_plan := ⟨by decide +kernel, tb5_of 113 rfl rfl, by decide +kernel, rfl, tb1_of 1 rfl rfl, by decide +kernel⟩
def iX11_group : List (Nat × Instr × Nat) := [(0, .iload_n 1, 1), (1, .invokestatic 171, 3), (4, .ifCond .eq 10, 3), (7, .iload_n 2, 1), (8, .invokestatic 171, 3), (11, .ifCond .ne 13, 3), (14, .new 82, 3), (17, .dup, 1), (18, .ldc 221, 2), (20, .invokespecial 86, 3), (23, .athrow, 1), (24, .aload_n 0, 1), (25, .getfield 61, 3), (28, .aload_n 0, 1), (29, .getfield 19, 3), (32, .aload_n 0, 1), (33, .getfield 54, 3), (36, .iload_n 1, 1), (37, .iload_n 2, 1), (38, .invokevirtual 284, 3), (41, .ireturn, 1)]
def MX11_group : x_MT := (RX11, yX11_group, cX11_group, 3, some .int, 6, 156, iX11_group)
theorem okX11_group : x_MOk MX11_group := ⟨by decide +kernel, tb5_of 129 rfl rfl, by decide +kernel, rfl, tb1_of 1 rfl rfl, by decide +kernel⟩
def iX11_grouped : List (Nat × Instr × Nat) := [(0, .iload_n 1, 1), (1, .ifCond .lt 14, 3), (4, .iload_n 1, 1), (5, .aload_n 0, 1), (6, .getfield 61, 3), (9, .invokevirtual 288, 3), (12, .if_icmp .lt 14, 3), (15, .new 166, 3), (18, .dup, 1), (19, .ldc_w 289, 3), (22, .invokespecial 170, 3), (25, .athrow, 1), (26, .iload_n 2, 1), (27, .ifCond .lt 8, 3), (30, .iload_n 2, 1), (31, .iconst 2, 1), (32, .if_icmp .le 14, 3), (35, .new 82, 3), (38, .dup, 1), (39, .ldc_w 276, 3), (42, .invokespecial 86, 3), (45, .athrow, 1), (46, .aload_n 0, 1), (47, .getfield 61, 3), (50, .iload_n 1, 1), (51, .iload_n 2, 1), (52, .invokevirtual 291, 3), (55, .lreturn, 1)]
def MX11_grouped : x_MT := (RX11, yX11_grouped, cX11_grouped, 3, some .long, 6, 90, iX11_grouped)
theorem okX11_grouped : x_MOk MX11_grouped := ⟨by decide +kernel, tb5_of 184 rfl rfl, by decide +kernel, rfl, tb1_of 1 rfl rfl, by decide +kernel⟩
def iX11_split : List (Nat × Instr × Nat) := [(0, .aload_n 0, 1), (1, .getfield 26, 3), (4, .iload_n 1, 1), (5, .invokevirtual 295, 3), (8, .ifCond .ne 14, 3), (11, .new 166, 3), (14, .dup, 1), (15, .ldc_w 296, 3), (18, .invokespecial 170, 3), (21, .athrow, 1), (22, .iload_n 2, 1), (23, .aload_n 0, 1), (24, .getfield 26, 3), (27, .iload_n 1, 1), (28, .invokevirtual 298, 3), (31, .if_icmp .le 15, 3), (34, .iload_n 2, 1), (35, .aload_n 0, 1), (36, .getfield 26, 3), (39, .iload_n 1, 1), (40, .invokevirtual 301, 3), (43, .if_icmp .lt 14, 3), (46, .new 82, 3), (49, .dup, 1), (50, .ldc_w 304, 3), (53, .invokespecial 86, 3), (56, .athrow, 1), (57, .aload_n 0, 1), (58, .getfield 26, 3), (61, .iload_n 1, 1), (62, .invokevirtual 306, 3), (65, .ifCond .ne 15, 3), (68, .aload_n 0, 1), (69, .getfield 26, 3), (72, .invokevirtual 309, 3), (75, .bipush 12, 2), (77, .if_icmp .lt 14, 3), (80, .new 101, 3), (83, .dup, 1), (84, .ldc_w 310, 3), (87, .invokespecial 105, 3), (90, .athrow, 1), (91, .aload_n 0, 1), (92, .getfield 26, 3), (95, .iload_n 1, 1), (96, .iload_n 2, 1), (97, .invokevirtual 312, 3), (100, .aload_n 0, 1), (101, .getfield 26, 3), (104, .invokevirtual 309, 3), (107, .ireturn, 1)]
def MX11_split : x_MT := (RX11, yX11_split, cX11_split, 3, some .int, 6, 90, iX11_split)
theorem okX11_split : x_MOk MX11_split := ⟨by decide +kernel, tb5_of 200 rfl rfl, by decide +kernel, rfl, tb1_of 1 rfl rfl, by decide +kernel⟩
def iX11_isShard : List (Nat × Instr × Nat) := [(0, .iload_n 0, 1), (1, .ifCond .lt 12, 3), (4, .iload_n 0, 1), (5, .iconst 3, 1), (6, .if_icmp .ge 7, 3), (9, .iconst 1, 1), (10, .goto 4, 3), (13, .iconst 0, 1), (14, .ireturn, 1)]
def MX11_isShard : x_MT := (RX11, yX11_isShard, cX11_isShard, 1, some .boolean, 0, 0, iX11_isShard)
theorem okX11_isShard : x_MOk MX11_isShard := ⟨by decide +kernel, tb5_of 231 rfl rfl, by decide +kernel, rfl, tb1_of 1 rfl rfl, by decide +kernel⟩
def iX11_move : List (Nat × Instr × Nat) := [(0, .aload_n 0, 1), (1, .getfield 26, 3), (4, .iload_n 1, 1), (5, .invokevirtual 295, 3), (8, .ifCond .ne 14, 3), (11, .new 166, 3), (14, .dup, 1), (15, .ldc_w 296, 3), (18, .invokespecial 170, 3), (21, .athrow, 1), (22, .iload_n 2, 1), (23, .invokestatic 316, 3), (26, .ifCond .ne 14, 3), (29, .new 82, 3), (32, .dup, 1), (33, .ldc_w 319, 3), (36, .invokespecial 86, 3), (39, .athrow, 1), (40, .aload_n 0, 1), (41, .getfield 26, 3), (44, .iload_n 1, 1), (45, .invokevirtual 321, 3), (48, .iload_n 2, 1), (49, .if_icmp .eq 13, 3), (52, .aload_n 0, 1), (53, .getfield 26, 3), (56, .invokevirtual 324, 3), (59, .ifCond .eq 14, 3), (62, .new 101, 3), (65, .dup, 1), (66, .ldc_w 327, 3), (69, .invokespecial 105, 3), (72, .athrow, 1), (73, .aload_n 0, 1), (74, .getfield 26, 3), (77, .iload_n 1, 1), (78, .iload_n 2, 1), (79, .invokevirtual 329, 3), (82, .aload_n 0, 1), (83, .getfield 26, 3), (86, .aload_n 0, 1), (87, .getfield 19, 3), (90, .invokevirtual 332, 3), (93, .ireturn, 1)]
def MX11_move : x_MT := (RX11, yX11_move, cX11_move, 3, some .int, 7, 161, iX11_move)
theorem okX11_move : x_MOk MX11_move := ⟨by decide +kernel, tb5_of 228 rfl rfl, by decide +kernel, rfl, tb1_of 1 rfl rfl, by decide +kernel⟩
def iX11_copy : List (Nat × Instr × Nat) := [(0, .iload_n 1, 1), (1, .iconst 1, 1), (2, .if_icmp .lt 9, 3), (5, .iload_n 1, 1), (6, .bipush 20, 2), (8, .if_icmp .le 14, 3), (11, .new 82, 3), (14, .dup, 1), (15, .ldc_w 335, 3), (18, .invokespecial 86, 3), (21, .athrow, 1), (22, .aload_n 0, 1), (23, .getfield 26, 3), (26, .invokevirtual 324, 3), (29, .ifCond .ne 14, 3), (32, .new 101, 3), (35, .dup, 1), (36, .ldc_w 337, 3), (39, .invokespecial 105, 3), (42, .athrow, 1), (43, .aload_n 0, 1), (44, .getfield 26, 3), (47, .aload_n 0, 1), (48, .getfield 19, 3), (51, .iload_n 1, 1), (52, .invokevirtual 339, 3), (55, .aload_n 0, 1), (56, .getfield 26, 3), (59, .aload_n 0, 1), (60, .getfield 19, 3), (63, .invokevirtual 332, 3), (66, .ireturn, 1)]
def MX11_copy : x_MT := (RX11, yX11_copy, cX11_copy, 2, some .int, 7, 162, iX11_copy)
theorem okX11_copy : x_MOk MX11_copy := ⟨by decide +kernel, tb6_of 16 rfl rfl, by decide +kernel, rfl, tb1_of 1 rfl rfl, by decide +kernel⟩
def iX11_handOver : List (Nat × Instr × Nat) := [(0, .aload_n 0, 1), (1, .getfield 26, 3), (4, .invokevirtual 324, 3), (7, .ifCond .eq 17, 3), (10, .aload_n 0, 1), (11, .getfield 26, 3), (14, .aload_n 0, 1), (15, .getfield 19, 3), (18, .invokevirtual 332, 3), (21, .ifCond .le 14, 3), (24, .new 101, 3), (27, .dup, 1), (28, .ldc_w 343, 3), (31, .invokespecial 105, 3), (34, .athrow, 1), (35, .aload_n 0, 1), (36, .getfield 26, 3), (39, .aload_n 0, 1), (40, .getfield 19, 3), (43, .invokevirtual 345, 3), (46, .ireturn, 1)]
def MX11_handOver : x_MT := (RX11, yX11_handOver, cX11_handOver, 1, some .int, 7, 163, iX11_handOver)
theorem okX11_handOver : x_MOk MX11_handOver := ⟨by decide +kernel, tb6_of 29 rfl rfl, by decide +kernel, rfl, tb1_of 1 rfl rfl, by decide +kernel⟩
def iX11_giveUp : List (Nat × Instr × Nat) := [(0, .aload_n 0, 1), (1, .getfield 26, 3), (4, .invokevirtual 324, 3), (7, .ifCond .ne 14, 3), (10, .new 101, 3), (13, .dup, 1), (14, .ldc_w 337, 3), (17, .invokespecial 105, 3), (20, .athrow, 1), (21, .aload_n 0, 1), (22, .getfield 26, 3), (25, .invokevirtual 348, 3), (28, .ireturn, 1)]
def MX11_giveUp : x_MT := (RX11, yX11_giveUp, cX11_giveUp, 1, some .int, 6, 90, iX11_giveUp)
theorem okX11_giveUp : x_MOk MX11_giveUp := ⟨by decide +kernel, tb6_of 49 rfl rfl, by decide +kernel, rfl, tb1_of 1 rfl rfl, by decide +kernel⟩
def iX11_clean : List (Nat × Instr × Nat) := [(0, .iload_n 1, 1), (1, .invokestatic 316, 3), (4, .ifCond .ne 14, 3), (7, .new 82, 3), (10, .dup, 1), (11, .ldc_w 319, 3), (14, .invokespecial 86, 3), (17, .athrow, 1), (18, .aload_n 0, 1), (19, .getfield 26, 3), (22, .iload_n 1, 1), (23, .invokevirtual 351, 3), (26, .ireturn, 1)]
def MX11_clean : x_MT := (RX11, yX11_clean, cX11_clean, 2, some .int, 6, 90, iX11_clean)
theorem okX11_clean : x_MOk MX11_clean := ⟨by decide +kernel, tb6_of 57 rfl rfl, by decide +kernel, rfl, tb1_of 1 rfl rfl, by decide +kernel⟩
def iX11_key : List (Nat × Instr × Nat) := [(0, .iload_n 1, 1), (1, .invokestatic 119, 3), (4, .ifCond .ne 13, 3), (7, .new 82, 3), (10, .dup, 1), (11, .ldc 122, 2), (13, .invokespecial 86, 3), (16, .athrow, 1), (17, .aload_n 0, 1), (18, .getfield 26, 3), (21, .invokevirtual 324, 3), (24, .ifCond .eq 14, 3), (27, .new 101, 3), (30, .dup, 1), (31, .ldc_w 354, 3), (34, .invokespecial 105, 3), (37, .athrow, 1), (38, .aload_n 0, 1), (39, .getfield 26, 3), (42, .aload_n 0, 1), (43, .getfield 19, 3), (46, .iload_n 1, 1), (47, .iload_n 2, 1), (48, .invokevirtual 356, 3), (51, .ireturn, 1)]
def MX11_key : x_MT := (RX11, yX11_key, cX11_key, 3, some .int, 7, 162, iX11_key)
theorem okX11_key : x_MOk MX11_key := ⟨by decide +kernel, tb6_of 72 rfl rfl, by decide +kernel, rfl, tb1_of 1 rfl rfl, by decide +kernel⟩
def iX11_expire : List (Nat × Instr × Nat) := [(0, .iload_n 1, 1), (1, .iconst (-1), 1), (2, .if_icmp .eq 20, 3), (5, .iload_n 1, 1), (6, .invokestatic 119, 3), (9, .ifCond .ne 13, 3), (12, .new 82, 3), (15, .dup, 1), (16, .ldc 122, 2), (18, .invokespecial 86, 3), (21, .athrow, 1), (22, .aload_n 0, 1), (23, .getfield 65, 3), (26, .istore_n 2, 1), (27, .aload_n 0, 1), (28, .iload_n 1, 1), (29, .putfield 65, 3), (32, .iload_n 2, 1), (33, .ireturn, 1)]
def MX11_expire : x_MT := (RX11, yX11_expire, cX11_expire, 3, some .int, 6, 90, iX11_expire)
theorem okX11_expire : x_MOk MX11_expire := ⟨by decide +kernel, tb6_of 85 rfl rfl, by decide +kernel, rfl, tb1_of 1 rfl rfl, by decide +kernel⟩
def iX11_isExpired : List (Nat × Instr × Nat) := [(0, .aload_n 0, 1), (1, .getfield 65, 3), (4, .iconst (-1), 1), (5, .if_icmp .eq 14, 3), (8, .aload_n 0, 1), (9, .getfield 19, 3), (12, .iload_n 1, 1), (13, .invokevirtual 151, 3), (16, .ifCond .ne 5, 3), (19, .iconst 0, 1), (20, .ireturn, 1), (21, .aload_n 0, 1), (22, .getfield 19, 3), (25, .iload_n 1, 1), (26, .invokevirtual 182, 3), (29, .astore_n 2, 1), (30, .aload_n 2, 1), (31, .iconst 0, 1), (32, .aload_n 0, 1), (33, .getfield 65, 3), (36, .invokevirtual 126, 3), (39, .istore_n 3, 1), (40, .aload_n 2, 1), (41, .iload_n 3, 1), (42, .invokevirtual 98, 3), (45, .iconst 1, 1), (46, .if_icmp .ne 19, 3), (49, .aload_n 2, 1), (50, .iload_n 3, 1), (51, .invokevirtual 425, 3), (54, .aload_n 0, 1), (55, .getfield 69, 3), (58, .if_icmp .gt 7, 3), (61, .iconst 1, 1), (62, .goto 4, 3), (65, .iconst 0, 1), (66, .ireturn, 1)]
def MX11_isExpired : x_MT := (RX11, yX11_isExpired, cX11_isExpired, 4, some .boolean, 3, 69, iX11_isExpired)
theorem okX11_isExpired : x_MOk MX11_isExpired := ⟨by decide +kernel, tb6_of 96 rfl rfl, by decide +kernel, rfl, tb1_of 1 rfl rfl, by decide +kernel⟩
def iX11_tick : List (Nat × Instr × Nat) := [(0, .iload_n 1, 1), (1, .iconst 1, 1), (2, .if_icmp .lt 9, 3), (5, .iload_n 1, 1), (6, .bipush 20, 2), (8, .if_icmp .le 14, 3), (11, .new 82, 3), (14, .dup, 1), (15, .ldc_w 335, 3), (18, .invokespecial 86, 3), (21, .athrow, 1), (22, .iconst 0, 1), (23, .istore_n 2, 1), (24, .iconst 0, 1), (25, .istore_n 3, 1), (26, .iload_n 3, 1), (27, .iload_n 1, 1), (28, .if_icmp .ge 54, 3), (31, .aload_n 0, 1), (32, .dup, 1), (33, .getfield 69, 3), (36, .iconst 1, 1), (37, .iadd, 1), (38, .putfield 69, 3), (41, .iconst 0, 1), (42, .istore 4, 2), (44, .iload 4, 2), (46, .bipush 100, 2), (48, .if_icmp .ge 28, 3), (51, .aload_n 0, 1), (52, .iload 4, 2), (54, .invokevirtual 360, 3), (57, .ifCond .eq 13, 3), (60, .aload_n 0, 1), (61, .iload 4, 2), (63, .invokevirtual 207, 3), (66, .pop, 1), (67, .iinc 2 1, 3), (70, .iinc 4 1, 3), (73, .goto (-29), 3), (76, .iinc 3 1, 3), (79, .goto (-53), 3), (82, .iload_n 2, 1), (83, .ireturn, 1)]
def MX11_tick : x_MT := (RX11, yX11_tick, cX11_tick, 5, some .int, 7, 159, iX11_tick)
theorem okX11_tick : x_MOk MX11_tick := ⟨by decide +kernel, tb6_of 92 rfl rfl, by decide +kernel, rfl, tb1_of 1 rfl rfl, by decide +kernel⟩
def iX11_documents : List (Nat × Instr × Nat) := [(0, .aload_n 0, 1), (1, .getfield 19, 3), (4, .invokevirtual 154, 3), (7, .ireturn, 1)]
def MX11_documents : x_MT := (RX11, yX11_documents, cX11_documents, 1, some .int, 1, 20, iX11_documents)
theorem okX11_documents : x_MOk MX11_documents := ⟨by decide +kernel, tb2_of 207 rfl rfl, by decide +kernel, rfl, tb1_of 1 rfl rfl, by decide +kernel⟩
def iX11_document : List (Nat × Instr × Nat) := [(0, .iload_n 2, 1), (1, .ifCond .lt 8, 3), (4, .iload_n 2, 1), (5, .iconst 2, 1), (6, .if_icmp .le 14, 3), (9, .new 82, 3), (12, .dup, 1), (13, .ldc_w 276, 3), (16, .invokespecial 86, 3), (19, .athrow, 1), (20, .aload_n 0, 1), (21, .getfield 19, 3), (24, .iload_n 1, 1), (25, .invokevirtual 151, 3), (28, .ifCond .ne 5, 3), (31, .iconst (-1), 1), (32, .ireturn, 1), (33, .aload_n 0, 1), (34, .getfield 19, 3), (37, .iload_n 1, 1), (38, .invokevirtual 182, 3), (41, .astore_n 3, 1), (42, .iload_n 2, 1), (43, .ifCond .ne 12, 3), (46, .aload_n 0, 1), (47, .getfield 26, 3), (50, .aload_n 3, 1), (51, .invokevirtual 363, 3), (54, .ireturn, 1), (55, .iload_n 2, 1), (56, .iconst 1, 1), (57, .if_icmp .ne 14, 3), (60, .aload_n 0, 1), (61, .getfield 26, 3), (64, .aload_n 3, 1), (65, .invokevirtual 367, 3), (68, .goto 7, 3), (71, .aload_n 3, 1), (72, .invokevirtual 106, 3), (75, .ireturn, 1)]
def MX11_document : x_MT := (RX11, yX11_document, cX11_document, 4, some .int, 6, 137, iX11_document)
theorem okX11_document : x_MOk MX11_document := ⟨by decide +kernel, tb6_of 104 rfl rfl, by decide +kernel, rfl, tb1_of 1 rfl rfl, by decide +kernel⟩
def iX11_print : List (Nat × Instr × Nat) := [(0, .aload_n 0, 1), (1, .getfield 19, 3), (4, .iload_n 1, 1), (5, .invokevirtual 151, 3), (8, .ifCond .ne 13, 3), (11, .new 166, 3), (14, .dup, 1), (15, .ldc 168, 2), (17, .invokespecial 170, 3), (20, .athrow, 1), (21, .aload_n 0, 1), (22, .getfield 19, 3), (25, .iload_n 1, 1), (26, .invokevirtual 182, 3), (29, .iconst 0, 1), (30, .invokevirtual 370, 3), (33, .lreturn, 1)]
def MX11_print : x_MT := (RX11, yX11_print, cX11_print, 2, some .long, 6, 99, iX11_print)
theorem okX11_print : x_MOk MX11_print := ⟨by decide +kernel, tb6_of 112 rfl rfl, by decide +kernel, rfl, tb1_of 1 rfl rfl, by decide +kernel⟩
def iX11_entries : List (Nat × Instr × Nat) := [(0, .aload_n 0, 1), (1, .getfield 47, 3), (4, .iload_n 1, 1), (5, .invokevirtual 235, 3), (8, .ifCond .ne 13, 3), (11, .new 166, 3), (14, .dup, 1), (15, .ldc 236, 2), (17, .invokespecial 170, 3), (20, .athrow, 1), (21, .aload_n 0, 1), (22, .getfield 47, 3), (25, .aload_n 0, 1), (26, .getfield 19, 3), (29, .iload_n 1, 1), (30, .invokevirtual 374, 3), (33, .ireturn, 1)]
def MX11_entries : x_MT := (RX11, yX11_entries, cX11_entries, 2, some .int, 6, 145, iX11_entries)
theorem okX11_entries : x_MOk MX11_entries := ⟨by decide +kernel, tb6_of 120 rfl rfl, by decide +kernel, rfl, tb1_of 1 rfl rfl, by decide +kernel⟩
def iX11_entriesAnew : List (Nat × Instr × Nat) := [(0, .aload_n 0, 1), (1, .getfield 47, 3), (4, .iload_n 1, 1), (5, .invokevirtual 235, 3), (8, .ifCond .ne 13, 3), (11, .new 166, 3), (14, .dup, 1), (15, .ldc 236, 2), (17, .invokespecial 170, 3), (20, .athrow, 1), (21, .aload_n 0, 1), (22, .getfield 47, 3), (25, .aload_n 0, 1), (26, .getfield 19, 3), (29, .iload_n 1, 1), (30, .invokevirtual 374, 3), (33, .ireturn, 1)]
def MX11_entriesAnew : x_MT := (RX11, yX11_entriesAnew, cX11_entriesAnew, 2, some .int, 6, 145, iX11_entriesAnew)
theorem okX11_entriesAnew : x_MOk MX11_entriesAnew := ⟨by decide +kernel, tb6_of 141 rfl rfl, by decide +kernel, rfl, tb1_of 1 rfl rfl, by decide +kernel⟩
def iX11_chunk : List (Nat × Instr × Nat) := [(0, .aload_n 0, 1), (1, .getfield 26, 3), (4, .iload_n 1, 1), (5, .invokevirtual 295, 3), (8, .ifCond .ne 14, 3), (11, .new 166, 3), (14, .dup, 1), (15, .ldc_w 296, 3), (18, .invokespecial 170, 3), (21, .athrow, 1), (22, .iload_n 2, 1), (23, .ifCond .lt 8, 3), (26, .iload_n 2, 1), (27, .iconst 3, 1), (28, .if_icmp .le 14, 3), (31, .new 82, 3), (34, .dup, 1), (35, .ldc_w 276, 3), (38, .invokespecial 86, 3), (41, .athrow, 1), (42, .iload_n 2, 1), (43, .ifCond .ne 12, 3), (46, .aload_n 0, 1), (47, .getfield 26, 3), (50, .iload_n 1, 1), (51, .invokevirtual 298, 3), (54, .ireturn, 1), (55, .iload_n 2, 1), (56, .iconst 1, 1), (57, .if_icmp .ne 12, 3), (60, .aload_n 0, 1), (61, .getfield 26, 3), (64, .iload_n 1, 1), (65, .invokevirtual 321, 3), (68, .ireturn, 1), (69, .iload_n 2, 1), (70, .iconst 2, 1), (71, .if_icmp .ne 18, 3), (74, .aload_n 0, 1), (75, .getfield 26, 3), (78, .aload_n 0, 1), (79, .getfield 19, 3), (82, .iload_n 1, 1), (83, .invokevirtual 378, 3), (86, .goto 19, 3), (89, .aload_n 0, 1), (90, .getfield 26, 3), (93, .iload_n 1, 1), (94, .invokevirtual 306, 3), (97, .ifCond .eq 7, 3), (100, .iconst 1, 1), (101, .goto 4, 3), (104, .iconst 0, 1), (105, .ireturn, 1)]
def MX11_chunk : x_MT := (RX11, yX11_chunk, cX11_chunk, 3, some .int, 6, 140, iX11_chunk)
theorem okX11_chunk : x_MOk MX11_chunk := ⟨by decide +kernel, tb6_of 148 rfl rfl, by decide +kernel, rfl, tb1_of 1 rfl rfl, by decide +kernel⟩
def iX11_shard : List (Nat × Instr × Nat) := [(0, .iload_n 1, 1), (1, .invokestatic 316, 3), (4, .ifCond .eq 12, 3), (7, .iload_n 2, 1), (8, .ifCond .lt 8, 3), (11, .iload_n 2, 1), (12, .iconst 2, 1), (13, .if_icmp .le 14, 3), (16, .new 82, 3), (19, .dup, 1), (20, .ldc_w 381, 3), (23, .invokespecial 86, 3), (26, .athrow, 1), (27, .iload_n 2, 1), (28, .ifCond .ne 16, 3), (31, .aload_n 0, 1), (32, .getfield 26, 3), (35, .aload_n 0, 1), (36, .getfield 19, 3), (39, .iload_n 1, 1), (40, .invokevirtual 383, 3), (43, .ireturn, 1), (44, .iload_n 2, 1), (45, .iconst 1, 1), (46, .if_icmp .ne 14, 3), (49, .aload_n 0, 1), (50, .getfield 26, 3), (53, .iload_n 1, 1), (54, .invokevirtual 386, 3), (57, .goto 11, 3), (60, .aload_n 0, 1), (61, .getfield 26, 3), (64, .iload_n 1, 1), (65, .invokevirtual 389, 3), (68, .ireturn, 1)]
def MX11_shard : x_MT := (RX11, yX11_shard, cX11_shard, 3, some .int, 7, 161, iX11_shard)
theorem okX11_shard : x_MOk MX11_shard := ⟨by decide +kernel, tb6_of 156 rfl rfl, by decide +kernel, rfl, tb1_of 1 rfl rfl, by decide +kernel⟩
def iX11_router : List (Nat × Instr × Nat) := [(0, .iload_n 1, 1), (1, .invokestatic 140, 3), (4, .ifCond .eq 12, 3), (7, .iload_n 2, 1), (8, .ifCond .lt 8, 3), (11, .iload_n 2, 1), (12, .iconst 1, 1), (13, .if_icmp .le 14, 3), (16, .new 82, 3), (19, .dup, 1), (20, .ldc_w 392, 3), (23, .invokespecial 86, 3), (26, .athrow, 1), (27, .iload_n 2, 1), (28, .ifCond .ne 14, 3), (31, .aload_n 0, 1), (32, .getfield 26, 3), (35, .iload_n 1, 1), (36, .invokevirtual 394, 3), (39, .goto 11, 3), (42, .aload_n 0, 1), (43, .getfield 26, 3), (46, .iload_n 1, 1), (47, .invokevirtual 397, 3), (50, .ireturn, 1)]
def MX11_router : x_MT := (RX11, yX11_router, cX11_router, 3, some .int, 6, 90, iX11_router)
theorem okX11_router : x_MOk MX11_router := ⟨by decide +kernel, tb6_of 173 rfl rfl, by decide +kernel, rfl, tb1_of 1 rfl rfl, by decide +kernel⟩
def iX11_next : List (Nat × Instr × Nat) := [(0, .aload_n 0, 1), (1, .getfield 33, 3), (4, .iload_n 1, 1), (5, .invokevirtual 400, 3), (8, .ireturn, 1)]
def MX11_next : x_MT := (RX11, yX11_next, cX11_next, 2, some .int, 2, 43, iX11_next)
theorem okX11_next : x_MOk MX11_next := ⟨by decide +kernel, tb2_of 215 rfl rfl, by decide +kernel, rfl, tb1_of 1 rfl rfl, by decide +kernel⟩
def iX11_change : List (Nat × Instr × Nat) := [(0, .aload_n 0, 1), (1, .getfield 33, 3), (4, .iload_n 1, 1), (5, .invokevirtual 403, 3), (8, .ifCond .ne 14, 3), (11, .new 166, 3), (14, .dup, 1), (15, .ldc_w 404, 3), (18, .invokespecial 170, 3), (21, .athrow, 1), (22, .iload_n 2, 1), (23, .ifCond .lt 8, 3), (26, .iload_n 2, 1), (27, .iconst 2, 1), (28, .if_icmp .le 14, 3), (31, .new 82, 3), (34, .dup, 1), (35, .ldc_w 276, 3), (38, .invokespecial 86, 3), (41, .athrow, 1), (42, .aload_n 0, 1), (43, .getfield 33, 3), (46, .iload_n 1, 1), (47, .iload_n 2, 1), (48, .invokevirtual 406, 3), (51, .ireturn, 1)]
def MX11_change : x_MT := (RX11, yX11_change, cX11_change, 3, some .int, 6, 90, iX11_change)
theorem okX11_change : x_MOk MX11_change := ⟨by decide +kernel, tb6_of 189 rfl rfl, by decide +kernel, rfl, tb1_of 1 rfl rfl, by decide +kernel⟩
def iX11_now : List (Nat × Instr × Nat) := [(0, .aload_n 0, 1), (1, .getfield 69, 3), (4, .ireturn, 1)]
def MX11_now : x_MT := (RX11, yX11_now, cX11_now, 1, some .int, 0, 0, iX11_now)
theorem okX11_now : x_MOk MX11_now := ⟨by decide +kernel, tb2_of 226 rfl rfl, by decide +kernel, rfl, tb1_of 1 rfl rfl, by decide +kernel⟩
def iX12_chunksAnew : List (Nat × Instr × Nat) := [(0, .aload_n 0, 1), (1, .iconst 3, 1), (2, .putfield 200, 3), (5, .iconst 0, 1), (6, .istore_n 1, 1), (7, .iload_n 1, 1), (8, .iconst 3, 1), (9, .if_icmp .ge 44, 3), (12, .aload_n 0, 1), (13, .getfield 57, 3), (16, .iload_n 1, 1), (17, .iload_n 1, 1), (18, .ifCond .ne 7, 3), (21, .iconst 0, 1), (22, .goto 10, 3), (25, .sipush 333, 3), (28, .iload_n 1, 1), (29, .imul, 1), (30, .iconst 1, 1), (31, .iadd, 1), (32, .iastore, 1), (33, .aload_n 0, 1), (34, .getfield 60, 3), (37, .iload_n 1, 1), (38, .iload_n 1, 1), (39, .iastore, 1), (40, .aload_n 0, 1), (41, .getfield 70, 3), (44, .iload_n 1, 1), (45, .iconst 0, 1), (46, .iastore, 1), (47, .iinc 1 1, 3), (50, .goto (-43), 3), (53, .return_, 1)]
def MX12_chunksAnew : x_MT := (RX12, yX12_chunksAnew, cX12_chunksAnew, 2, none, 0, 0, iX12_chunksAnew)
theorem okX12_chunksAnew : x_MOk MX12_chunksAnew := ⟨by decide +kernel, tb6_of 208 rfl rfl, by decide +kernel, rfl, tb1_of 13 rfl rfl, by decide +kernel⟩
def iX12_init : List (Nat × Instr × Nat) := [(0, .aload_n 0, 1), (1, .invokespecial 1, 3), (4, .aload_n 0, 1), (5, .sipush 11300, 3), (8, .newarray .int, 2), (10, .putfield 7, 3), (13, .aload_n 0, 1), (14, .bipush 100, 2), (16, .newarray .boolean, 2), (18, .putfield 13, 3), (21, .aload_n 0, 1), (22, .sipush 400, 3), (25, .newarray .int, 2), (27, .putfield 17, 3), (30, .aload_n 0, 1), (31, .sipush 400, 3), (34, .newarray .int, 2), (36, .putfield 20, 3), (39, .aload_n 0, 1), (40, .bipush 8, 2), (42, .newarray .int, 2), (44, .putfield 23, 3), (47, .aload_n 0, 1), (48, .iconst 3, 1), (49, .newarray .int, 2), (51, .putfield 26, 3), (54, .aload_n 0, 1), (55, .iconst 3, 1), (56, .newarray .boolean, 2), (58, .putfield 29, 3), (61, .aload_n 0, 1), (62, .iconst 3, 1), (63, .newarray .boolean, 2), (65, .putfield 32, 3), (68, .aload_n 0, 1), (69, .iconst 3, 1), (70, .newarray .int, 2), (72, .putfield 35, 3), (75, .aload_n 0, 1), (76, .iconst 3, 1), (77, .newarray .int, 2), (79, .putfield 38, 3), (82, .aload_n 0, 1), (83, .sipush 3000, 3), (86, .newarray .long, 2), (88, .putfield 41, 3), (91, .aload_n 0, 1), (92, .sipush 3000, 3), (95, .newarray .int, 2), (97, .putfield 45, 3), (100, .aload_n 0, 1), (101, .sipush 3000, 3), (104, .newarray .int, 2), (106, .putfield 48, 3), (109, .aload_n 0, 1), (110, .iconst 4, 1), (111, .newarray .int, 2), (113, .dup, 1), (114, .iconst 0, 1), (115, .iconst (-1), 1), (116, .iastore, 1), (117, .dup, 1), (118, .iconst 1, 1), (119, .iconst 0, 1), (120, .iastore, 1), (121, .dup, 1), (122, .iconst 2, 1), (123, .iconst 0, 1), (124, .iastore, 1), (125, .dup, 1), (126, .iconst 3, 1), (127, .iconst 0, 1), (128, .iastore, 1), (129, .putfield 51, 3), (132, .aload_n 0, 1), (133, .bipush 60, 2), (135, .newarray .int, 2), (137, .putfield 54, 3), (140, .aload_n 0, 1), (141, .bipush 12, 2), (143, .newarray .int, 2), (145, .putfield 57, 3), (148, .aload_n 0, 1), (149, .bipush 12, 2), (151, .newarray .int, 2), (153, .putfield 60, 3), (156, .aload_n 0, 1), (157, .iconst (-1), 1), (158, .putfield 63, 3), (161, .aload_n 0, 1), (162, .bipush 100, 2), (164, .newarray .boolean, 2), (166, .putfield 67, 3), (169, .aload_n 0, 1), (170, .iconst 3, 1), (171, .newarray .int, 2), (173, .putfield 70, 3), (176, .aload_n 0, 1), (177, .iconst 1, 1), (178, .putfield 73, 3), (181, .aload_n 0, 1), (182, .iconst 2, 1), (183, .newarray .int, 2), (185, .dup, 1), (186, .iconst 0, 1), (187, .iconst 1, 1), (188, .iastore, 1), (189, .dup, 1), (190, .iconst 1, 1), (191, .iconst 1, 1), (192, .iastore, 1), (193, .putfield 76, 3), (196, .aload_n 0, 1), (197, .iconst 2, 1), (198, .newarray .int, 2), (200, .putfield 79, 3), (203, .aload_n 0, 1), (204, .sipush 20000, 3), (207, .newarray .int, 2), (209, .putfield 82, 3), (212, .aload_n 0, 1), (213, .sipush 20000, 3), (216, .newarray .int, 2), (218, .putfield 85, 3), (221, .aload_n 0, 1), (222, .sipush 20000, 3), (225, .newarray .int, 2), (227, .putfield 88, 3), (230, .aload_n 0, 1), (231, .iconst (-1), 1), (232, .putfield 91, 3), (235, .aload_n 0, 1), (236, .sipush 200, 3), (239, .newarray .int, 2), (241, .putfield 94, 3), (244, .aload_n 0, 1), (245, .sipush 3000, 3), (248, .newarray .int, 2), (250, .putfield 97, 3), (253, .aload_n 0, 1), (254, .sipush 3000, 3), (257, .newarray .int, 2), (259, .putfield 100, 3), (262, .aload_n 0, 1), (263, .sipush 3000, 3), (266, .newarray .long, 2), (268, .putfield 103, 3), (271, .aload_n 0, 1), (272, .sipush 3000, 3), (275, .newarray .long, 2), (277, .putfield 106, 3), (280, .aload_n 0, 1), (281, .iconst 1, 1), (282, .newarray .int, 2), (284, .putfield 109, 3), (287, .aload_n 0, 1), (288, .bipush 100, 2), (290, .newarray .int, 2), (292, .putfield 112, 3), (295, .aload_n 0, 1), (296, .invokevirtual 115, 3), (299, .return_, 1)]
def MX12_init : x_MT := (RX12, yX12_init, cX12_init, 1, none, 1, 21, iX12_init)
theorem okX12_init : x_MOk MX12_init := ⟨by decide +kernel, tb6_of 203 rfl rfl, by decide +kernel, rfl, tb1_of 13 rfl rfl, by decide +kernel⟩
def iX12_thrown : List (Nat × Instr × Nat) := [(0, .aload_n 0, 1), (1, .getfield 118, 3), (4, .ireturn, 1)]
def MX12_thrown : x_MT := (RX12, yX12_thrown, cX12_thrown, 1, some .int, 0, 0, iX12_thrown)
theorem okX12_thrown : x_MOk MX12_thrown := ⟨by decide +kernel, tb7_of 123 rfl rfl, by decide +kernel, rfl, tb1_of 13 rfl rfl, by decide +kernel⟩
def iX12_in : List (Nat × Instr × Nat) := [(0, .iload_n 0, 1), (1, .iload_n 1, 1), (2, .if_icmp .lt 12, 3), (5, .iload_n 0, 1), (6, .iload_n 2, 1), (7, .if_icmp .gt 7, 3), (10, .iconst 1, 1), (11, .goto 4, 3), (14, .iconst 0, 1), (15, .ireturn, 1)]
def MX12_in : x_MT := (RX12, yX12_in, cX12_in, 3, some .boolean, 0, 0, iX12_in)
theorem okX12_in : x_MOk MX12_in := ⟨by decide +kernel, tb7_of 148 rfl rfl, by decide +kernel, rfl, tb1_of 13 rfl rfl, by decide +kernel⟩
def iX12_goes : List (Nat × Instr × Nat) := [(0, .aload_n 0, 1), (1, .iload_n 1, 1), (2, .ifCond .ne 7, 3), (5, .iconst 1, 1), (6, .goto 20, 3), (9, .iload_n 2, 1), (10, .ifCond .ne 7, 3), (13, .iconst 2, 1), (14, .goto 12, 3), (17, .iload_n 3, 1), (18, .ifCond .eq 7, 3), (21, .iconst 0, 1), (22, .goto 4, 3), (25, .iconst 3, 1), (26, .putfield 118, 3), (29, .aload_n 0, 1), (30, .getfield 118, 3), (33, .ifCond .ne 7, 3), (36, .iconst 1, 1), (37, .goto 4, 3), (40, .iconst 0, 1), (41, .ireturn, 1)]
def MX12_goes : x_MT := (RX12, yX12_goes, cX12_goes, 4, some .boolean, 0, 0, iX12_goes)
theorem okX12_goes : x_MOk MX12_goes := ⟨by decide +kernel, tb7_of 131 rfl rfl, by decide +kernel, rfl, tb1_of 13 rfl rfl, by decide +kernel⟩
def iX12_isLong : List (Nat × Instr × Nat) := [(0, .iload_n 0, 1), (1, .iconst 1, 1), (2, .if_icmp .eq 8, 3), (5, .iload_n 0, 1), (6, .iconst 2, 1), (7, .if_icmp .ne 7, 3), (10, .iconst 1, 1), (11, .goto 4, 3), (14, .iconst 0, 1), (15, .ireturn, 1)]
def MX12_isLong : x_MT := (RX12, yX12_isLong, cX12_isLong, 1, some .boolean, 0, 0, iX12_isLong)
theorem okX12_isLong : x_MOk MX12_isLong := ⟨by decide +kernel, tb7_of 178 rfl rfl, by decide +kernel, rfl, tb1_of 13 rfl rfl, by decide +kernel⟩
def iX12_behind : List (Nat × Instr × Nat) := [(0, .lconst 0, 1), (1, .lstore_n 3, 1), (2, .iconst 0, 1), (3, .istore 5, 2), (5, .iload_n 1, 1), (6, .istore 6, 2), (8, .iconst 0, 1), (9, .istore 7, 2), (11, .iload 5, 2), (13, .ifCond .le 20, 3), (16, .aload_n 0, 1), (17, .iload 6, 2), (19, .iaload, 1), (20, .iconst (-1), 1), (21, .if_icmp .ne 12, 3), (24, .iinc 6 1, 3), (27, .iinc 5 (-1), 3), (30, .goto 91, 3), (33, .iload 6, 2), (35, .iload 5, 2), (37, .ifCond .le 18, 3), (40, .lload_n 3, 1), (41, .iload 5, 2), (43, .lshr, 1), (44, .lconst 1, 1), (45, .land, 1), (46, .lconst 1, 1), (47, .lcmp, 1), (48, .ifCond .ne 7, 3), (51, .iconst 1, 1), (52, .goto 4, 3), (55, .iconst 0, 1), (56, .iadd, 1), (57, .istore 6, 2), (59, .aload_n 0, 1), (60, .iload 6, 2), (62, .iaload, 1), (63, .istore 8, 2), (65, .iinc 7 1, 3), (68, .iload 6, 2), (70, .iload 8, 2), (72, .invokestatic 121, 3), (75, .ifCond .eq 7, 3), (78, .iconst 2, 1), (79, .goto 4, 3), (82, .iconst 1, 1), (83, .iadd, 1), (84, .istore 6, 2), (86, .iload 8, 2), (88, .iconst 3, 1), (89, .if_icmp .lt 32, 3), (92, .iinc 5 1, 3), (95, .iload 8, 2), (97, .iconst 4, 1), (98, .if_icmp .ne 12, 3), (101, .lload_n 3, 1), (102, .lconst 1, 1), (103, .iload 5, 2), (105, .lshl, 1), (106, .lor, 1), (107, .goto 13, 3), (110, .lload_n 3, 1), (111, .lconst 1, 1), (112, .iload 5, 2), (114, .lshl, 1), (115, .ldc2_w 125, 3), (118, .lxor, 1), (119, .land, 1), (120, .lstore_n 3, 1), (121, .iload 5, 2), (123, .ifCond .gt (-112), 3), (126, .aload_n 2, 1), (127, .iconst 0, 1), (128, .iload 7, 2), (130, .iastore, 1), (131, .iload 6, 2), (133, .ireturn, 1)]
def MX12_behind : x_MT := (RX12, yX12_behind, cX12_behind, 9, some .int, 1, 20, iX12_behind)
theorem okX12_behind : x_MOk MX12_behind := ⟨by decide +kernel, tb7_of 175 rfl rfl, by decide +kernel, rfl, tb1_of 13 rfl rfl, by decide +kernel⟩
def iX12_end : List (Nat × Instr × Nat) := [(0, .aload_n 1, 1), (1, .iload_n 2, 1), (2, .aload_n 0, 1), (3, .getfield 109, 3), (6, .invokestatic 127, 3), (9, .ireturn, 1)]
def MX12_end : x_MT := (RX12, yX12_end, cX12_end, 3, some .int, 2, 48, iX12_end)
theorem okX12_end : x_MOk MX12_end := ⟨by decide +kernel, tb7_of 183 rfl rfl, by decide +kernel, rfl, tb1_of 13 rfl rfl, by decide +kernel⟩
def iX12_parts : List (Nat × Instr × Nat) := [(0, .aload_n 1, 1), (1, .iload_n 2, 1), (2, .aload_n 0, 1), (3, .getfield 109, 3), (6, .invokestatic 127, 3), (9, .pop, 1), (10, .aload_n 0, 1), (11, .getfield 109, 3), (14, .iconst 0, 1), (15, .iaload, 1), (16, .ireturn, 1)]
def MX12_parts : x_MT := (RX12, yX12_parts, cX12_parts, 3, some .int, 2, 48, iX12_parts)
theorem okX12_parts : x_MOk MX12_parts := ⟨by decide +kernel, tb7_of 172 rfl rfl, by decide +kernel, rfl, tb1_of 13 rfl rfl, by decide +kernel⟩
def iX12_compare : List (Nat × Instr × Nat) := [(0, .aload_n 0, 1), (1, .aload_n 1, 1), (2, .iload_n 2, 1), (3, .invokevirtual 131, 3), (6, .istore 5, 2), (8, .aload_n 0, 1), (9, .aload_n 3, 1), (10, .iload 4, 2), (12, .invokevirtual 131, 3), (15, .istore 6, 2), (17, .iload_n 2, 1), (18, .istore 7, 2), (20, .iload 4, 2), (22, .istore 8, 2), (24, .iload 7, 2), (26, .iload 5, 2), (28, .if_icmp .ge 47, 3), (31, .iload 8, 2), (33, .iload 6, 2), (35, .if_icmp .ge 40, 3), (38, .aload_n 1, 1), (39, .iload 7, 2), (41, .iaload, 1), (42, .aload_n 3, 1), (43, .iload 8, 2), (45, .iaload, 1), (46, .if_icmp .eq 20, 3), (49, .aload_n 1, 1), (50, .iload 7, 2), (52, .iaload, 1), (53, .aload_n 3, 1), (54, .iload 8, 2), (56, .iaload, 1), (57, .if_icmp .ge 7, 3), (60, .iconst (-1), 1), (61, .goto 4, 3), (64, .iconst 1, 1), (65, .ireturn, 1), (66, .iinc 7 1, 3), (69, .iinc 8 1, 3), (72, .goto (-48), 3), (75, .iconst 0, 1), (76, .ireturn, 1)]
def MX12_compare : x_MT := (RX12, yX12_compare, cX12_compare, 9, some .int, 3, 70, iX12_compare)
theorem okX12_compare : x_MOk MX12_compare := ⟨by decide +kernel, tb8_of 30 rfl rfl, by decide +kernel, rfl, tb1_of 13 rfl rfl, by decide +kernel⟩
def iX12_fieldOf : List (Nat × Instr × Nat) := [(0, .iload_n 2, 1), (1, .iconst 1, 1), (2, .iadd, 1), (3, .istore 4, 2), (5, .aload_n 1, 1), (6, .iload 4, 2), (8, .iaload, 1), (9, .iconst (-1), 1), (10, .if_icmp .eq 30, 3), (13, .aload_n 1, 1), (14, .iload 4, 2), (16, .iaload, 1), (17, .iload_n 3, 1), (18, .if_icmp .ne 8, 3), (21, .iload 4, 2), (23, .iconst 1, 1), (24, .iadd, 1), (25, .ireturn, 1), (26, .aload_n 0, 1), (27, .aload_n 1, 1), (28, .iload 4, 2), (30, .iconst 1, 1), (31, .iadd, 1), (32, .invokevirtual 131, 3), (35, .istore 4, 2), (37, .goto (-32), 3), (40, .iconst (-1), 1), (41, .ireturn, 1)]
def MX12_fieldOf : x_MT := (RX12, yX12_fieldOf, cX12_fieldOf, 5, some .int, 3, 70, iX12_fieldOf)
theorem okX12_fieldOf : x_MOk MX12_fieldOf := ⟨by decide +kernel, tb7_of 215 rfl rfl, by decide +kernel, rfl, tb1_of 13 rfl rfl, by decide +kernel⟩
def iX12_membersOf : List (Nat × Instr × Nat) := [(0, .iconst 0, 1), (1, .istore_n 3, 1), (2, .iload_n 2, 1), (3, .iconst 1, 1), (4, .iadd, 1), (5, .istore 4, 2), (7, .aload_n 1, 1), (8, .iload 4, 2), (10, .iaload, 1), (11, .iconst (-1), 1), (12, .if_icmp .eq 32, 3), (15, .aload_n 0, 1), (16, .aload_n 1, 1), (17, .aload_n 1, 1), (18, .iload_n 2, 1), (19, .iaload, 1), (20, .iconst 4, 1), (21, .if_icmp .ne 10, 3), (24, .iload 4, 2), (26, .iconst 1, 1), (27, .iadd, 1), (28, .goto 5, 3), (31, .iload 4, 2), (33, .invokevirtual 131, 3), (36, .istore 4, 2), (38, .iinc 3 1, 3), (41, .goto (-34), 3), (44, .iload_n 3, 1), (45, .ireturn, 1)]
def MX12_membersOf : x_MT := (RX12, yX12_membersOf, cX12_membersOf, 5, some .int, 3, 70, iX12_membersOf)
theorem okX12_membersOf : x_MOk MX12_membersOf := ⟨by decide +kernel, tb8_of 116 rfl rfl, by decide +kernel, rfl, tb1_of 13 rfl rfl, by decide +kernel⟩
def iX12_printOf : List (Nat × Instr × Nat) := [(0, .ldc2_w 135, 3), (3, .lstore_n 3, 1), (4, .lconst 0, 1), (5, .lstore 5, 2), (7, .iconst 0, 1), (8, .istore 7, 2), (10, .iload_n 2, 1), (11, .istore 8, 2), (13, .iload 7, 2), (15, .ifCond .le 20, 3), (18, .aload_n 1, 1), (19, .iload 8, 2), (21, .iaload, 1), (22, .iconst (-1), 1), (23, .if_icmp .ne 12, 3), (26, .iinc 8 1, 3), (29, .iinc 7 (-1), 3), (32, .goto 146, 3), (35, .iload 7, 2), (37, .ifCond .le 30, 3), (40, .lload 5, 2), (42, .iload 7, 2), (44, .lshr, 1), (45, .lconst 1, 1), (46, .land, 1), (47, .lconst 1, 1), (48, .lcmp, 1), (49, .ifCond .ne 18, 3), (52, .ldc2_w 137, 3), (55, .lload_n 3, 1), (56, .lmul, 1), (57, .aload_n 1, 1), (58, .iload 8, 2), (60, .iaload, 1), (61, .i2l, 1), (62, .ladd, 1), (63, .lstore_n 3, 1), (64, .iinc 8 1, 3), (67, .aload_n 1, 1), (68, .iload 8, 2), (70, .iaload, 1), (71, .istore 9, 2), (73, .ldc2_w 137, 3), (76, .lload_n 3, 1), (77, .lmul, 1), (78, .iload 9, 2), (80, .i2l, 1), (81, .ladd, 1), (82, .lconst 1, 1), (83, .ladd, 1), (84, .lstore_n 3, 1), (85, .iload 9, 2), (87, .invokestatic 121, 3), (90, .ifCond .eq 17, 3), (93, .ldc2_w 137, 3), (96, .lload_n 3, 1), (97, .lmul, 1), (98, .aload_n 1, 1), (99, .iload 8, 2), (101, .iconst 1, 1), (102, .iadd, 1), (103, .iaload, 1), (104, .i2l, 1), (105, .ladd, 1), (106, .lstore_n 3, 1), (107, .iload 9, 2), (109, .iconst 3, 1), (110, .if_icmp .lt 50, 3), (113, .ldc2_w 137, 3), (116, .lload_n 3, 1), (117, .lmul, 1), (118, .aload_n 0, 1), (119, .aload_n 1, 1), (120, .iload 8, 2), (122, .invokevirtual 139, 3), (125, .i2l, 1), (126, .ladd, 1), (127, .lstore_n 3, 1), (128, .iinc 7 1, 3), (131, .iload 9, 2), (133, .iconst 4, 1), (134, .if_icmp .ne 13, 3), (137, .lload 5, 2), (139, .lconst 1, 1), (140, .iload 7, 2), (142, .lshl, 1), (143, .lor, 1), (144, .goto 14, 3), (147, .lload 5, 2), (149, .lconst 1, 1), (150, .iload 7, 2), (152, .lshl, 1), (153, .ldc2_w 125, 3), (156, .lxor, 1), (157, .land, 1), (158, .lstore 5, 2), (160, .iload 8, 2), (162, .iload 9, 2), (164, .invokestatic 121, 3), (167, .ifCond .eq 7, 3), (170, .iconst 2, 1), (171, .goto 4, 3), (174, .iconst 1, 1), (175, .iadd, 1), (176, .istore 8, 2), (178, .iload 7, 2), (180, .ifCond .gt (-167), 3), (183, .lload_n 3, 1), (184, .lreturn, 1)]
def MX12_printOf : x_MT := (RX12, yX12_printOf, cX12_printOf, 10, some .long, 4, 94, iX12_printOf)
theorem okX12_printOf : x_MOk MX12_printOf := ⟨by decide +kernel, tb8_of 140 rfl rfl, by decide +kernel, rfl, tb1_of 13 rfl rfl, by decide +kernel⟩
def iX12_block : List (Nat × Instr × Nat) := [(0, .bipush 100, 2), (2, .iload_n 0, 1), (3, .imul, 1), (4, .iconst 1, 1), (5, .iadd, 1), (6, .ireturn, 1)]
def MX12_block : x_MT := (RX12, yX12_block, cX12_block, 1, some .int, 0, 0, iX12_block)
theorem okX12_block : x_MOk MX12_block := ⟨by decide +kernel, tb7_of 141 rfl rfl, by decide +kernel, rfl, tb1_of 13 rfl rfl, by decide +kernel⟩
def iX12_pile : List (Nat × Instr × Nat) := [(0, .bipush 100, 2), (2, .iload_n 0, 1), (3, .iadd, 1), (4, .invokestatic 142, 3), (7, .ireturn, 1)]
def MX12_pile : x_MT := (RX12, yX12_pile, cX12_pile, 1, some .int, 1, 20, iX12_pile)
theorem okX12_pile : x_MOk MX12_pile := ⟨by decide +kernel, tb7_of 138 rfl rfl, by decide +kernel, rfl, tb1_of 13 rfl rfl, by decide +kernel⟩
def iX12_top : List (Nat × Instr × Nat) := [(0, .aload_n 0, 1), (1, .getfield 146, 3), (4, .iconst 1, 1), (5, .isub, 1), (6, .invokestatic 149, 3), (9, .ireturn, 1)]
def MX12_top : x_MT := (RX12, yX12_top, cX12_top, 1, some .int, 2, 40, iX12_top)
theorem okX12_top : x_MOk MX12_top := ⟨by decide +kernel, tb7_of 168 rfl rfl, by decide +kernel, rfl, tb1_of 13 rfl rfl, by decide +kernel⟩
def iX12_spot : List (Nat × Instr × Nat) := [(0, .aload_n 0, 1), (1, .getfield 94, 3), (4, .aload_n 0, 1), (5, .getfield 152, 3), (8, .iload_n 1, 1), (9, .iastore, 1), (10, .aload_n 0, 1), (11, .dup, 1), (12, .getfield 152, 3), (15, .iconst 1, 1), (16, .iadd, 1), (17, .putfield 152, 3), (20, .aload_n 0, 1), (21, .getfield 7, 3), (24, .iload_n 1, 1), (25, .iaload, 1), (26, .iconst 3, 1), (27, .if_icmp .ne 50, 3), (30, .iload_n 1, 1), (31, .iconst 1, 1), (32, .iadd, 1), (33, .istore_n 2, 1), (34, .aload_n 0, 1), (35, .getfield 7, 3), (38, .iload_n 2, 1), (39, .iaload, 1), (40, .iconst (-1), 1), (41, .if_icmp .eq 36, 3), (44, .aload_n 0, 1), (45, .getfield 94, 3), (48, .aload_n 0, 1), (49, .getfield 152, 3), (52, .iload_n 2, 1), (53, .iastore, 1), (54, .aload_n 0, 1), (55, .dup, 1), (56, .getfield 152, 3), (59, .iconst 1, 1), (60, .iadd, 1), (61, .putfield 152, 3), (64, .aload_n 0, 1), (65, .aload_n 0, 1), (66, .getfield 7, 3), (69, .iload_n 2, 1), (70, .invokevirtual 131, 3), (73, .istore_n 2, 1), (74, .goto (-40), 3), (77, .return_, 1)]
def MX12_spot : x_MT := (RX12, yX12_spot, cX12_spot, 3, none, 3, 70, iX12_spot)
theorem okX12_spot : x_MOk MX12_spot := ⟨by decide +kernel, tb8_of 100 rfl rfl, by decide +kernel, rfl, tb1_of 13 rfl rfl, by decide +kernel⟩
def iX12_spotOf : List (Nat × Instr × Nat) := [(0, .aload_n 0, 1), (1, .getfield 7, 3), (4, .iload_n 1, 1), (5, .iaload, 1), (6, .iconst 4, 1), (7, .if_icmp .ne 16, 3), (10, .aload_n 0, 1), (11, .aload_n 0, 1), (12, .getfield 7, 3), (15, .iload_n 1, 1), (16, .iload_n 2, 1), (17, .invokevirtual 155, 3), (20, .goto 4, 3), (23, .iconst (-1), 1), (24, .istore_n 3, 1), (25, .iload_n 3, 1), (26, .iconst (-1), 1), (27, .if_icmp .eq 8, 3), (30, .aload_n 0, 1), (31, .iload_n 3, 1), (32, .invokevirtual 159, 3), (35, .return_, 1)]
def MX12_spotOf : x_MT := (RX12, yX12_spotOf, cX12_spotOf, 4, none, 4, 94, iX12_spotOf)
theorem okX12_spotOf : x_MOk MX12_spotOf := ⟨by decide +kernel, tb8_of 96 rfl rfl, by decide +kernel, rfl, tb1_of 13 rfl rfl, by decide +kernel⟩
def iX12_looks : List (Nat × Instr × Nat) := [(0, .aload_n 0, 1), (1, .iconst 0, 1), (2, .putfield 152, 3), (5, .iload_n 1, 1), (6, .invokestatic 142, 3), (9, .istore_n 3, 1), (10, .iload_n 2, 1), (11, .bipush 8, 2), (13, .if_icmp .ge 10, 3), (16, .aload_n 0, 1), (17, .iload_n 3, 1), (18, .iload_n 2, 1), (19, .invokevirtual 163, 3), (22, .return_, 1), (23, .aload_n 0, 1), (24, .aload_n 0, 1), (25, .getfield 7, 3), (28, .iload_n 3, 1), (29, .iload_n 2, 1), (30, .bipush 8, 2), (32, .isub, 1), (33, .bipush 8, 2), (35, .idiv, 1), (36, .invokevirtual 155, 3), (39, .istore 4, 2), (41, .iload_n 2, 1), (42, .bipush 8, 2), (44, .irem, 1), (45, .istore 5, 2), (47, .iload 4, 2), (49, .iconst (-1), 1), (50, .if_icmp .eq 57, 3), (53, .aload_n 0, 1), (54, .getfield 7, 3), (57, .iload 4, 2), (59, .iaload, 1), (60, .iconst 3, 1), (61, .if_icmp .ne 46, 3), (64, .iload 4, 2), (66, .iconst 1, 1), (67, .iadd, 1), (68, .istore 6, 2), (70, .aload_n 0, 1), (71, .getfield 7, 3), (74, .iload 6, 2), (76, .iaload, 1), (77, .iconst (-1), 1), (78, .if_icmp .eq 26, 3), (81, .aload_n 0, 1), (82, .iload 6, 2), (84, .iload 5, 2), (86, .invokevirtual 163, 3), (89, .aload_n 0, 1), (90, .aload_n 0, 1), (91, .getfield 7, 3), (94, .iload 6, 2), (96, .invokevirtual 131, 3), (99, .istore 6, 2), (101, .goto (-31), 3), (104, .goto 17, 3), (107, .iload 4, 2), (109, .iconst (-1), 1), (110, .if_icmp .eq 11, 3), (113, .aload_n 0, 1), (114, .iload 4, 2), (116, .iload 5, 2), (118, .invokevirtual 163, 3), (121, .return_, 1)]
def MX12_looks : x_MT := (RX12, yX12_looks, cX12_looks, 7, none, 5, 117, iX12_looks)
theorem okX12_looks : x_MOk MX12_looks := ⟨by decide +kernel, tb8_of 92 rfl rfl, by decide +kernel, rfl, tb1_of 13 rfl rfl, by decide +kernel⟩
def iX12_puts : List (Nat × Instr × Nat) := [(0, .aload_n 0, 1), (1, .iload_n 1, 1), (2, .aload_n 0, 1), (3, .getfield 146, 3), (6, .bipush 10, 2), (8, .if_icmp .ge 7, 3), (11, .iconst 1, 1), (12, .goto 4, 3), (15, .iconst 0, 1), (16, .iconst 1, 1), (17, .invokevirtual 167, 3), (20, .ifCond .ne 5, 3), (23, .iconst 0, 1), (24, .ireturn, 1), (25, .aload_n 0, 1), (26, .getfield 146, 3), (29, .invokestatic 149, 3), (32, .istore 4, 2), (34, .aload_n 0, 1), (35, .getfield 7, 3), (38, .iload 4, 2), (40, .iload_n 2, 1), (41, .iastore, 1), (42, .aload_n 0, 1), (43, .getfield 7, 3), (46, .iload 4, 2), (48, .iconst 1, 1), (49, .iadd, 1), (50, .iload_n 2, 1), (51, .iconst 3, 1), (52, .if_icmp .lt 7, 3), (55, .iconst (-1), 1), (56, .goto 4, 3), (59, .iload_n 3, 1), (60, .iastore, 1), (61, .aload_n 0, 1), (62, .dup, 1), (63, .getfield 146, 3), (66, .iconst 1, 1), (67, .iadd, 1), (68, .putfield 146, 3), (71, .aload_n 0, 1), (72, .getfield 146, 3), (75, .ireturn, 1)]
def MX12_puts : x_MT := (RX12, yX12_puts, cX12_puts, 5, some .int, 2, 40, iX12_puts)
theorem okX12_puts : x_MOk MX12_puts := ⟨by decide +kernel, tb7_of 135 rfl rfl, by decide +kernel, rfl, tb1_of 13 rfl rfl, by decide +kernel⟩
def iX12_nothing : List (Nat × Instr × Nat) := [(0, .aload_n 0, 1), (1, .aload_n 0, 1), (2, .getfield 146, 3), (5, .bipush 10, 2), (7, .if_icmp .ge 7, 3), (10, .iconst 1, 1), (11, .goto 4, 3), (14, .iconst 0, 1), (15, .iconst 1, 1), (16, .iconst 1, 1), (17, .invokevirtual 167, 3), (20, .ifCond .ne 5, 3), (23, .iconst 0, 1), (24, .ireturn, 1), (25, .aload_n 0, 1), (26, .iconst 1, 1), (27, .iconst 0, 1), (28, .iconst 0, 1), (29, .invokevirtual 171, 3), (32, .ireturn, 1)]
def MX12_nothing : x_MT := (RX12, yX12_nothing, cX12_nothing, 1, some .int, 3, 64, iX12_nothing)
theorem okX12_nothing : x_MOk MX12_nothing := ⟨by decide +kernel, tb7_of 127 rfl rfl, by decide +kernel, rfl, tb1_of 13 rfl rfl, by decide +kernel⟩
def iX12_number : List (Nat × Instr × Nat) := [(0, .aload_n 0, 1), (1, .iload_n 1, 1), (2, .sipush (-999), 3), (5, .sipush 999, 3), (8, .invokestatic 175, 3), (11, .iconst 1, 1), (12, .iload_n 1, 1), (13, .invokevirtual 171, 3), (16, .ireturn, 1)]
def MX12_number : x_MT := (RX12, yX12_number, cX12_number, 2, some .int, 3, 64, iX12_number)
theorem okX12_number : x_MOk MX12_number := ⟨by decide +kernel, tb7_of 145 rfl rfl, by decide +kernel, rfl, tb1_of 13 rfl rfl, by decide +kernel⟩
def iX12_word : List (Nat × Instr × Nat) := [(0, .aload_n 0, 1), (1, .iload_n 1, 1), (2, .iconst 0, 1), (3, .bipush 99, 2), (5, .invokestatic 175, 3), (8, .iconst 2, 1), (9, .iload_n 1, 1), (10, .invokevirtual 171, 3), (13, .ireturn, 1)]
def MX12_word : x_MT := (RX12, yX12_word, cX12_word, 2, some .int, 3, 64, iX12_word)
theorem okX12_word : x_MOk MX12_word := ⟨by decide +kernel, tb7_of 152 rfl rfl, by decide +kernel, rfl, tb1_of 13 rfl rfl, by decide +kernel⟩
def iX12_row : List (Nat × Instr × Nat) := [(0, .aload_n 0, 1), (1, .aload_n 0, 1), (2, .getfield 146, 3), (5, .bipush 10, 2), (7, .if_icmp .ge 7, 3), (10, .iconst 1, 1), (11, .goto 4, 3), (14, .iconst 0, 1), (15, .iconst 1, 1), (16, .iconst 1, 1), (17, .invokevirtual 167, 3), (20, .ifCond .eq 13, 3), (23, .aload_n 0, 1), (24, .iconst 1, 1), (25, .iconst 3, 1), (26, .iconst 0, 1), (27, .invokevirtual 171, 3), (30, .goto 4, 3), (33, .iconst 0, 1), (34, .ireturn, 1)]
def MX12_row : x_MT := (RX12, yX12_row, cX12_row, 1, some .int, 3, 64, iX12_row)
theorem okX12_row : x_MOk MX12_row := ⟨by decide +kernel, tb7_of 156 rfl rfl, by decide +kernel, rfl, tb1_of 13 rfl rfl, by decide +kernel⟩
def iX12_object : List (Nat × Instr × Nat) := [(0, .aload_n 0, 1), (1, .aload_n 0, 1), (2, .getfield 146, 3), (5, .bipush 10, 2), (7, .if_icmp .ge 7, 3), (10, .iconst 1, 1), (11, .goto 4, 3), (14, .iconst 0, 1), (15, .iconst 1, 1), (16, .iconst 1, 1), (17, .invokevirtual 167, 3), (20, .ifCond .eq 13, 3), (23, .aload_n 0, 1), (24, .iconst 1, 1), (25, .iconst 4, 1), (26, .iconst 0, 1), (27, .invokevirtual 171, 3), (30, .goto 4, 3), (33, .iconst 0, 1), (34, .ireturn, 1)]
def MX12_object : x_MT := (RX12, yX12_object, cX12_object, 1, some .int, 3, 64, iX12_object)
theorem okX12_object : x_MOk MX12_object := ⟨by decide +kernel, tb7_of 160 rfl rfl, by decide +kernel, rfl, tb1_of 13 rfl rfl, by decide +kernel⟩
def iX12_adds : List (Nat × Instr × Nat) := [(0, .iload_n 2, 1), (1, .istore 4, 2), (3, .iload 4, 2), (5, .iload_n 3, 1), (6, .if_icmp .ge 32, 3), (9, .aload_n 0, 1), (10, .getfield 20, 3), (13, .aload_n 0, 1), (14, .getfield 179, 3), (17, .aload_n 1, 1), (18, .iload 4, 2), (20, .iaload, 1), (21, .iastore, 1), (22, .aload_n 0, 1), (23, .dup, 1), (24, .getfield 179, 3), (27, .iconst 1, 1), (28, .iadd, 1), (29, .putfield 179, 3), (32, .iinc 4 1, 3), (35, .goto (-32), 3), (38, .return_, 1)]
def MX12_adds : x_MT := (RX12, yX12_adds, cX12_adds, 5, none, 0, 0, iX12_adds)
theorem okX12_adds : x_MOk MX12_adds := ⟨by decide +kernel, tb7_of 187 rfl rfl, by decide +kernel, rfl, tb1_of 13 rfl rfl, by decide +kernel⟩
def iX12_lays : List (Nat × Instr × Nat) := [(0, .iconst 0, 1), (1, .istore_n 2, 1), (2, .iload_n 2, 1), (3, .aload_n 0, 1), (4, .getfield 179, 3), (7, .if_icmp .ge 23, 3), (10, .aload_n 0, 1), (11, .getfield 7, 3), (14, .iload_n 1, 1), (15, .iload_n 2, 1), (16, .iadd, 1), (17, .aload_n 0, 1), (18, .getfield 20, 3), (21, .iload_n 2, 1), (22, .iaload, 1), (23, .iastore, 1), (24, .iinc 2 1, 3), (27, .goto (-25), 3), (30, .return_, 1)]
def MX12_lays : x_MT := (RX12, yX12_lays, cX12_lays, 3, none, 0, 0, iX12_lays)
theorem okX12_lays : x_MOk MX12_lays := ⟨by decide +kernel, tb7_of 191 rfl rfl, by decide +kernel, rfl, tb1_of 13 rfl rfl, by decide +kernel⟩
def iX12_add : List (Nat × Instr × Nat) := [(0, .aload_n 0, 1), (1, .getfield 146, 3), (4, .iconst 1, 1), (5, .if_icmp .le 25, 3), (8, .aload_n 0, 1), (9, .getfield 7, 3), (12, .aload_n 0, 1), (13, .getfield 146, 3), (16, .iconst 2, 1), (17, .isub, 1), (18, .invokestatic 149, 3), (21, .iaload, 1), (22, .iconst 3, 1), (23, .if_icmp .ne 7, 3), (26, .iconst 1, 1), (27, .goto 4, 3), (30, .iconst 0, 1), (31, .istore_n 1, 1), (32, .aload_n 0, 1), (33, .iload_n 1, 1), (34, .ifCond .eq 42, 3), (37, .aload_n 0, 1), (38, .aload_n 0, 1), (39, .getfield 7, 3), (42, .aload_n 0, 1), (43, .invokevirtual 182, 3), (46, .invokevirtual 186, 3), (49, .aload_n 0, 1), (50, .aload_n 0, 1), (51, .getfield 7, 3), (54, .aload_n 0, 1), (55, .getfield 146, 3), (58, .iconst 2, 1), (59, .isub, 1), (60, .invokestatic 149, 3), (63, .invokevirtual 186, 3), (66, .iadd, 1), (67, .bipush 24, 2), (69, .if_icmp .gt 7, 3), (72, .iconst 1, 1), (73, .goto 4, 3), (76, .iconst 0, 1), (77, .iconst 1, 1), (78, .iconst 1, 1), (79, .invokevirtual 167, 3), (82, .ifCond .ne 5, 3), (85, .iconst 0, 1), (86, .ireturn, 1), (87, .aload_n 0, 1), (88, .getfield 146, 3), (91, .iconst 2, 1), (92, .isub, 1), (93, .invokestatic 149, 3), (96, .istore_n 2, 1), (97, .aload_n 0, 1), (98, .iconst 0, 1), (99, .putfield 179, 3), (102, .aload_n 0, 1), (103, .aload_n 0, 1), (104, .getfield 7, 3), (107, .iload_n 2, 1), (108, .aload_n 0, 1), (109, .aload_n 0, 1), (110, .getfield 7, 3), (113, .iload_n 2, 1), (114, .invokevirtual 131, 3), (117, .iconst 1, 1), (118, .isub, 1), (119, .invokevirtual 189, 3), (122, .aload_n 0, 1), (123, .aload_n 0, 1), (124, .getfield 7, 3), (127, .aload_n 0, 1), (128, .invokevirtual 182, 3), (131, .aload_n 0, 1), (132, .aload_n 0, 1), (133, .getfield 7, 3), (136, .aload_n 0, 1), (137, .invokevirtual 182, 3), (140, .invokevirtual 131, 3), (143, .invokevirtual 189, 3), (146, .aload_n 0, 1), (147, .getfield 20, 3), (150, .aload_n 0, 1), (151, .getfield 179, 3), (154, .iconst (-1), 1), (155, .iastore, 1), (156, .aload_n 0, 1), (157, .dup, 1), (158, .getfield 179, 3), (161, .iconst 1, 1), (162, .iadd, 1), (163, .putfield 179, 3), (166, .aload_n 0, 1), (167, .iload_n 2, 1), (168, .invokevirtual 193, 3), (171, .aload_n 0, 1), (172, .dup, 1), (173, .getfield 146, 3), (176, .iconst 1, 1), (177, .isub, 1), (178, .putfield 146, 3), (181, .aload_n 0, 1), (182, .getfield 146, 3), (185, .ireturn, 1)]
def MX12_add : x_MT := (RX12, yX12_add, cX12_add, 3, some .int, 3, 70, iX12_add)
theorem okX12_add : x_MOk MX12_add := ⟨by decide +kernel, tb7_of 164 rfl rfl, by decide +kernel, rfl, tb1_of 13 rfl rfl, by decide +kernel⟩
def iX12_builds : List (Nat × Instr × Nat) := [(0, .iload 6, 2), (2, .iload 7, 2), (4, .if_icmp .ne 7, 3), (7, .iconst 1, 1), (8, .goto 4, 3), (11, .iconst 0, 1), (12, .istore 8, 2), (14, .aload_n 0, 1), (15, .iconst 0, 1), (16, .putfield 179, 3), (19, .aload_n 0, 1), (20, .aload_n 1, 1), (21, .iload_n 2, 1), (22, .iload_n 3, 1), (23, .iconst 1, 1), (24, .iadd, 1), (25, .invokevirtual 189, 3), (28, .iload_n 3, 1), (29, .iconst 1, 1), (30, .iadd, 1), (31, .istore 9, 2), (33, .aload_n 1, 1), (34, .iload 9, 2), (36, .iaload, 1), (37, .iconst (-1), 1), (38, .if_icmp .eq 87, 3), (41, .aload_n 0, 1), (42, .aload_n 1, 1), (43, .iload 9, 2), (45, .iconst 1, 1), (46, .iadd, 1), (47, .invokevirtual 131, 3), (50, .istore 10, 2), (52, .iload 8, 2), (54, .ifCond .ne 46, 3), (57, .aload_n 1, 1), (58, .iload 9, 2), (60, .iaload, 1), (61, .iload 4, 2), (63, .if_icmp .lt 37, 3), (66, .aload_n 0, 1), (67, .getfield 20, 3), (70, .aload_n 0, 1), (71, .getfield 179, 3), (74, .iload 4, 2), (76, .iastore, 1), (77, .aload_n 0, 1), (78, .dup, 1), (79, .getfield 179, 3), (82, .iconst 1, 1), (83, .iadd, 1), (84, .putfield 179, 3), (87, .aload_n 0, 1), (88, .aload 5, 2), (90, .iload 6, 2), (92, .iload 7, 2), (94, .invokevirtual 189, 3), (97, .iconst 1, 1), (98, .istore 8, 2), (100, .aload_n 1, 1), (101, .iload 9, 2), (103, .iaload, 1), (104, .iload 4, 2), (106, .if_icmp .eq 12, 3), (109, .aload_n 0, 1), (110, .aload_n 1, 1), (111, .iload 9, 2), (113, .iload 10, 2), (115, .invokevirtual 189, 3), (118, .iload 10, 2), (120, .istore 9, 2), (122, .goto (-89), 3), (125, .iload 8, 2), (127, .ifCond .ne 34, 3), (130, .aload_n 0, 1), (131, .getfield 20, 3), (134, .aload_n 0, 1), (135, .getfield 179, 3), (138, .iload 4, 2), (140, .iastore, 1), (141, .aload_n 0, 1), (142, .dup, 1), (143, .getfield 179, 3), (146, .iconst 1, 1), (147, .iadd, 1), (148, .putfield 179, 3), (151, .aload_n 0, 1), (152, .aload 5, 2), (154, .iload 6, 2), (156, .iload 7, 2), (158, .invokevirtual 189, 3), (161, .aload_n 0, 1), (162, .aload_n 1, 1), (163, .iload 9, 2), (165, .aload_n 0, 1), (166, .aload_n 1, 1), (167, .iload_n 2, 1), (168, .invokevirtual 131, 3), (171, .invokevirtual 189, 3), (174, .return_, 1)]
def MX12_builds : x_MT := (RX12, yX12_builds, cX12_builds, 11, none, 3, 70, iX12_builds)
theorem okX12_builds : x_MOk MX12_builds := ⟨by decide +kernel, tb7_of 199 rfl rfl, by decide +kernel, rfl, tb1_of 13 rfl rfl, by decide +kernel⟩
def iX12_give : List (Nat × Instr × Nat) := [(0, .aload_n 0, 1), (1, .getfield 146, 3), (4, .iconst 1, 1), (5, .if_icmp .le 25, 3), (8, .aload_n 0, 1), (9, .getfield 7, 3), (12, .aload_n 0, 1), (13, .getfield 146, 3), (16, .iconst 2, 1), (17, .isub, 1), (18, .invokestatic 149, 3), (21, .iaload, 1), (22, .iconst 4, 1), (23, .if_icmp .ne 7, 3), (26, .iconst 1, 1), (27, .goto 4, 3), (30, .iconst 0, 1), (31, .istore_n 2, 1), (32, .iconst 0, 1), (33, .istore_n 3, 1), (34, .iload_n 1, 1), (35, .iconst 0, 1), (36, .bipush 7, 2), (38, .invokestatic 175, 3), (41, .ifCond .eq 61, 3), (44, .iload_n 2, 1), (45, .ifCond .eq 57, 3), (48, .aload_n 0, 1), (49, .getfield 146, 3), (52, .iconst 2, 1), (53, .isub, 1), (54, .invokestatic 149, 3), (57, .istore 4, 2), (59, .aload_n 0, 1), (60, .aload_n 0, 1), (61, .getfield 7, 3), (64, .iload 4, 2), (66, .iload 4, 2), (68, .iload_n 1, 1), (69, .aload_n 0, 1), (70, .getfield 7, 3), (73, .aload_n 0, 1), (74, .invokevirtual 182, 3), (77, .aload_n 0, 1), (78, .aload_n 0, 1), (79, .getfield 7, 3), (82, .aload_n 0, 1), (83, .invokevirtual 182, 3), (86, .invokevirtual 131, 3), (89, .invokevirtual 196, 3), (92, .aload_n 0, 1), (93, .aload_n 0, 1), (94, .getfield 20, 3), (97, .iconst 0, 1), (98, .invokevirtual 186, 3), (101, .istore_n 3, 1), (102, .aload_n 0, 1), (103, .iload_n 1, 1), (104, .iconst 0, 1), (105, .bipush 7, 2), (107, .invokestatic 175, 3), (110, .iload_n 2, 1), (111, .ifCond .eq 13, 3), (114, .iload_n 3, 1), (115, .bipush 24, 2), (117, .if_icmp .gt 7, 3), (120, .iconst 1, 1), (121, .goto 4, 3), (124, .iconst 0, 1), (125, .iconst 1, 1), (126, .invokevirtual 167, 3), (129, .ifCond .ne 5, 3), (132, .iconst 0, 1), (133, .ireturn, 1), (134, .aload_n 0, 1), (135, .aload_n 0, 1), (136, .getfield 146, 3), (139, .iconst 2, 1), (140, .isub, 1), (141, .invokestatic 149, 3), (144, .invokevirtual 193, 3), (147, .aload_n 0, 1), (148, .dup, 1), (149, .getfield 146, 3), (152, .iconst 1, 1), (153, .isub, 1), (154, .putfield 146, 3), (157, .aload_n 0, 1), (158, .getfield 146, 3), (161, .ireturn, 1)]
def MX12_give : x_MT := (RX12, yX12_give, cX12_give, 5, some .int, 4, 100, iX12_give)
theorem okX12_give : x_MOk MX12_give := ⟨by decide +kernel, tb7_of 195 rfl rfl, by decide +kernel, rfl, tb1_of 13 rfl rfl, by decide +kernel⟩
def iX12_drop : List (Nat × Instr × Nat) := [(0, .aload_n 0, 1), (1, .iconst 0, 1), (2, .putfield 118, 3), (5, .aload_n 0, 1), (6, .getfield 146, 3), (9, .istore_n 1, 1), (10, .aload_n 0, 1), (11, .iconst 0, 1), (12, .putfield 146, 3), (15, .iload_n 1, 1), (16, .ireturn, 1)]
def MX12_drop : x_MT := (RX12, yX12_drop, cX12_drop, 2, some .int, 0, 0, iX12_drop)
theorem okX12_drop : x_MOk MX12_drop := ⟨by decide +kernel, tb7_of 203 rfl rfl, by decide +kernel, rfl, tb1_of 13 rfl rfl, by decide +kernel⟩
def iX12_rest : List (Nat × Instr × Nat) := [(0, .iload_n 0, 1), (1, .sipush 1000, 3), (4, .irem, 1), (5, .sipush 1000, 3), (8, .iadd, 1), (9, .sipush 1000, 3), (12, .irem, 1), (13, .ireturn, 1)]
def MX12_rest : x_MT := (RX12, yX12_rest, cX12_rest, 1, some .int, 0, 0, iX12_rest)
theorem okX12_rest : x_MOk MX12_rest := ⟨by decide +kernel, tb7_of 237 rfl rfl, by decide +kernel, rfl, tb1_of 13 rfl rfl, by decide +kernel⟩
def iX12_keyOf : List (Nat × Instr × Nat) := [(0, .aload_n 0, 1), (1, .aload_n 0, 1), (2, .getfield 7, 3), (5, .iload_n 1, 1), (6, .invokestatic 142, 3), (9, .aload_n 0, 1), (10, .getfield 203, 3), (13, .invokevirtual 155, 3), (16, .istore_n 2, 1), (17, .iload_n 2, 1), (18, .iconst (-1), 1), (19, .if_icmp .ne 7, 3), (22, .iconst 0, 1), (23, .goto 9, 3), (26, .aload_n 0, 1), (27, .getfield 7, 3), (30, .iload_n 2, 1), (31, .iaload, 1), (32, .istore_n 3, 1), (33, .aload_n 0, 1), (34, .getfield 206, 3), (37, .ifCond .eq 60, 3), (40, .iload_n 3, 1), (41, .iconst 1, 1), (42, .if_icmp .ne 25, 3), (45, .sipush 7919, 3), (48, .aload_n 0, 1), (49, .getfield 7, 3), (52, .iload_n 2, 1), (53, .iconst 1, 1), (54, .iadd, 1), (55, .iaload, 1), (56, .imul, 1), (57, .sipush 1000, 3), (60, .iadd, 1), (61, .invokestatic 210, 3), (64, .goto 32, 3), (67, .iload_n 3, 1), (68, .iconst 2, 1), (69, .if_icmp .ne 24, 3), (72, .ldc 213, 2), (74, .aload_n 0, 1), (75, .getfield 7, 3), (78, .iload_n 2, 1), (79, .iconst 1, 1), (80, .iadd, 1), (81, .iaload, 1), (82, .imul, 1), (83, .sipush 500, 3), (86, .iadd, 1), (87, .invokestatic 210, 3), (90, .goto 6, 3), (93, .sipush 250, 3), (96, .ireturn, 1), (97, .iload_n 3, 1), (98, .iconst 1, 1), (99, .if_icmp .ne 25, 3), (102, .aload_n 0, 1), (103, .getfield 7, 3), (106, .iload_n 2, 1), (107, .iconst 1, 1), (108, .iadd, 1), (109, .iaload, 1), (110, .ifCond .le 14, 3), (113, .aload_n 0, 1), (114, .getfield 7, 3), (117, .iload_n 2, 1), (118, .iconst 1, 1), (119, .iadd, 1), (120, .iaload, 1), (121, .goto 4, 3), (124, .iconst 0, 1), (125, .ireturn, 1)]
def MX12_keyOf : x_MT := (RX12, yX12_keyOf, cX12_keyOf, 4, some .int, 4, 94, iX12_keyOf)
theorem okX12_keyOf : x_MOk MX12_keyOf := ⟨by decide +kernel, tb7_of 234 rfl rfl, by decide +kernel, rfl, tb1_of 13 rfl rfl, by decide +kernel⟩
def iX12_chunkOf : List (Nat × Instr × Nat) := [(0, .aload_n 0, 1), (1, .iload_n 1, 1), (2, .invokevirtual 214, 3), (5, .istore_n 2, 1), (6, .aload_n 0, 1), (7, .getfield 200, 3), (10, .iconst 1, 1), (11, .isub, 1), (12, .istore_n 3, 1), (13, .aload_n 0, 1), (14, .getfield 57, 3), (17, .iload_n 3, 1), (18, .iaload, 1), (19, .iload_n 2, 1), (20, .if_icmp .le 9, 3), (23, .iinc 3 (-1), 3), (26, .goto (-13), 3), (29, .iload_n 3, 1), (30, .ireturn, 1)]
def MX12_chunkOf : x_MT := (RX12, yX12_chunkOf, cX12_chunkOf, 4, some .int, 5, 117, iX12_chunkOf)
theorem okX12_chunkOf : x_MOk MX12_chunkOf := ⟨by decide +kernel, tb7_of 230 rfl rfl, by decide +kernel, rfl, tb1_of 13 rfl rfl, by decide +kernel⟩
def iX12_shardOf : List (Nat × Instr × Nat) := [(0, .aload_n 0, 1), (1, .getfield 60, 3), (4, .aload_n 0, 1), (5, .iload_n 1, 1), (6, .invokevirtual 217, 3), (9, .iaload, 1), (10, .ireturn, 1)]
def MX12_shardOf : x_MT := (RX12, yX12_shardOf, cX12_shardOf, 2, some .int, 6, 140, iX12_shardOf)
theorem okX12_shardOf : x_MOk MX12_shardOf := ⟨by decide +kernel, tb7_of 226 rfl rfl, by decide +kernel, rfl, tb1_of 13 rfl rfl, by decide +kernel⟩
def iX12_moving : List (Nat × Instr × Nat) := [(0, .iconst 0, 1), (1, .istore_n 1, 1), (2, .iload_n 1, 1), (3, .aload_n 0, 1), (4, .getfield 200, 3), (7, .if_icmp .ge 24, 3), (10, .aload_n 0, 1), (11, .getfield 63, 3), (14, .aload_n 0, 1), (15, .getfield 57, 3), (18, .iload_n 1, 1), (19, .iaload, 1), (20, .if_icmp .ne 5, 3), (23, .iload_n 1, 1), (24, .ireturn, 1), (25, .iinc 1 1, 3), (28, .goto (-26), 3), (31, .iconst (-1), 1), (32, .ireturn, 1)]
def MX12_moving : x_MT := (RX12, yX12_moving, cX12_moving, 2, some .int, 0, 0, iX12_moving)
theorem okX12_moving : x_MOk MX12_moving := ⟨by decide +kernel, tb8_of 2 rfl rfl, by decide +kernel, rfl, tb1_of 13 rfl rfl, by decide +kernel⟩
def iX12_uses : List (Nat × Instr × Nat) := [(0, .aload_n 0, 1), (1, .getfield 76, 3), (4, .iload_n 1, 1), (5, .iaload, 1), (6, .aload_n 0, 1), (7, .getfield 73, 3), (10, .if_icmp .eq 23, 3), (13, .aload_n 0, 1), (14, .getfield 76, 3), (17, .iload_n 1, 1), (18, .aload_n 0, 1), (19, .getfield 73, 3), (22, .iastore, 1), (23, .aload_n 0, 1), (24, .getfield 79, 3), (27, .iload_n 1, 1), (28, .dup2, 1), (29, .iaload, 1), (30, .iconst 1, 1), (31, .iadd, 1), (32, .iastore, 1), (33, .return_, 1)]
def MX12_uses : x_MT := (RX12, yX12_uses, cX12_uses, 2, none, 0, 0, iX12_uses)
theorem okX12_uses : x_MOk MX12_uses := ⟨by decide +kernel, tb7_of 222 rfl rfl, by decide +kernel, rfl, tb1_of 13 rfl rfl, by decide +kernel⟩
def iX12_enters : List (Nat × Instr × Nat) := [(0, .aload_n 0, 1), (1, .getfield 220, 3), (4, .sipush 20000, 3), (7, .if_icmp .ge 43, 3), (10, .aload_n 0, 1), (11, .getfield 82, 3), (14, .aload_n 0, 1), (15, .getfield 220, 3), (18, .iload_n 1, 1), (19, .iastore, 1), (20, .aload_n 0, 1), (21, .getfield 85, 3), (24, .aload_n 0, 1), (25, .getfield 220, 3), (28, .iload_n 2, 1), (29, .iastore, 1), (30, .aload_n 0, 1), (31, .getfield 88, 3), (34, .aload_n 0, 1), (35, .getfield 220, 3), (38, .iload_n 3, 1), (39, .iastore, 1), (40, .aload_n 0, 1), (41, .dup, 1), (42, .getfield 220, 3), (45, .iconst 1, 1), (46, .iadd, 1), (47, .putfield 220, 3), (50, .return_, 1)]
def MX12_enters : x_MT := (RX12, yX12_enters, cX12_enters, 4, none, 0, 0, iX12_enters)
theorem okX12_enters : x_MOk MX12_enters := ⟨by decide +kernel, tb8_of 6 rfl rfl, by decide +kernel, rfl, tb1_of 13 rfl rfl, by decide +kernel⟩
def iX12_keeps : List (Nat × Instr × Nat) := [(0, .iload_n 3, 1), (1, .ifCond .eq 17, 3), (4, .iload 4, 2), (6, .iconst (-1), 1), (7, .if_icmp .eq 15, 3), (10, .aload_n 0, 1), (11, .iload 4, 2), (13, .iaload, 1), (14, .iload_n 3, 1), (15, .if_icmp .ne 7, 3), (18, .iconst 1, 1), (19, .goto 4, 3), (22, .iconst 0, 1), (23, .ireturn, 1)]
def MX12_keeps : x_MT := (RX12, yX12_keeps, cX12_keeps, 5, some .boolean, 0, 0, iX12_keeps)
theorem okX12_keeps : x_MOk MX12_keeps := ⟨by decide +kernel, tb7_of 218 rfl rfl, by decide +kernel, rfl, tb1_of 13 rfl rfl, by decide +kernel⟩
def iX12_keepsAll : List (Nat × Instr × Nat) := [(0, .iconst 1, 1), (1, .istore_n 3, 1), (2, .iconst 0, 1), (3, .istore 4, 2), (5, .iload 4, 2), (7, .bipush 8, 2), (9, .if_icmp .ge 44, 3), (12, .iload_n 3, 1), (13, .ifCond .eq 32, 3), (16, .aload_n 1, 1), (17, .iload_n 2, 1), (18, .iload 4, 2), (20, .aload_n 0, 1), (21, .getfield 23, 3), (24, .iload 4, 2), (26, .iaload, 1), (27, .aload_n 0, 1), (28, .aload_n 1, 1), (29, .iload_n 2, 1), (30, .iload 4, 2), (32, .invokevirtual 155, 3), (35, .invokestatic 223, 3), (38, .ifCond .eq 7, 3), (41, .iconst 1, 1), (42, .goto 4, 3), (45, .iconst 0, 1), (46, .istore_n 3, 1), (47, .iinc 4 1, 3), (50, .goto (-45), 3), (53, .iload_n 3, 1), (54, .ireturn, 1)]
def MX12_keepsAll : x_MT := (RX12, yX12_keepsAll, cX12_keepsAll, 5, some .boolean, 4, 94, iX12_keepsAll)
theorem okX12_keepsAll : x_MOk MX12_keepsAll := ⟨by decide +kernel, tb7_of 211 rfl rfl, by decide +kernel, rfl, tb1_of 13 rfl rfl, by decide +kernel⟩
def iX12_isThere : List (Nat × Instr × Nat) := [(0, .iload_n 1, 1), (1, .iconst 0, 1), (2, .bipush 99, 2), (4, .invokestatic 175, 3), (7, .ifCond .eq 16, 3), (10, .aload_n 0, 1), (11, .getfield 13, 3), (14, .iload_n 1, 1), (15, .baload, 1), (16, .ifCond .eq 7, 3), (19, .iconst 1, 1), (20, .goto 4, 3), (23, .iconst 0, 1), (24, .ireturn, 1)]
def MX12_isThere : x_MT := (RX12, yX12_isThere, cX12_isThere, 2, some .boolean, 1, 22, iX12_isThere)
theorem okX12_isThere : x_MOk MX12_isThere := ⟨by decide +kernel, tb8_of 14 rfl rfl, by decide +kernel, rfl, tb1_of 13 rfl rfl, by decide +kernel⟩
def iX12_insert : List (Nat × Instr × Nat) := [(0, .iload_n 1, 1), (1, .iconst 0, 1), (2, .iconst 1, 1), (3, .invokestatic 175, 3), (6, .ifCond .eq 17, 3), (9, .iload_n 2, 1), (10, .iconst 0, 1), (11, .bipush 99, 2), (13, .invokestatic 175, 3), (16, .ifCond .eq 7, 3), (19, .iconst 1, 1), (20, .goto 4, 3), (23, .iconst 0, 1), (24, .istore_n 3, 1), (25, .iload_n 3, 1), (26, .ifCond .eq 60, 3), (29, .aload_n 0, 1), (30, .getfield 146, 3), (33, .ifCond .le 53, 3), (36, .aload_n 0, 1), (37, .getfield 7, 3), (40, .aload_n 0, 1), (41, .invokevirtual 182, 3), (44, .iaload, 1), (45, .iconst 4, 1), (46, .if_icmp .ne 40, 3), (49, .aload_n 0, 1), (50, .getfield 13, 3), (53, .iload_n 2, 1), (54, .baload, 1), (55, .ifCond .ne 31, 3), (58, .aload_n 0, 1), (59, .getfield 227, 3), (62, .bipush 60, 2), (64, .if_icmp .ge 22, 3), (67, .aload_n 0, 1), (68, .aload_n 0, 1), (69, .getfield 7, 3), (72, .aload_n 0, 1), (73, .invokevirtual 182, 3), (76, .invokevirtual 230, 3), (79, .ifCond .eq 7, 3), (82, .iconst 1, 1), (83, .goto 4, 3), (86, .iconst 0, 1), (87, .istore 4, 2), (89, .aload_n 0, 1), (90, .iload_n 3, 1), (91, .iload 4, 2), (93, .iconst 1, 1), (94, .invokevirtual 167, 3), (97, .ifCond .ne 5, 3), (100, .iconst 0, 1), (101, .ireturn, 1), (102, .aload_n 0, 1), (103, .iload_n 1, 1), (104, .invokevirtual 234, 3), (107, .aload_n 0, 1), (108, .iconst 0, 1), (109, .putfield 179, 3), (112, .aload_n 0, 1), (113, .aload_n 0, 1), (114, .getfield 7, 3), (117, .aload_n 0, 1), (118, .invokevirtual 182, 3), (121, .aload_n 0, 1), (122, .aload_n 0, 1), (123, .getfield 7, 3), (126, .aload_n 0, 1), (127, .invokevirtual 182, 3), (130, .invokevirtual 131, 3), (133, .invokevirtual 189, 3), (136, .aload_n 0, 1), (137, .iload_n 2, 1), (138, .invokestatic 142, 3), (141, .invokevirtual 193, 3), (144, .aload_n 0, 1), (145, .dup, 1), (146, .getfield 146, 3), (149, .iconst 1, 1), (150, .isub, 1), (151, .putfield 146, 3), (154, .aload_n 0, 1), (155, .getfield 13, 3), (158, .iload_n 2, 1), (159, .iconst 1, 1), (160, .bastore, 1), (161, .aload_n 0, 1), (162, .dup, 1), (163, .getfield 227, 3), (166, .iconst 1, 1), (167, .iadd, 1), (168, .putfield 227, 3), (171, .aload_n 0, 1), (172, .iload_n 2, 1), (173, .invokevirtual 237, 3), (176, .istore 5, 2), (178, .aload_n 0, 1), (179, .getfield 67, 3), (182, .iload_n 2, 1), (183, .aload_n 0, 1), (184, .getfield 63, 3), (187, .iconst (-1), 1), (188, .if_icmp .eq 19, 3), (191, .aload_n 0, 1), (192, .iload_n 2, 1), (193, .invokevirtual 217, 3), (196, .aload_n 0, 1), (197, .invokevirtual 240, 3), (200, .if_icmp .ne 7, 3), (203, .iconst 1, 1), (204, .goto 4, 3), (207, .iconst 0, 1), (208, .bastore, 1), (209, .aload_n 0, 1), (210, .iconst 0, 1), (211, .iload_n 2, 1), (212, .iload 5, 2), (214, .invokevirtual 243, 3), (217, .iload 5, 2), (219, .ireturn, 1)]
def MX12_insert : x_MT := (RX12, yX12_insert, cX12_insert, 6, some .int, 7, 161, iX12_insert)
theorem okX12_insert : x_MOk MX12_insert := ⟨by decide +kernel, tb7_of 207 rfl rfl, by decide +kernel, rfl, tb1_of 13 rfl rfl, by decide +kernel⟩
def iX12_values : List (Nat × Instr × Nat) := [(0, .iload_n 2, 1), (1, .istore 4, 2), (3, .iload 4, 2), (5, .iload_n 3, 1), (6, .if_icmp .ge 32, 3), (9, .aload_n 0, 1), (10, .getfield 17, 3), (13, .aload_n 0, 1), (14, .getfield 247, 3), (17, .aload_n 1, 1), (18, .iload 4, 2), (20, .iaload, 1), (21, .iastore, 1), (22, .aload_n 0, 1), (23, .dup, 1), (24, .getfield 247, 3), (27, .iconst 1, 1), (28, .iadd, 1), (29, .putfield 247, 3), (32, .iinc 4 1, 3), (35, .goto (-32), 3), (38, .return_, 1)]
def MX12_values : x_MT := (RX12, yX12_values, cX12_values, 5, none, 0, 0, iX12_values)
theorem okX12_values : x_MOk MX12_values := ⟨by decide +kernel, tb8_of 26 rfl rfl, by decide +kernel, rfl, tb1_of 13 rfl rfl, by decide +kernel⟩
def iX12_works : List (Nat × Instr × Nat) := [(0, .aload_n 0, 1), (1, .iconst 0, 1), (2, .putfield 247, 3), (5, .iload_n 1, 1), (6, .iconst 1, 1), (7, .if_icmp .ne 7, 3), (10, .iconst (-1), 1), (11, .goto 7, 3), (14, .aload_n 0, 1), (15, .invokevirtual 182, 3), (18, .istore_n 3, 1), (19, .iload_n 1, 1), (20, .ifCond .ne 23, 3), (23, .aload_n 0, 1), (24, .aload_n 0, 1), (25, .getfield 7, 3), (28, .iload_n 3, 1), (29, .aload_n 0, 1), (30, .aload_n 0, 1), (31, .getfield 7, 3), (34, .iload_n 3, 1), (35, .invokevirtual 131, 3), (38, .invokevirtual 250, 3), (41, .iconst 1, 1), (42, .ireturn, 1), (43, .iload_n 1, 1), (44, .iconst 1, 1), (45, .if_icmp .ne 5, 3), (48, .iconst 1, 1), (49, .ireturn, 1), (50, .iload_n 1, 1), (51, .iconst 2, 1), (52, .if_icmp .eq 8, 3), (55, .iload_n 1, 1), (56, .iconst 5, 1), (57, .if_icmp .ne 15, 3), (60, .aload_n 0, 1), (61, .getfield 7, 3), (64, .iload_n 3, 1), (65, .iaload, 1), (66, .iconst 1, 1), (67, .if_icmp .eq 5, 3), (70, .iconst 0, 1), (71, .ireturn, 1), (72, .iload_n 1, 1), (73, .iconst 2, 1), (74, .if_icmp .ne 96, 3), (77, .aload_n 0, 1), (78, .getfield 7, 3), (81, .iload_n 3, 1), (82, .iconst 1, 1), (83, .iadd, 1), (84, .iaload, 1), (85, .iload_n 2, 1), (86, .iconst (-1), 1), (87, .if_icmp .eq 13, 3), (90, .aload_n 0, 1), (91, .getfield 7, 3), (94, .iload_n 2, 1), (95, .iaload, 1), (96, .iconst 1, 1), (97, .if_icmp .eq 7, 3), (100, .iconst 0, 1), (101, .goto 11, 3), (104, .aload_n 0, 1), (105, .getfield 7, 3), (108, .iload_n 2, 1), (109, .iconst 1, 1), (110, .iadd, 1), (111, .iaload, 1), (112, .iadd, 1), (113, .istore 4, 2), (115, .aload_n 0, 1), (116, .getfield 17, 3), (119, .iconst 0, 1), (120, .iconst 1, 1), (121, .iastore, 1), (122, .aload_n 0, 1), (123, .getfield 17, 3), (126, .iconst 1, 1), (127, .iload 4, 2), (129, .iastore, 1), (130, .aload_n 0, 1), (131, .iconst 2, 1), (132, .putfield 247, 3), (135, .iload_n 2, 1), (136, .iconst (-1), 1), (137, .if_icmp .eq 13, 3), (140, .aload_n 0, 1), (141, .getfield 7, 3), (144, .iload_n 2, 1), (145, .iaload, 1), (146, .iconst 1, 1), (147, .if_icmp .ne 21, 3), (150, .iload 4, 2), (152, .sipush (-999), 3), (155, .sipush 999, 3), (158, .invokestatic 175, 3), (161, .ifCond .eq 7, 3), (164, .iconst 1, 1), (165, .goto 4, 3), (168, .iconst 0, 1), (169, .ireturn, 1), (170, .iload_n 2, 1), (171, .iconst (-1), 1), (172, .if_icmp .eq 15, 3), (175, .aload_n 0, 1), (176, .getfield 7, 3), (179, .iload_n 2, 1), (180, .iaload, 1), (181, .iconst 3, 1), (182, .if_icmp .eq 5, 3), (185, .iconst 0, 1), (186, .ireturn, 1), (187, .iload_n 1, 1), (188, .iconst 3, 1), (189, .if_icmp .ne 82, 3), (192, .aload_n 0, 1), (193, .getfield 17, 3), (196, .iconst 0, 1), (197, .iconst 3, 1), (198, .iastore, 1), (199, .aload_n 0, 1), (200, .iconst 1, 1), (201, .putfield 247, 3), (204, .iload_n 2, 1), (205, .iconst (-1), 1), (206, .if_icmp .eq 25, 3), (209, .aload_n 0, 1), (210, .aload_n 0, 1), (211, .getfield 7, 3), (214, .iload_n 2, 1), (215, .iconst 1, 1), (216, .iadd, 1), (217, .aload_n 0, 1), (218, .aload_n 0, 1), (219, .getfield 7, 3), (222, .iload_n 2, 1), (223, .invokevirtual 131, 3), (226, .iconst 1, 1), (227, .isub, 1), (228, .invokevirtual 250, 3), (231, .aload_n 0, 1), (232, .aload_n 0, 1), (233, .getfield 7, 3), (236, .iload_n 3, 1), (237, .aload_n 0, 1), (238, .aload_n 0, 1), (239, .getfield 7, 3), (242, .iload_n 3, 1), (243, .invokevirtual 131, 3), (246, .invokevirtual 250, 3), (249, .aload_n 0, 1), (250, .getfield 17, 3), (253, .aload_n 0, 1), (254, .getfield 247, 3), (257, .iconst (-1), 1), (258, .iastore, 1), (259, .aload_n 0, 1), (260, .dup, 1), (261, .getfield 247, 3), (264, .iconst 1, 1), (265, .iadd, 1), (266, .putfield 247, 3), (269, .iconst 1, 1), (270, .ireturn, 1), (271, .iload_n 2, 1), (272, .iconst (-1), 1), (273, .if_icmp .ne 5, 3), (276, .iconst 1, 1), (277, .ireturn, 1), (278, .iconst 1, 1), (279, .istore 4, 2), (281, .aload_n 0, 1), (282, .getfield 17, 3), (285, .iconst 0, 1), (286, .iconst 3, 1), (287, .iastore, 1), (288, .aload_n 0, 1), (289, .iconst 1, 1), (290, .putfield 247, 3), (293, .iload_n 2, 1), (294, .iconst 1, 1), (295, .iadd, 1), (296, .istore 5, 2), (298, .aload_n 0, 1), (299, .getfield 7, 3), (302, .iload 5, 2), (304, .iaload, 1), (305, .iconst (-1), 1), (306, .if_icmp .eq 155, 3), (309, .aload_n 0, 1), (310, .aload_n 0, 1), (311, .getfield 7, 3), (314, .iload 5, 2), (316, .invokevirtual 131, 3), (319, .istore 6, 2), (321, .iload_n 1, 1), (322, .iconst 5, 1), (323, .if_icmp .ne 96, 3), (326, .aload_n 0, 1), (327, .getfield 7, 3), (330, .iload 5, 2), (332, .iaload, 1), (333, .iconst 1, 1), (334, .if_icmp .ne 85, 3), (337, .aload_n 0, 1), (338, .getfield 7, 3), (341, .iload 5, 2), (343, .iconst 1, 1), (344, .iadd, 1), (345, .iaload, 1), (346, .aload_n 0, 1), (347, .getfield 7, 3), (350, .iload_n 3, 1), (351, .iconst 1, 1), (352, .iadd, 1), (353, .iaload, 1), (354, .iadd, 1), (355, .istore 7, 2), (357, .iload 4, 2), (359, .ifCond .eq 21, 3), (362, .iload 7, 2), (364, .sipush (-999), 3), (367, .sipush 999, 3), (370, .invokestatic 175, 3), (373, .ifCond .eq 7, 3), (376, .iconst 1, 1), (377, .goto 4, 3), (380, .iconst 0, 1), (381, .istore 4, 2), (383, .aload_n 0, 1), (384, .getfield 17, 3), (387, .aload_n 0, 1), (388, .getfield 247, 3), (391, .iconst 1, 1), (392, .iastore, 1), (393, .aload_n 0, 1), (394, .getfield 17, 3), (397, .aload_n 0, 1), (398, .getfield 247, 3), (401, .iconst 1, 1), (402, .iadd, 1), (403, .iload 7, 2), (405, .iastore, 1), (406, .aload_n 0, 1), (407, .dup, 1), (408, .getfield 247, 3), (411, .iconst 2, 1), (412, .iadd, 1), (413, .putfield 247, 3), (416, .goto 38, 3), (419, .iload_n 1, 1), (420, .iconst 5, 1), (421, .if_icmp .eq 21, 3), (424, .aload_n 0, 1), (425, .aload_n 0, 1), (426, .getfield 7, 3), (429, .iload 5, 2), (431, .aload_n 0, 1), (432, .getfield 7, 3), (435, .iload_n 3, 1), (436, .invokevirtual 253, 3), (439, .ifCond .eq 15, 3), (442, .aload_n 0, 1), (443, .aload_n 0, 1), (444, .getfield 7, 3), (447, .iload 5, 2), (449, .iload 6, 2), (451, .invokevirtual 250, 3), (454, .iload 6, 2), (456, .istore 5, 2), (458, .goto (-160), 3), (461, .aload_n 0, 1), (462, .getfield 17, 3), (465, .aload_n 0, 1), (466, .getfield 247, 3), (469, .iconst (-1), 1), (470, .iastore, 1), (471, .aload_n 0, 1), (472, .dup, 1), (473, .getfield 247, 3), (476, .iconst 1, 1), (477, .iadd, 1), (478, .putfield 247, 3), (481, .iload 4, 2), (483, .ireturn, 1)]
def MX12_works : x_MT := (RX12, yX12_works, cX12_works, 8, some .boolean, 4, 98, iX12_works)
theorem okX12_works : x_MOk MX12_works := ⟨by decide +kernel, tb8_of 22 rfl rfl, by decide +kernel, rfl, tb1_of 13 rfl rfl, by decide +kernel⟩
def iX12_updates : List (Nat × Instr × Nat) := [(0, .iload_n 1, 1), (1, .invokestatic 142, 3), (4, .istore 4, 2), (6, .iload_n 2, 1), (7, .bipush 8, 2), (9, .if_icmp .ge 7, 3), (12, .iload_n 2, 1), (13, .goto 10, 3), (16, .iload_n 2, 1), (17, .bipush 8, 2), (19, .isub, 1), (20, .bipush 8, 2), (22, .idiv, 1), (23, .istore 5, 2), (25, .iload 4, 2), (27, .istore 6, 2), (29, .iload_n 2, 1), (30, .bipush 8, 2), (32, .if_icmp .ge 7, 3), (35, .iload_n 2, 1), (36, .goto 7, 3), (39, .iload_n 2, 1), (40, .bipush 8, 2), (42, .irem, 1), (43, .istore 7, 2), (45, .iconst (-1), 1), (46, .istore 8, 2), (48, .iload_n 2, 1), (49, .bipush 8, 2), (51, .if_icmp .lt 40, 3), (54, .aload_n 0, 1), (55, .aload_n 0, 1), (56, .getfield 7, 3), (59, .iload 4, 2), (61, .iload 5, 2), (63, .invokevirtual 155, 3), (66, .istore 8, 2), (68, .iload 8, 2), (70, .iconst (-1), 1), (71, .if_icmp .eq 16, 3), (74, .aload_n 0, 1), (75, .getfield 7, 3), (78, .iload 8, 2), (80, .iaload, 1), (81, .iconst 4, 1), (82, .if_icmp .eq 5, 3), (85, .iconst 0, 1), (86, .ireturn, 1), (87, .iload 8, 2), (89, .istore 6, 2), (91, .iload 6, 2), (93, .iconst (-1), 1), (94, .if_icmp .ne 7, 3), (97, .iconst (-1), 1), (98, .goto 15, 3), (101, .aload_n 0, 1), (102, .aload_n 0, 1), (103, .getfield 7, 3), (106, .iload 6, 2), (108, .iload 7, 2), (110, .invokevirtual 155, 3), (113, .istore 9, 2), (115, .aload_n 0, 1), (116, .iload_n 3, 1), (117, .iload 9, 2), (119, .invokevirtual 257, 3), (122, .ifCond .ne 5, 3), (125, .iconst 0, 1), (126, .ireturn, 1), (127, .iload 9, 2), (129, .iconst (-1), 1), (130, .if_icmp .ne 17, 3), (133, .iload_n 3, 1), (134, .iconst 1, 1), (135, .if_icmp .eq 8, 3), (138, .iload_n 3, 1), (139, .iconst 4, 1), (140, .if_icmp .lt 7, 3), (143, .iconst 1, 1), (144, .goto 4, 3), (147, .iconst 0, 1), (148, .istore 10, 2), (150, .iload 10, 2), (152, .ifCond .eq 31, 3), (155, .aload_n 0, 1), (156, .iconst 0, 1), (157, .putfield 179, 3), (160, .aload_n 0, 1), (161, .aload_n 0, 1), (162, .getfield 7, 3), (165, .iload 4, 2), (167, .aload_n 0, 1), (168, .aload_n 0, 1), (169, .getfield 7, 3), (172, .iload 4, 2), (174, .invokevirtual 131, 3), (177, .invokevirtual 189, 3), (180, .goto 139, 3), (183, .iload 6, 2), (185, .iconst (-1), 1), (186, .if_icmp .ne 101, 3), (189, .aload_n 0, 1), (190, .getfield 247, 3), (193, .iconst 1, 1), (194, .isub, 1), (195, .istore 11, 2), (197, .iload 11, 2), (199, .ifCond .lt 25, 3), (202, .aload_n 0, 1), (203, .getfield 17, 3), (206, .iload 11, 2), (208, .iconst 2, 1), (209, .iadd, 1), (210, .aload_n 0, 1), (211, .getfield 17, 3), (214, .iload 11, 2), (216, .iaload, 1), (217, .iastore, 1), (218, .iinc 11 (-1), 3), (221, .goto (-24), 3), (224, .aload_n 0, 1), (225, .getfield 17, 3), (228, .iconst 0, 1), (229, .iconst 4, 1), (230, .iastore, 1), (231, .aload_n 0, 1), (232, .getfield 17, 3), (235, .iconst 1, 1), (236, .iload 7, 2), (238, .iastore, 1), (239, .aload_n 0, 1), (240, .getfield 17, 3), (243, .aload_n 0, 1), (244, .getfield 247, 3), (247, .iconst 2, 1), (248, .iadd, 1), (249, .iconst (-1), 1), (250, .iastore, 1), (251, .aload_n 0, 1), (252, .dup, 1), (253, .getfield 247, 3), (256, .iconst 3, 1), (257, .iadd, 1), (258, .putfield 247, 3), (261, .aload_n 0, 1), (262, .aload_n 0, 1), (263, .getfield 7, 3), (266, .iload 4, 2), (268, .iload 4, 2), (270, .iload 5, 2), (272, .aload_n 0, 1), (273, .getfield 17, 3), (276, .iconst 0, 1), (277, .aload_n 0, 1), (278, .getfield 247, 3), (281, .invokevirtual 196, 3), (284, .goto 35, 3), (287, .aload_n 0, 1), (288, .aload_n 0, 1), (289, .getfield 7, 3), (292, .iload 4, 2), (294, .iload 6, 2), (296, .iload 7, 2), (298, .aload_n 0, 1), (299, .getfield 17, 3), (302, .iconst 0, 1), (303, .iload_n 3, 1), (304, .iconst 1, 1), (305, .if_icmp .ne 7, 3), (308, .iconst 0, 1), (309, .goto 7, 3), (312, .aload_n 0, 1), (313, .getfield 247, 3), (316, .invokevirtual 196, 3), (319, .aload_n 0, 1), (320, .aload_n 0, 1), (321, .getfield 20, 3), (324, .iconst 0, 1), (325, .invokevirtual 186, 3), (328, .bipush 24, 2), (330, .if_icmp .gt 19, 3), (333, .aload_n 0, 1), (334, .aload_n 0, 1), (335, .getfield 20, 3), (338, .iconst 0, 1), (339, .invokevirtual 230, 3), (342, .ifCond .eq 7, 3), (345, .iconst 1, 1), (346, .goto 4, 3), (349, .iconst 0, 1), (350, .ireturn, 1)]
def MX12_updates : x_MT := (RX12, yX12_updates, cX12_updates, 12, some .boolean, 5, 125, iX12_updates)
theorem okX12_updates : x_MOk MX12_updates := ⟨by decide +kernel, tb8_of 18 rfl rfl, by decide +kernel, rfl, tb1_of 13 rfl rfl, by decide +kernel⟩
def iX12_update : List (Nat × Instr × Nat) := [(0, .aload_n 0, 1), (1, .iload_n 2, 1), (2, .invokevirtual 261, 3), (5, .istore 5, 2), (7, .iload_n 1, 1), (8, .iconst 0, 1), (9, .iconst 1, 1), (10, .invokestatic 175, 3), (13, .ifCond .eq 27, 3), (16, .iload_n 3, 1), (17, .iconst 0, 1), (18, .bipush 71, 2), (20, .invokestatic 175, 3), (23, .ifCond .eq 17, 3), (26, .iload 4, 2), (28, .iconst 0, 1), (29, .iconst 5, 1), (30, .invokestatic 175, 3), (33, .ifCond .eq 7, 3), (36, .iconst 1, 1), (37, .goto 4, 3), (40, .iconst 0, 1), (41, .istore 6, 2), (43, .iload 5, 2), (45, .ifCond .eq 36, 3), (48, .iload 6, 2), (50, .ifCond .eq 31, 3), (53, .iload 4, 2), (55, .iconst 1, 1), (56, .if_icmp .eq 10, 3), (59, .aload_n 0, 1), (60, .getfield 146, 3), (63, .ifCond .le 18, 3), (66, .aload_n 0, 1), (67, .iload_n 2, 1), (68, .iload_n 3, 1), (69, .iload 4, 2), (71, .invokevirtual 264, 3), (74, .ifCond .eq 7, 3), (77, .iconst 1, 1), (78, .goto 4, 3), (81, .iconst 0, 1), (82, .istore 7, 2), (84, .aload_n 0, 1), (85, .iload 5, 2), (87, .iload 6, 2), (89, .iload 7, 2), (91, .invokevirtual 167, 3), (94, .ifCond .ne 5, 3), (97, .iconst 0, 1), (98, .ireturn, 1), (99, .aload_n 0, 1), (100, .iload_n 1, 1), (101, .invokevirtual 234, 3), (104, .aload_n 0, 1), (105, .dup, 1), (106, .getfield 146, 3), (109, .iload 4, 2), (111, .iconst 1, 1), (112, .if_icmp .ne 7, 3), (115, .iconst 0, 1), (116, .goto 4, 3), (119, .iconst 1, 1), (120, .isub, 1), (121, .putfield 146, 3), (124, .aload_n 0, 1), (125, .aload_n 0, 1), (126, .getfield 20, 3), (129, .iconst 0, 1), (130, .aload_n 0, 1), (131, .getfield 7, 3), (134, .iload_n 2, 1), (135, .invokestatic 142, 3), (138, .invokevirtual 253, 3), (141, .ifCond .ne 5, 3), (144, .iconst 0, 1), (145, .ireturn, 1), (146, .aload_n 0, 1), (147, .iload_n 2, 1), (148, .invokestatic 142, 3), (151, .invokevirtual 193, 3), (154, .aload_n 0, 1), (155, .getfield 67, 3), (158, .iload_n 2, 1), (159, .aload_n 0, 1), (160, .getfield 63, 3), (163, .iconst (-1), 1), (164, .if_icmp .eq 19, 3), (167, .aload_n 0, 1), (168, .iload_n 2, 1), (169, .invokevirtual 217, 3), (172, .aload_n 0, 1), (173, .invokevirtual 240, 3), (176, .if_icmp .ne 7, 3), (179, .iconst 1, 1), (180, .goto 4, 3), (183, .iconst 0, 1), (184, .bastore, 1), (185, .aload_n 0, 1), (186, .iconst 1, 1), (187, .iload_n 2, 1), (188, .aload_n 0, 1), (189, .iload_n 2, 1), (190, .invokevirtual 237, 3), (193, .invokevirtual 243, 3), (196, .iconst 1, 1), (197, .ireturn, 1)]
def MX12_update : x_MT := (RX12, yX12_update, cX12_update, 8, some .boolean, 7, 161, iX12_update)
theorem okX12_update : x_MOk MX12_update := ⟨by decide +kernel, tb8_of 10 rfl rfl, by decide +kernel, rfl, tb1_of 13 rfl rfl, by decide +kernel⟩
def iX12_removes : List (Nat × Instr × Nat) := [(0, .aload_n 0, 1), (1, .iload_n 1, 1), (2, .invokevirtual 237, 3), (5, .istore_n 2, 1), (6, .aload_n 0, 1), (7, .getfield 13, 3), (10, .iload_n 1, 1), (11, .iconst 0, 1), (12, .bastore, 1), (13, .aload_n 0, 1), (14, .getfield 67, 3), (17, .iload_n 1, 1), (18, .iconst 0, 1), (19, .bastore, 1), (20, .aload_n 0, 1), (21, .dup, 1), (22, .getfield 227, 3), (25, .iconst 1, 1), (26, .isub, 1), (27, .putfield 227, 3), (30, .aload_n 0, 1), (31, .iconst 2, 1), (32, .iload_n 1, 1), (33, .iload_n 2, 1), (34, .invokevirtual 243, 3), (37, .iload_n 2, 1), (38, .ireturn, 1)]
def MX12_removes : x_MT := (RX12, yX12_removes, cX12_removes, 3, some .int, 7, 161, iX12_removes)
theorem okX12_removes : x_MOk MX12_removes := ⟨by decide +kernel, tb8_of 38 rfl rfl, by decide +kernel, rfl, tb1_of 13 rfl rfl, by decide +kernel⟩
def iX12_remove : List (Nat × Instr × Nat) := [(0, .aload_n 0, 1), (1, .aload_n 0, 1), (2, .iload_n 2, 1), (3, .invokevirtual 261, 3), (6, .iload_n 1, 1), (7, .iconst 0, 1), (8, .iconst 1, 1), (9, .invokestatic 175, 3), (12, .iconst 1, 1), (13, .invokevirtual 167, 3), (16, .ifCond .ne 5, 3), (19, .iconst 0, 1), (20, .ireturn, 1), (21, .aload_n 0, 1), (22, .iload_n 1, 1), (23, .invokevirtual 234, 3), (26, .aload_n 0, 1), (27, .iload_n 2, 1), (28, .invokevirtual 267, 3), (31, .ireturn, 1)]
def MX12_remove : x_MT := (RX12, yX12_remove, cX12_remove, 3, some .int, 8, 183, iX12_remove)
theorem okX12_remove : x_MOk MX12_remove := ⟨by decide +kernel, tb8_of 34 rfl rfl, by decide +kernel, rfl, tb1_of 13 rfl rfl, by decide +kernel⟩
def iX12_rule : List (Nat × Instr × Nat) := [(0, .iload_n 1, 1), (1, .iconst 0, 1), (2, .bipush 7, 2), (4, .invokestatic 175, 3), (7, .ifCond .eq 16, 3), (10, .iload_n 2, 1), (11, .iconst 0, 1), (12, .iconst 4, 1), (13, .invokestatic 175, 3), (16, .ifCond .eq 7, 3), (19, .iconst 1, 1), (20, .goto 4, 3), (23, .iconst 0, 1), (24, .istore_n 3, 1), (25, .iconst 1, 1), (26, .istore 4, 2), (28, .iconst 0, 1), (29, .istore 5, 2), (31, .iload 5, 2), (33, .bipush 100, 2), (35, .if_icmp .ge 66, 3), (38, .iload_n 3, 1), (39, .ifCond .eq 62, 3), (42, .iload 4, 2), (44, .ifCond .eq 48, 3), (47, .aload_n 0, 1), (48, .getfield 13, 3), (51, .iload 5, 2), (53, .baload, 1), (54, .ifCond .eq 34, 3), (57, .aload_n 0, 1), (58, .getfield 7, 3), (61, .iload 5, 2), (63, .invokestatic 142, 3), (66, .iload_n 1, 1), (67, .iload_n 2, 1), (68, .aload_n 0, 1), (69, .aload_n 0, 1), (70, .getfield 7, 3), (73, .iload 5, 2), (75, .invokestatic 142, 3), (78, .iload_n 1, 1), (79, .invokevirtual 155, 3), (82, .invokestatic 223, 3), (85, .ifCond .eq 7, 3), (88, .iconst 1, 1), (89, .goto 4, 3), (92, .iconst 0, 1), (93, .istore 4, 2), (95, .iinc 5 1, 3), (98, .goto (-67), 3), (101, .aload_n 0, 1), (102, .iload_n 3, 1), (103, .iload 4, 2), (105, .iconst 1, 1), (106, .invokevirtual 167, 3), (109, .ifCond .ne 5, 3), (112, .iconst 0, 1), (113, .ireturn, 1), (114, .aload_n 0, 1), (115, .getfield 23, 3), (118, .iload_n 1, 1), (119, .iaload, 1), (120, .istore 5, 2), (122, .aload_n 0, 1), (123, .getfield 23, 3), (126, .iload_n 1, 1), (127, .iload_n 2, 1), (128, .iastore, 1), (129, .iload 5, 2), (131, .ireturn, 1)]
def MX12_rule : x_MT := (RX12, yX12_rule, cX12_rule, 6, some .int, 4, 94, iX12_rule)
theorem okX12_rule : x_MOk MX12_rule := ⟨by decide +kernel, tb8_of 42 rfl rfl, by decide +kernel, rfl, tb1_of 13 rfl rfl, by decide +kernel⟩
def iX12_index : List (Nat × Instr × Nat) := [(0, .iconst 1, 1), (1, .istore_n 3, 1), (2, .iconst (-1), 1), (3, .istore 4, 2), (5, .iconst 2, 1), (6, .istore 5, 2), (8, .iload 5, 2), (10, .ifCond .lt 59, 3), (13, .iload_n 3, 1), (14, .ifCond .eq 28, 3), (17, .aload_n 0, 1), (18, .getfield 29, 3), (21, .iload 5, 2), (23, .baload, 1), (24, .ifCond .eq 14, 3), (27, .aload_n 0, 1), (28, .getfield 26, 3), (31, .iload 5, 2), (33, .iaload, 1), (34, .iload_n 1, 1), (35, .if_icmp .eq 7, 3), (38, .iconst 1, 1), (39, .goto 4, 3), (42, .iconst 0, 1), (43, .istore_n 3, 1), (44, .aload_n 0, 1), (45, .getfield 29, 3), (48, .iload 5, 2), (50, .baload, 1), (51, .ifCond .eq 8, 3), (54, .iload 4, 2), (56, .goto 5, 3), (59, .iload 5, 2), (61, .istore 4, 2), (63, .iinc 5 (-1), 3), (66, .goto (-58), 3), (69, .aload_n 0, 1), (70, .iload_n 1, 1), (71, .iconst 0, 1), (72, .bipush 71, 2), (74, .invokestatic 175, 3), (77, .iload_n 3, 1), (78, .ifCond .eq 13, 3), (81, .iload 4, 2), (83, .iconst (-1), 1), (84, .if_icmp .eq 7, 3), (87, .iconst 1, 1), (88, .goto 4, 3), (91, .iconst 0, 1), (92, .iconst 1, 1), (93, .invokevirtual 167, 3), (96, .ifCond .ne 5, 3), (99, .iconst 0, 1), (100, .ireturn, 1), (101, .aload_n 0, 1), (102, .getfield 29, 3), (105, .iload 4, 2), (107, .iconst 1, 1), (108, .bastore, 1), (109, .aload_n 0, 1), (110, .getfield 26, 3), (113, .iload 4, 2), (115, .iload_n 1, 1), (116, .iastore, 1), (117, .aload_n 0, 1), (118, .getfield 32, 3), (121, .iload 4, 2), (123, .iload_n 2, 1), (124, .bastore, 1), (125, .iload 4, 2), (127, .ireturn, 1)]
def MX12_index : x_MT := (RX12, yX12_index, cX12_index, 6, some .int, 1, 23, iX12_index)
theorem okX12_index : x_MOk MX12_index := ⟨by decide +kernel, tb8_of 46 rfl rfl, by decide +kernel, rfl, tb1_of 13 rfl rfl, by decide +kernel⟩
def iX12_isIndex : List (Nat × Instr × Nat) := [(0, .iload_n 1, 1), (1, .iconst 0, 1), (2, .iconst 2, 1), (3, .invokestatic 175, 3), (6, .ifCond .eq 16, 3), (9, .aload_n 0, 1), (10, .getfield 29, 3), (13, .iload_n 1, 1), (14, .baload, 1), (15, .ifCond .eq 7, 3), (18, .iconst 1, 1), (19, .goto 4, 3), (22, .iconst 0, 1), (23, .ireturn, 1)]
def MX12_isIndex : x_MT := (RX12, yX12_isIndex, cX12_isIndex, 2, some .boolean, 1, 22, iX12_isIndex)
theorem okX12_isIndex : x_MOk MX12_isIndex := ⟨by decide +kernel, tb8_of 54 rfl rfl, by decide +kernel, rfl, tb1_of 13 rfl rfl, by decide +kernel⟩
def iX12_dropPlan : List (Nat × Instr × Nat) := [(0, .iload_n 1, 1), (1, .istore_n 2, 1), (2, .iload_n 2, 1), (3, .aload_n 0, 1), (4, .getfield 270, 3), (7, .iconst 1, 1), (8, .isub, 1), (9, .if_icmp .ge 51, 3), (12, .aload_n 0, 1), (13, .getfield 41, 3), (16, .iload_n 2, 1), (17, .aload_n 0, 1), (18, .getfield 41, 3), (21, .iload_n 2, 1), (22, .iconst 1, 1), (23, .iadd, 1), (24, .laload, 1), (25, .lastore, 1), (26, .aload_n 0, 1), (27, .getfield 45, 3), (30, .iload_n 2, 1), (31, .aload_n 0, 1), (32, .getfield 45, 3), (35, .iload_n 2, 1), (36, .iconst 1, 1), (37, .iadd, 1), (38, .iaload, 1), (39, .iastore, 1), (40, .aload_n 0, 1), (41, .getfield 48, 3), (44, .iload_n 2, 1), (45, .aload_n 0, 1), (46, .getfield 48, 3), (49, .iload_n 2, 1), (50, .iconst 1, 1), (51, .iadd, 1), (52, .iaload, 1), (53, .iastore, 1), (54, .iinc 2 1, 3), (57, .goto (-55), 3), (60, .aload_n 0, 1), (61, .dup, 1), (62, .getfield 270, 3), (65, .iconst 1, 1), (66, .isub, 1), (67, .putfield 270, 3), (70, .return_, 1)]
def MX12_dropPlan : x_MT := (RX12, yX12_dropPlan, cX12_dropPlan, 3, none, 0, 0, iX12_dropPlan)
theorem okX12_dropPlan : x_MOk MX12_dropPlan := ⟨by decide +kernel, tb8_of 58 rfl rfl, by decide +kernel, rfl, tb1_of 13 rfl rfl, by decide +kernel⟩
def iX12_dropIndex : List (Nat × Instr × Nat) := [(0, .aload_n 0, 1), (1, .aload_n 0, 1), (2, .iload_n 1, 1), (3, .invokevirtual 273, 3), (6, .iconst 1, 1), (7, .iconst 1, 1), (8, .invokevirtual 167, 3), (11, .ifCond .ne 5, 3), (14, .iconst 0, 1), (15, .ireturn, 1), (16, .aload_n 0, 1), (17, .getfield 29, 3), (20, .iload_n 1, 1), (21, .iconst 0, 1), (22, .bastore, 1), (23, .iconst 0, 1), (24, .istore_n 2, 1), (25, .aload_n 0, 1), (26, .getfield 270, 3), (29, .iconst 1, 1), (30, .isub, 1), (31, .istore_n 3, 1), (32, .iload_n 3, 1), (33, .ifCond .lt 27, 3), (36, .aload_n 0, 1), (37, .getfield 45, 3), (40, .iload_n 3, 1), (41, .iaload, 1), (42, .iload_n 1, 1), (43, .if_icmp .ne 11, 3), (46, .aload_n 0, 1), (47, .iload_n 3, 1), (48, .invokevirtual 276, 3), (51, .iinc 2 1, 3), (54, .iinc 3 (-1), 3), (57, .goto (-25), 3), (60, .iload_n 2, 1), (61, .ireturn, 1)]
def MX12_dropIndex : x_MT := (RX12, yX12_dropIndex, cX12_dropIndex, 4, some .int, 2, 43, iX12_dropIndex)
theorem okX12_dropIndex : x_MOk MX12_dropIndex := ⟨by decide +kernel, tb8_of 50 rfl rfl, by decide +kernel, rfl, tb1_of 13 rfl rfl, by decide +kernel⟩
def iX12_filterAt : List (Nat × Instr × Nat) := [(0, .bipush 110, 2), (2, .iload_n 1, 1), (3, .iadd, 1), (4, .invokestatic 142, 3), (7, .ireturn, 1)]
def MX12_filterAt : x_MT := (RX12, yX12_filterAt, cX12_filterAt, 2, some .int, 1, 20, iX12_filterAt)
theorem okX12_filterAt : x_MOk MX12_filterAt := ⟨by decide +kernel, tb8_of 66 rfl rfl, by decide +kernel, rfl, tb1_of 13 rfl rfl, by decide +kernel⟩
def iX12_filter : List (Nat × Instr × Nat) := [(0, .iload_n 1, 1), (1, .iconst 0, 1), (2, .bipush 71, 2), (4, .invokestatic 175, 3), (7, .ifCond .eq 16, 3), (10, .iload_n 2, 1), (11, .iconst 0, 1), (12, .iconst 4, 1), (13, .invokestatic 175, 3), (16, .ifCond .eq 7, 3), (19, .iconst 1, 1), (20, .goto 4, 3), (23, .iconst 0, 1), (24, .istore_n 3, 1), (25, .aload_n 0, 1), (26, .getfield 146, 3), (29, .ifCond .le 33, 3), (32, .aload_n 0, 1), (33, .getfield 279, 3), (36, .iconst 3, 1), (37, .if_icmp .ge 25, 3), (40, .iload_n 2, 1), (41, .iconst 4, 1), (42, .if_icmp .ne 16, 3), (45, .aload_n 0, 1), (46, .getfield 7, 3), (49, .aload_n 0, 1), (50, .invokevirtual 182, 3), (53, .iaload, 1), (54, .iconst 1, 1), (55, .if_icmp .ne 7, 3), (58, .iconst 1, 1), (59, .goto 4, 3), (62, .iconst 0, 1), (63, .istore 4, 2), (65, .aload_n 0, 1), (66, .iload_n 3, 1), (67, .iload 4, 2), (69, .iconst 1, 1), (70, .invokevirtual 167, 3), (73, .ifCond .ne 5, 3), (76, .iconst 0, 1), (77, .ireturn, 1), (78, .aload_n 0, 1), (79, .iconst 0, 1), (80, .putfield 179, 3), (83, .aload_n 0, 1), (84, .aload_n 0, 1), (85, .getfield 7, 3), (88, .aload_n 0, 1), (89, .invokevirtual 182, 3), (92, .aload_n 0, 1), (93, .aload_n 0, 1), (94, .getfield 7, 3), (97, .aload_n 0, 1), (98, .invokevirtual 182, 3), (101, .invokevirtual 131, 3), (104, .invokevirtual 189, 3), (107, .aload_n 0, 1), (108, .aload_n 0, 1), (109, .aload_n 0, 1), (110, .getfield 279, 3), (113, .invokevirtual 282, 3), (116, .invokevirtual 193, 3), (119, .aload_n 0, 1), (120, .getfield 35, 3), (123, .aload_n 0, 1), (124, .getfield 279, 3), (127, .iload_n 1, 1), (128, .iastore, 1), (129, .aload_n 0, 1), (130, .getfield 38, 3), (133, .aload_n 0, 1), (134, .getfield 279, 3), (137, .iload_n 2, 1), (138, .iastore, 1), (139, .aload_n 0, 1), (140, .dup, 1), (141, .getfield 279, 3), (144, .iconst 1, 1), (145, .iadd, 1), (146, .putfield 279, 3), (149, .aload_n 0, 1), (150, .dup, 1), (151, .getfield 146, 3), (154, .iconst 1, 1), (155, .isub, 1), (156, .putfield 146, 3), (159, .aload_n 0, 1), (160, .getfield 279, 3), (163, .ireturn, 1)]
def MX12_filter : x_MT := (RX12, yX12_filter, cX12_filter, 5, some .int, 3, 70, iX12_filter)
theorem okX12_filter : x_MOk MX12_filter := ⟨by decide +kernel, tb8_of 62 rfl rfl, by decide +kernel, rfl, tb1_of 13 rfl rfl, by decide +kernel⟩
def iX12_clear : List (Nat × Instr × Nat) := [(0, .aload_n 0, 1), (1, .iconst 0, 1), (2, .putfield 118, 3), (5, .aload_n 0, 1), (6, .getfield 279, 3), (9, .istore_n 1, 1), (10, .aload_n 0, 1), (11, .iconst 0, 1), (12, .putfield 279, 3), (15, .iload_n 1, 1), (16, .ireturn, 1)]
def MX12_clear : x_MT := (RX12, yX12_clear, cX12_clear, 2, some .int, 0, 0, iX12_clear)
theorem okX12_clear : x_MOk MX12_clear := ⟨by decide +kernel, tb8_of 70 rfl rfl, by decide +kernel, rfl, tb1_of 13 rfl rfl, by decide +kernel⟩
def iX12_fitsAt : List (Nat × Instr × Nat) := [(0, .aload_n 0, 1), (1, .iload_n 2, 1), (2, .invokevirtual 282, 3), (5, .istore_n 3, 1), (6, .aload_n 0, 1), (7, .getfield 38, 3), (10, .iload_n 2, 1), (11, .iaload, 1), (12, .istore 4, 2), (14, .iload 4, 2), (16, .ifCond .ne 26, 3), (19, .aload_n 0, 1), (20, .aload_n 0, 1), (21, .getfield 7, 3), (24, .iload_n 1, 1), (25, .aload_n 0, 1), (26, .getfield 7, 3), (29, .iload_n 3, 1), (30, .invokevirtual 253, 3), (33, .ifCond .ne 7, 3), (36, .iconst 1, 1), (37, .goto 4, 3), (40, .iconst 0, 1), (41, .ireturn, 1), (42, .aload_n 0, 1), (43, .getfield 7, 3), (46, .iload_n 1, 1), (47, .iaload, 1), (48, .aload_n 0, 1), (49, .getfield 7, 3), (52, .iload_n 3, 1), (53, .iaload, 1), (54, .if_icmp .ne 19, 3), (57, .aload_n 0, 1), (58, .getfield 7, 3), (61, .iload_n 1, 1), (62, .iaload, 1), (63, .invokestatic 121, 3), (66, .ifCond .eq 7, 3), (69, .iconst 1, 1), (70, .goto 4, 3), (73, .iconst 0, 1), (74, .istore 5, 2), (76, .iload 5, 2), (78, .ifCond .eq 54, 3), (81, .iload 4, 2), (83, .iconst 1, 1), (84, .if_icmp .ne 25, 3), (87, .aload_n 0, 1), (88, .getfield 7, 3), (91, .iload_n 1, 1), (92, .iconst 1, 1), (93, .iadd, 1), (94, .iaload, 1), (95, .aload_n 0, 1), (96, .getfield 7, 3), (99, .iload_n 3, 1), (100, .iconst 1, 1), (101, .iadd, 1), (102, .iaload, 1), (103, .if_icmp .ge 29, 3), (106, .goto 22, 3), (109, .aload_n 0, 1), (110, .getfield 7, 3), (113, .iload_n 1, 1), (114, .iconst 1, 1), (115, .iadd, 1), (116, .iaload, 1), (117, .aload_n 0, 1), (118, .getfield 7, 3), (121, .iload_n 3, 1), (122, .iconst 1, 1), (123, .iadd, 1), (124, .iaload, 1), (125, .if_icmp .le 7, 3), (128, .iconst 1, 1), (129, .goto 4, 3), (132, .iconst 0, 1), (133, .ireturn, 1)]
def MX12_fitsAt : x_MT := (RX12, yX12_fitsAt, cX12_fitsAt, 6, some .boolean, 4, 98, iX12_fitsAt)
theorem okX12_fitsAt : x_MOk MX12_fitsAt := ⟨by decide +kernel, tb8_of 104 rfl rfl, by decide +kernel, rfl, tb1_of 13 rfl rfl, by decide +kernel⟩
def iX12_fits : List (Nat × Instr × Nat) := [(0, .aload_n 0, 1), (1, .iload_n 1, 1), (2, .aload_n 0, 1), (3, .getfield 35, 3), (6, .iload_n 2, 1), (7, .iaload, 1), (8, .invokevirtual 285, 3), (11, .aload_n 0, 1), (12, .getfield 38, 3), (15, .iload_n 2, 1), (16, .iaload, 1), (17, .istore_n 3, 1), (18, .iload_n 3, 1), (19, .iconst 3, 1), (20, .if_icmp .ne 14, 3), (23, .aload_n 0, 1), (24, .getfield 152, 3), (27, .ifCond .le 7, 3), (30, .iconst 1, 1), (31, .goto 4, 3), (34, .iconst 0, 1), (35, .istore 4, 2), (37, .iconst 0, 1), (38, .istore 5, 2), (40, .iload 5, 2), (42, .aload_n 0, 1), (43, .getfield 152, 3), (46, .if_icmp .ge 92, 3), (49, .iload 4, 2), (51, .ifCond .ne 74, 3), (54, .iload_n 3, 1), (55, .iconst 4, 1), (56, .if_icmp .ne 49, 3), (59, .aload_n 0, 1), (60, .getfield 7, 3), (63, .aload_n 0, 1), (64, .getfield 94, 3), (67, .iload 5, 2), (69, .iaload, 1), (70, .iaload, 1), (71, .iconst 3, 1), (72, .if_icmp .ne 33, 3), (75, .aload_n 0, 1), (76, .aload_n 0, 1), (77, .getfield 7, 3), (80, .aload_n 0, 1), (81, .getfield 94, 3), (84, .iload 5, 2), (86, .iaload, 1), (87, .invokevirtual 139, 3), (90, .aload_n 0, 1), (91, .getfield 7, 3), (94, .aload_n 0, 1), (95, .iload_n 2, 1), (96, .invokevirtual 282, 3), (99, .iconst 1, 1), (100, .iadd, 1), (101, .iaload, 1), (102, .if_icmp .eq 23, 3), (105, .iload_n 3, 1), (106, .iconst 3, 1), (107, .if_icmp .ge 22, 3), (110, .aload_n 0, 1), (111, .aload_n 0, 1), (112, .getfield 94, 3), (115, .iload 5, 2), (117, .iaload, 1), (118, .iload_n 2, 1), (119, .invokevirtual 288, 3), (122, .ifCond .eq 7, 3), (125, .iconst 1, 1), (126, .goto 4, 3), (129, .iconst 0, 1), (130, .istore 4, 2), (132, .iinc 5 1, 3), (135, .goto (-95), 3), (138, .iload 4, 2), (140, .ireturn, 1)]
def MX12_fits : x_MT := (RX12, yX12_fits, cX12_fits, 6, some .boolean, 6, 143, iX12_fits)
theorem okX12_fits : x_MOk MX12_fits := ⟨by decide +kernel, tb8_of 112 rfl rfl, by decide +kernel, rfl, tb1_of 13 rfl rfl, by decide +kernel⟩
def iX12_fitsAll : List (Nat × Instr × Nat) := [(0, .iconst 1, 1), (1, .istore_n 2, 1), (2, .iconst 0, 1), (3, .istore_n 3, 1), (4, .iload_n 3, 1), (5, .aload_n 0, 1), (6, .getfield 279, 3), (9, .if_icmp .ge 20, 3), (12, .iload_n 2, 1), (13, .ifCond .eq 16, 3), (16, .aload_n 0, 1), (17, .iload_n 1, 1), (18, .iload_n 3, 1), (19, .invokevirtual 291, 3), (22, .istore_n 2, 1), (23, .iinc 3 1, 3), (26, .goto (-22), 3), (29, .iload_n 2, 1), (30, .ireturn, 1)]
def MX12_fitsAll : x_MT := (RX12, yX12_fitsAll, cX12_fitsAll, 4, some .boolean, 7, 168, iX12_fitsAll)
theorem okX12_fitsAll : x_MOk MX12_fitsAll := ⟨by decide +kernel, tb8_of 108 rfl rfl, by decide +kernel, rfl, tb1_of 13 rfl rfl, by decide +kernel⟩
def iX12_lookFilter : List (Nat × Instr × Nat) := [(0, .iconst 0, 1), (1, .istore_n 2, 1), (2, .iload_n 2, 1), (3, .aload_n 0, 1), (4, .getfield 279, 3), (7, .if_icmp .ge 36, 3), (10, .aload_n 0, 1), (11, .getfield 35, 3), (14, .iload_n 2, 1), (15, .iaload, 1), (16, .aload_n 0, 1), (17, .getfield 26, 3), (20, .iload_n 1, 1), (21, .iaload, 1), (22, .if_icmp .ne 15, 3), (25, .aload_n 0, 1), (26, .getfield 38, 3), (29, .iload_n 2, 1), (30, .iaload, 1), (31, .iconst 3, 1), (32, .if_icmp .ge 5, 3), (35, .iload_n 2, 1), (36, .ireturn, 1), (37, .iinc 2 1, 3), (40, .goto (-38), 3), (43, .iconst (-1), 1), (44, .ireturn, 1)]
def MX12_lookFilter : x_MT := (RX12, yX12_lookFilter, cX12_lookFilter, 3, some .int, 0, 0, iX12_lookFilter)
theorem okX12_lookFilter : x_MOk MX12_lookFilter := ⟨by decide +kernel, tb8_of 88 rfl rfl, by decide +kernel, rfl, tb1_of 13 rfl rfl, by decide +kernel⟩
def iX12_looked : List (Nat × Instr × Nat) := [(0, .iload_n 1, 1), (1, .iconst (-1), 1), (2, .if_icmp .ne 8, 3), (5, .aload_n 0, 1), (6, .getfield 227, 3), (9, .ireturn, 1), (10, .aload_n 0, 1), (11, .iload_n 1, 1), (12, .invokevirtual 294, 3), (15, .istore_n 2, 1), (16, .iconst 0, 1), (17, .istore_n 3, 1), (18, .iconst 0, 1), (19, .istore 4, 2), (21, .iload 4, 2), (23, .bipush 100, 2), (25, .if_icmp .ge 142, 3), (28, .iconst 0, 1), (29, .istore 5, 2), (31, .aload_n 0, 1), (32, .getfield 13, 3), (35, .iload 4, 2), (37, .baload, 1), (38, .ifCond .eq 110, 3), (41, .aload_n 0, 1), (42, .iload 4, 2), (44, .aload_n 0, 1), (45, .getfield 26, 3), (48, .iload_n 1, 1), (49, .iaload, 1), (50, .invokevirtual 285, 3), (53, .iconst 0, 1), (54, .istore 6, 2), (56, .iload 6, 2), (58, .aload_n 0, 1), (59, .getfield 152, 3), (62, .if_icmp .ge 36, 3), (65, .iload 5, 2), (67, .ifCond .ne 18, 3), (70, .aload_n 0, 1), (71, .aload_n 0, 1), (72, .getfield 94, 3), (75, .iload 6, 2), (77, .iaload, 1), (78, .iload_n 2, 1), (79, .invokevirtual 288, 3), (82, .ifCond .eq 7, 3), (85, .iconst 1, 1), (86, .goto 4, 3), (89, .iconst 0, 1), (90, .istore 5, 2), (92, .iinc 6 1, 3), (95, .goto (-39), 3), (98, .iload 5, 2), (100, .ifCond .ne 41, 3), (103, .aload_n 0, 1), (104, .getfield 152, 3), (107, .ifCond .ne 38, 3), (110, .aload_n 0, 1), (111, .getfield 32, 3), (114, .iload_n 1, 1), (115, .baload, 1), (116, .ifCond .ne 29, 3), (119, .aload_n 0, 1), (120, .getfield 38, 3), (123, .iload_n 2, 1), (124, .iaload, 1), (125, .ifCond .ne 20, 3), (128, .aload_n 0, 1), (129, .getfield 7, 3), (132, .aload_n 0, 1), (133, .iload_n 2, 1), (134, .invokevirtual 282, 3), (137, .iaload, 1), (138, .ifCond .ne 7, 3), (141, .iconst 1, 1), (142, .goto 4, 3), (145, .iconst 0, 1), (146, .istore 5, 2), (148, .iload_n 3, 1), (149, .iload 5, 2), (151, .ifCond .eq 7, 3), (154, .iconst 1, 1), (155, .goto 4, 3), (158, .iconst 0, 1), (159, .iadd, 1), (160, .istore_n 3, 1), (161, .iinc 4 1, 3), (164, .goto (-143), 3), (167, .iload_n 3, 1), (168, .ireturn, 1)]
def MX12_looked : x_MT := (RX12, yX12_looked, cX12_looked, 7, some .int, 6, 143, iX12_looked)
theorem okX12_looked : x_MOk MX12_looked := ⟨by decide +kernel, tb8_of 84 rfl rfl, by decide +kernel, rfl, tb1_of 13 rfl rfl, by decide +kernel⟩
def iX12_shape : List (Nat × Instr × Nat) := [(0, .lconst 0, 1), (1, .lstore_n 1, 1), (2, .aload_n 0, 1), (3, .getfield 279, 3), (6, .iconst 1, 1), (7, .isub, 1), (8, .istore_n 3, 1), (9, .iload_n 3, 1), (10, .ifCond .lt 37, 3), (13, .ldc2_w 297, 3), (16, .lload_n 1, 1), (17, .lmul, 1), (18, .ldc2_w 299, 3), (21, .aload_n 0, 1), (22, .getfield 35, 3), (25, .iload_n 3, 1), (26, .iaload, 1), (27, .i2l, 1), (28, .lmul, 1), (29, .ladd, 1), (30, .aload_n 0, 1), (31, .getfield 38, 3), (34, .iload_n 3, 1), (35, .iaload, 1), (36, .i2l, 1), (37, .ladd, 1), (38, .lconst 1, 1), (39, .ladd, 1), (40, .lstore_n 1, 1), (41, .iinc 3 (-1), 3), (44, .goto (-35), 3), (47, .lload_n 1, 1), (48, .lreturn, 1)]
def MX12_shape : x_MT := (RX12, yX12_shape, cX12_shape, 4, some .long, 0, 0, iX12_shape)
theorem okX12_shape : x_MOk MX12_shape := ⟨by decide +kernel, tb8_of 78 rfl rfl, by decide +kernel, rfl, tb1_of 13 rfl rfl, by decide +kernel⟩
def iX12_find : List (Nat × Instr × Nat) := [(0, .aload_n 0, 1), (1, .iload_n 1, 1), (2, .iconst 0, 1), (3, .iconst 1, 1), (4, .invokestatic 175, 3), (7, .iconst 1, 1), (8, .iconst 1, 1), (9, .invokevirtual 167, 3), (12, .ifCond .ne 5, 3), (15, .iconst 0, 1), (16, .ireturn, 1), (17, .aload_n 0, 1), (18, .iload_n 1, 1), (19, .invokevirtual 234, 3), (22, .aload_n 0, 1), (23, .invokevirtual 301, 3), (26, .lstore_n 2, 1), (27, .iconst (-1), 1), (28, .istore 4, 2), (30, .iconst 0, 1), (31, .istore 5, 2), (33, .iload 5, 2), (35, .aload_n 0, 1), (36, .getfield 270, 3), (39, .if_icmp .ge 30, 3), (42, .aload_n 0, 1), (43, .getfield 41, 3), (46, .iload 5, 2), (48, .laload, 1), (49, .lload_n 2, 1), (50, .lcmp, 1), (51, .ifCond .ne 8, 3), (54, .iload 5, 2), (56, .goto 5, 3), (59, .iload 4, 2), (61, .istore 4, 2), (63, .iinc 5 1, 3), (66, .goto (-33), 3), (69, .aload_n 0, 1), (70, .getfield 51, 3), (73, .iconst 2, 1), (74, .iconst 0, 1), (75, .iastore, 1), (76, .aload_n 0, 1), (77, .getfield 51, 3), (80, .iconst 3, 1), (81, .iconst 0, 1), (82, .iastore, 1), (83, .iload 4, 2), (85, .iconst (-1), 1), (86, .if_icmp .eq 69, 3), (89, .aload_n 0, 1), (90, .getfield 51, 3), (93, .iconst 0, 1), (94, .aload_n 0, 1), (95, .getfield 45, 3), (98, .iload 4, 2), (100, .iaload, 1), (101, .iastore, 1), (102, .aload_n 0, 1), (103, .getfield 51, 3), (106, .iconst 1, 1), (107, .aload_n 0, 1), (108, .aload_n 0, 1), (109, .getfield 45, 3), (112, .iload 4, 2), (114, .iaload, 1), (115, .invokevirtual 305, 3), (118, .iastore, 1), (119, .aload_n 0, 1), (120, .getfield 51, 3), (123, .iconst 1, 1), (124, .iaload, 1), (125, .iconst 2, 1), (126, .aload_n 0, 1), (127, .getfield 48, 3), (130, .iload 4, 2), (132, .iaload, 1), (133, .imul, 1), (134, .iconst 2, 1), (135, .iadd, 1), (136, .if_icmp .le 19, 3), (139, .aload_n 0, 1), (140, .iload 4, 2), (142, .invokevirtual 276, 3), (145, .iconst (-1), 1), (146, .istore 4, 2), (148, .aload_n 0, 1), (149, .getfield 51, 3), (152, .iconst 3, 1), (153, .iconst 1, 1), (154, .iastore, 1), (155, .iload 4, 2), (157, .iconst (-1), 1), (158, .if_icmp .ne 233, 3), (161, .iconst (-1), 1), (162, .istore 5, 2), (164, .iconst (-1), 1), (165, .istore 6, 2), (167, .iconst 0, 1), (168, .istore 7, 2), (170, .iload 7, 2), (172, .iconst 3, 1), (173, .if_icmp .ge 91, 3), (176, .aload_n 0, 1), (177, .getfield 29, 3), (180, .iload 7, 2), (182, .baload, 1), (183, .ifCond .eq 75, 3), (186, .aload_n 0, 1), (187, .iload 7, 2), (189, .invokevirtual 294, 3), (192, .iconst (-1), 1), (193, .if_icmp .eq 65, 3), (196, .aload_n 0, 1), (197, .iload 7, 2), (199, .invokevirtual 305, 3), (202, .istore 8, 2), (204, .aload_n 0, 1), (205, .getfield 51, 3), (208, .iconst 2, 1), (209, .dup2, 1), (210, .iaload, 1), (211, .iconst 1, 1), (212, .iadd, 1), (213, .iastore, 1), (214, .iload 6, 2), (216, .iconst (-1), 1), (217, .if_icmp .eq 10, 3), (220, .iload 8, 2), (222, .iload 6, 2), (224, .if_icmp .ge 8, 3), (227, .iload 7, 2), (229, .goto 5, 3), (232, .iload 5, 2), (234, .istore 5, 2), (236, .iload 6, 2), (238, .iconst (-1), 1), (239, .if_icmp .eq 10, 3), (242, .iload 8, 2), (244, .iload 6, 2), (246, .if_icmp .ge 8, 3), (249, .iload 8, 2), (251, .goto 5, 3), (254, .iload 6, 2), (256, .istore 6, 2), (258, .iinc 7 1, 3), (261, .goto (-91), 3), (264, .aload_n 0, 1), (265, .getfield 51, 3), (268, .iconst 2, 1), (269, .dup2, 1), (270, .iaload, 1), (271, .iconst 1, 1), (272, .iadd, 1), (273, .iastore, 1), (274, .iload 6, 2), (276, .iconst (-1), 1), (277, .if_icmp .eq 12, 3), (280, .aload_n 0, 1), (281, .getfield 227, 3), (284, .iload 6, 2), (286, .if_icmp .ge 7, 3), (289, .iconst (-1), 1), (290, .goto 5, 3), (293, .iload 5, 2), (295, .istore 5, 2), (297, .iload 6, 2), (299, .iconst (-1), 1), (300, .if_icmp .eq 12, 3), (303, .aload_n 0, 1), (304, .getfield 227, 3), (307, .iload 6, 2), (309, .if_icmp .ge 10, 3), (312, .aload_n 0, 1), (313, .getfield 227, 3), (316, .goto 5, 3), (319, .iload 6, 2), (321, .istore 6, 2), (323, .aload_n 0, 1), (324, .getfield 51, 3), (327, .iconst 0, 1), (328, .iload 5, 2), (330, .iastore, 1), (331, .aload_n 0, 1), (332, .getfield 51, 3), (335, .iconst 1, 1), (336, .iload 6, 2), (338, .iastore, 1), (339, .aload_n 0, 1), (340, .getfield 270, 3), (343, .sipush 3000, 3), (346, .if_icmp .ge 45, 3), (349, .aload_n 0, 1), (350, .getfield 41, 3), (353, .aload_n 0, 1), (354, .getfield 270, 3), (357, .lload_n 2, 1), (358, .lastore, 1), (359, .aload_n 0, 1), (360, .getfield 45, 3), (363, .aload_n 0, 1), (364, .getfield 270, 3), (367, .iload 5, 2), (369, .iastore, 1), (370, .aload_n 0, 1), (371, .getfield 48, 3), (374, .aload_n 0, 1), (375, .getfield 270, 3), (378, .iload 6, 2), (380, .iastore, 1), (381, .aload_n 0, 1), (382, .dup, 1), (383, .getfield 270, 3), (386, .iconst 1, 1), (387, .iadd, 1), (388, .putfield 270, 3), (391, .aload_n 0, 1), (392, .iconst 0, 1), (393, .putfield 308, 3), (396, .iconst 0, 1), (397, .istore 5, 2), (399, .iload 5, 2), (401, .bipush 100, 2), (403, .if_icmp .ge 49, 3), (406, .aload_n 0, 1), (407, .getfield 13, 3), (410, .iload 5, 2), (412, .baload, 1), (413, .ifCond .eq 33, 3), (416, .aload_n 0, 1), (417, .iload 5, 2), (419, .invokevirtual 311, 3), (422, .ifCond .eq 24, 3), (425, .aload_n 0, 1), (426, .getfield 54, 3), (429, .aload_n 0, 1), (430, .getfield 308, 3), (433, .iload 5, 2), (435, .iastore, 1), (436, .aload_n 0, 1), (437, .dup, 1), (438, .getfield 308, 3), (441, .iconst 1, 1), (442, .iadd, 1), (443, .putfield 308, 3), (446, .iinc 5 1, 3), (449, .goto (-50), 3), (452, .aload_n 0, 1), (453, .getfield 308, 3), (456, .ireturn, 1)]
def MX12_find : x_MT := (RX12, yX12_find, cX12_find, 9, some .int, 8, 191, iX12_find)
theorem okX12_find : x_MOk MX12_find := ⟨by decide +kernel, tb8_of 74 rfl rfl, by decide +kernel, rfl, tb1_of 13 rfl rfl, by decide +kernel⟩
def iX12_found : List (Nat × Instr × Nat) := [(0, .aload_n 0, 1), (1, .iload_n 1, 1), (2, .iconst 0, 1), (3, .aload_n 0, 1), (4, .getfield 308, 3), (7, .iconst 1, 1), (8, .isub, 1), (9, .invokestatic 175, 3), (12, .iconst 1, 1), (13, .iconst 1, 1), (14, .invokevirtual 167, 3), (17, .ifCond .eq 12, 3), (20, .aload_n 0, 1), (21, .getfield 54, 3), (24, .iload_n 1, 1), (25, .iaload, 1), (26, .goto 4, 3), (29, .iconst 0, 1), (30, .ireturn, 1)]
def MX12_found : x_MT := (RX12, yX12_found, cX12_found, 2, some .int, 1, 23, iX12_found)
theorem okX12_found : x_MOk MX12_found := ⟨by decide +kernel, tb8_of 120 rfl rfl, by decide +kernel, rfl, tb1_of 13 rfl rfl, by decide +kernel⟩
def iX12_findAnew : List (Nat × Instr × Nat) := [(0, .aload_n 0, 1), (1, .iconst 0, 1), (2, .putfield 118, 3), (5, .iconst 0, 1), (6, .istore_n 1, 1), (7, .iconst 0, 1), (8, .istore_n 2, 1), (9, .iload_n 2, 1), (10, .bipush 100, 2), (12, .if_icmp .ge 34, 3), (15, .iload_n 1, 1), (16, .aload_n 0, 1), (17, .getfield 13, 3), (20, .iload_n 2, 1), (21, .baload, 1), (22, .ifCond .eq 15, 3), (25, .aload_n 0, 1), (26, .iload_n 2, 1), (27, .invokevirtual 311, 3), (30, .ifCond .eq 7, 3), (33, .iconst 1, 1), (34, .goto 4, 3), (37, .iconst 0, 1), (38, .iadd, 1), (39, .istore_n 1, 1), (40, .iinc 2 1, 3), (43, .goto (-34), 3), (46, .iload_n 1, 1), (47, .ireturn, 1)]
def MX12_findAnew : x_MT := (RX12, yX12_findAnew, cX12_findAnew, 3, some .int, 8, 191, iX12_findAnew)
theorem okX12_findAnew : x_MOk MX12_findAnew := ⟨by decide +kernel, tb8_of 124 rfl rfl, by decide +kernel, rfl, tb1_of 13 rfl rfl, by decide +kernel⟩
def iX12_plan : List (Nat × Instr × Nat) := [(0, .aload_n 0, 1), (1, .iload_n 1, 1), (2, .iconst 0, 1), (3, .iconst 4, 1), (4, .invokestatic 175, 3), (7, .iconst 1, 1), (8, .iconst 1, 1), (9, .invokevirtual 167, 3), (12, .ifCond .eq 24, 3), (15, .iload_n 1, 1), (16, .iconst 4, 1), (17, .if_icmp .ne 10, 3), (20, .aload_n 0, 1), (21, .getfield 270, 3), (24, .goto 13, 3), (27, .aload_n 0, 1), (28, .getfield 51, 3), (31, .iload_n 1, 1), (32, .iaload, 1), (33, .goto 4, 3), (36, .iconst 0, 1), (37, .ireturn, 1)]
def MX12_plan : x_MT := (RX12, yX12_plan, cX12_plan, 2, some .int, 1, 23, iX12_plan)
theorem okX12_plan : x_MOk MX12_plan := ⟨by decide +kernel, tb8_of 128 rfl rfl, by decide +kernel, rfl, tb1_of 13 rfl rfl, by decide +kernel⟩
def iX12_groupsAt : List (Nat × Instr × Nat) := [(0, .iconst 0, 1), (1, .istore 4, 2), (3, .iload 4, 2), (5, .aload_n 0, 1), (6, .getfield 314, 3), (9, .if_icmp .ge 32, 3), (12, .aload_n 0, 1), (13, .aload_n 0, 1), (14, .getfield 7, 3), (17, .aload_n 0, 1), (18, .getfield 97, 3), (21, .iload 4, 2), (23, .iaload, 1), (24, .aload_n 0, 1), (25, .getfield 7, 3), (28, .iload_n 1, 1), (29, .invokevirtual 253, 3), (32, .ifCond .ge 9, 3), (35, .iinc 4 1, 3), (38, .goto (-35), 3), (41, .iload 4, 2), (43, .aload_n 0, 1), (44, .getfield 314, 3), (47, .if_icmp .eq 26, 3), (50, .aload_n 0, 1), (51, .aload_n 0, 1), (52, .getfield 7, 3), (55, .aload_n 0, 1), (56, .getfield 97, 3), (59, .iload 4, 2), (61, .iaload, 1), (62, .aload_n 0, 1), (63, .getfield 7, 3), (66, .iload_n 1, 1), (67, .invokevirtual 253, 3), (70, .ifCond .eq 104, 3), (73, .aload_n 0, 1), (74, .getfield 314, 3), (77, .istore 5, 2), (79, .iload 5, 2), (81, .iload 4, 2), (83, .if_icmp .le 57, 3), (86, .aload_n 0, 1), (87, .getfield 97, 3), (90, .iload 5, 2), (92, .aload_n 0, 1), (93, .getfield 97, 3), (96, .iload 5, 2), (98, .iconst 1, 1), (99, .isub, 1), (100, .iaload, 1), (101, .iastore, 1), (102, .aload_n 0, 1), (103, .getfield 100, 3), (106, .iload 5, 2), (108, .aload_n 0, 1), (109, .getfield 100, 3), (112, .iload 5, 2), (114, .iconst 1, 1), (115, .isub, 1), (116, .iaload, 1), (117, .iastore, 1), (118, .aload_n 0, 1), (119, .getfield 103, 3), (122, .iload 5, 2), (124, .aload_n 0, 1), (125, .getfield 103, 3), (128, .iload 5, 2), (130, .iconst 1, 1), (131, .isub, 1), (132, .laload, 1), (133, .lastore, 1), (134, .iinc 5 (-1), 3), (137, .goto (-58), 3), (140, .aload_n 0, 1), (141, .getfield 97, 3), (144, .iload 4, 2), (146, .iload_n 1, 1), (147, .iastore, 1), (148, .aload_n 0, 1), (149, .getfield 100, 3), (152, .iload 4, 2), (154, .iconst 0, 1), (155, .iastore, 1), (156, .aload_n 0, 1), (157, .getfield 103, 3), (160, .iload 4, 2), (162, .lconst 0, 1), (163, .lastore, 1), (164, .aload_n 0, 1), (165, .dup, 1), (166, .getfield 314, 3), (169, .iconst 1, 1), (170, .iadd, 1), (171, .putfield 314, 3), (174, .aload_n 0, 1), (175, .getfield 100, 3), (178, .iload 4, 2), (180, .dup2, 1), (181, .iaload, 1), (182, .iconst 1, 1), (183, .iadd, 1), (184, .iastore, 1), (185, .aload_n 0, 1), (186, .getfield 103, 3), (189, .iload 4, 2), (191, .dup2, 1), (192, .laload, 1), (193, .lload_n 2, 1), (194, .ladd, 1), (195, .lastore, 1), (196, .return_, 1)]
def MX12_groupsAt : x_MT := (RX12, yX12_groupsAt, cX12_groupsAt, 6, none, 4, 98, iX12_groupsAt)
theorem okX12_groupsAt : x_MOk MX12_groupsAt := ⟨by decide +kernel, tb8_of 136 rfl rfl, by decide +kernel, rfl, tb1_of 13 rfl rfl, by decide +kernel⟩
def iX12_group : List (Nat × Instr × Nat) := [(0, .aload_n 0, 1), (1, .iload_n 1, 1), (2, .iconst 0, 1), (3, .bipush 71, 2), (5, .invokestatic 175, 3), (8, .ifCond .eq 17, 3), (11, .iload_n 2, 1), (12, .iconst 0, 1), (13, .bipush 71, 2), (15, .invokestatic 175, 3), (18, .ifCond .eq 7, 3), (21, .iconst 1, 1), (22, .goto 4, 3), (25, .iconst 0, 1), (26, .iconst 1, 1), (27, .iconst 1, 1), (28, .invokevirtual 167, 3), (31, .ifCond .ne 5, 3), (34, .iconst 0, 1), (35, .ireturn, 1), (36, .aload_n 0, 1), (37, .iconst 0, 1), (38, .putfield 314, 3), (41, .iconst 0, 1), (42, .istore_n 3, 1), (43, .iload_n 3, 1), (44, .aload_n 0, 1), (45, .getfield 308, 3), (48, .if_icmp .ge 149, 3), (51, .aload_n 0, 1), (52, .getfield 54, 3), (55, .iload_n 3, 1), (56, .iaload, 1), (57, .istore 4, 2), (59, .aload_n 0, 1), (60, .getfield 13, 3), (63, .iload 4, 2), (65, .baload, 1), (66, .ifCond .eq 125, 3), (69, .lconst 0, 1), (70, .lstore 5, 2), (72, .aload_n 0, 1), (73, .iload 4, 2), (75, .iload_n 2, 1), (76, .invokevirtual 285, 3), (79, .iconst 0, 1), (80, .istore 7, 2), (82, .iload 7, 2), (84, .aload_n 0, 1), (85, .getfield 152, 3), (88, .if_icmp .ge 49, 3), (91, .lload 5, 2), (93, .aload_n 0, 1), (94, .getfield 7, 3), (97, .aload_n 0, 1), (98, .getfield 94, 3), (101, .iload 7, 2), (103, .iaload, 1), (104, .iaload, 1), (105, .iconst 1, 1), (106, .if_icmp .ne 21, 3), (109, .aload_n 0, 1), (110, .getfield 7, 3), (113, .aload_n 0, 1), (114, .getfield 94, 3), (117, .iload 7, 2), (119, .iaload, 1), (120, .iconst 1, 1), (121, .iadd, 1), (122, .iaload, 1), (123, .i2l, 1), (124, .goto 4, 3), (127, .lconst 0, 1), (128, .ladd, 1), (129, .lstore 5, 2), (131, .iinc 7 1, 3), (134, .goto (-52), 3), (137, .aload_n 0, 1), (138, .iload 4, 2), (140, .iload_n 1, 1), (141, .invokevirtual 285, 3), (144, .iconst 0, 1), (145, .istore 7, 2), (147, .iload 7, 2), (149, .aload_n 0, 1), (150, .getfield 152, 3), (153, .if_icmp .ge 38, 3), (156, .aload_n 0, 1), (157, .getfield 7, 3), (160, .aload_n 0, 1), (161, .getfield 94, 3), (164, .iload 7, 2), (166, .iaload, 1), (167, .iaload, 1), (168, .iconst 3, 1), (169, .if_icmp .eq 16, 3), (172, .aload_n 0, 1), (173, .aload_n 0, 1), (174, .getfield 94, 3), (177, .iload 7, 2), (179, .iaload, 1), (180, .lload 5, 2), (182, .invokevirtual 317, 3), (185, .iinc 7 1, 3), (188, .goto (-41), 3), (191, .iinc 3 1, 3), (194, .goto (-151), 3), (197, .iconst 0, 1), (198, .istore_n 3, 1), (199, .iload_n 3, 1), (200, .aload_n 0, 1), (201, .getfield 314, 3), (204, .if_icmp .ge 29, 3), (207, .aload_n 0, 1), (208, .getfield 106, 3), (211, .iload_n 3, 1), (212, .aload_n 0, 1), (213, .aload_n 0, 1), (214, .getfield 7, 3), (217, .aload_n 0, 1), (218, .getfield 97, 3), (221, .iload_n 3, 1), (222, .iaload, 1), (223, .invokevirtual 321, 3), (226, .lastore, 1), (227, .iinc 3 1, 3), (230, .goto (-31), 3), (233, .aload_n 0, 1), (234, .getfield 314, 3), (237, .ireturn, 1)]
def MX12_group : x_MT := (RX12, yX12_group, cX12_group, 8, some .int, 6, 143, iX12_group)
theorem okX12_group : x_MOk MX12_group := ⟨by decide +kernel, tb8_of 132 rfl rfl, by decide +kernel, rfl, tb1_of 13 rfl rfl, by decide +kernel⟩
def iX12_grouped : List (Nat × Instr × Nat) := [(0, .aload_n 0, 1), (1, .iload_n 1, 1), (2, .iconst 0, 1), (3, .aload_n 0, 1), (4, .getfield 314, 3), (7, .iconst 1, 1), (8, .isub, 1), (9, .invokestatic 175, 3), (12, .iload_n 2, 1), (13, .iconst 0, 1), (14, .iconst 2, 1), (15, .invokestatic 175, 3), (18, .iconst 1, 1), (19, .invokevirtual 167, 3), (22, .ifCond .ne 5, 3), (25, .lconst 0, 1), (26, .lreturn, 1), (27, .iload_n 2, 1), (28, .ifCond .ne 12, 3), (31, .aload_n 0, 1), (32, .getfield 106, 3), (35, .iload_n 1, 1), (36, .laload, 1), (37, .goto 24, 3), (40, .iload_n 2, 1), (41, .iconst 1, 1), (42, .if_icmp .ne 13, 3), (45, .aload_n 0, 1), (46, .getfield 100, 3), (49, .iload_n 1, 1), (50, .iaload, 1), (51, .i2l, 1), (52, .goto 9, 3), (55, .aload_n 0, 1), (56, .getfield 103, 3), (59, .iload_n 1, 1), (60, .laload, 1), (61, .lreturn, 1)]
def MX12_grouped : x_MT := (RX12, yX12_grouped, cX12_grouped, 3, some .long, 1, 23, iX12_grouped)
theorem okX12_grouped : x_MOk MX12_grouped := ⟨by decide +kernel, tb8_of 146 rfl rfl, by decide +kernel, rfl, tb1_of 13 rfl rfl, by decide +kernel⟩
def iX12_isChunk : List (Nat × Instr × Nat) := [(0, .iload_n 1, 1), (1, .iconst 0, 1), (2, .aload_n 0, 1), (3, .getfield 200, 3), (6, .iconst 1, 1), (7, .isub, 1), (8, .invokestatic 175, 3), (11, .ireturn, 1)]
def MX12_isChunk : x_MT := (RX12, yX12_isChunk, cX12_isChunk, 2, some .boolean, 1, 22, iX12_isChunk)
theorem okX12_isChunk : x_MOk MX12_isChunk := ⟨by decide +kernel, tb8_of 154 rfl rfl, by decide +kernel, rfl, tb1_of 13 rfl rfl, by decide +kernel⟩
def iX12_split : List (Nat × Instr × Nat) := [(0, .aload_n 0, 1), (1, .iload_n 1, 1), (2, .invokevirtual 325, 3), (5, .istore_n 3, 1), (6, .iload_n 3, 1), (7, .ifCond .eq 24, 3), (10, .iload_n 1, 1), (11, .aload_n 0, 1), (12, .getfield 200, 3), (15, .iconst 1, 1), (16, .isub, 1), (17, .if_icmp .ge 14, 3), (20, .aload_n 0, 1), (21, .getfield 57, 3), (24, .iload_n 1, 1), (25, .iconst 1, 1), (26, .iadd, 1), (27, .iaload, 1), (28, .goto 6, 3), (31, .sipush 1000, 3), (34, .istore 4, 2), (36, .iload_n 3, 1), (37, .ifCond .eq 26, 3), (40, .iload_n 2, 1), (41, .aload_n 0, 1), (42, .getfield 57, 3), (45, .iload_n 1, 1), (46, .iaload, 1), (47, .iconst 1, 1), (48, .iadd, 1), (49, .iload 4, 2), (51, .iconst 1, 1), (52, .isub, 1), (53, .invokestatic 175, 3), (56, .ifCond .eq 7, 3), (59, .iconst 1, 1), (60, .goto 4, 3), (63, .iconst 0, 1), (64, .istore 5, 2), (66, .aload_n 0, 1), (67, .iload_n 3, 1), (68, .iload 5, 2), (70, .iload 5, 2), (72, .ifCond .eq 29, 3), (75, .aload_n 0, 1), (76, .getfield 57, 3), (79, .iload_n 1, 1), (80, .iaload, 1), (81, .aload_n 0, 1), (82, .getfield 63, 3), (85, .if_icmp .eq 16, 3), (88, .aload_n 0, 1), (89, .getfield 200, 3), (92, .bipush 12, 2), (94, .if_icmp .ge 7, 3), (97, .iconst 1, 1), (98, .goto 4, 3), (101, .iconst 0, 1), (102, .invokevirtual 167, 3), (105, .ifCond .ne 5, 3), (108, .iconst 0, 1), (109, .ireturn, 1), (110, .aload_n 0, 1), (111, .getfield 200, 3), (114, .istore 6, 2), (116, .iload 6, 2), (118, .iload_n 1, 1), (119, .iconst 1, 1), (120, .iadd, 1), (121, .if_icmp .le 41, 3), (124, .aload_n 0, 1), (125, .getfield 57, 3), (128, .iload 6, 2), (130, .aload_n 0, 1), (131, .getfield 57, 3), (134, .iload 6, 2), (136, .iconst 1, 1), (137, .isub, 1), (138, .iaload, 1), (139, .iastore, 1), (140, .aload_n 0, 1), (141, .getfield 60, 3), (144, .iload 6, 2), (146, .aload_n 0, 1), (147, .getfield 60, 3), (150, .iload 6, 2), (152, .iconst 1, 1), (153, .isub, 1), (154, .iaload, 1), (155, .iastore, 1), (156, .iinc 6 (-1), 3), (159, .goto (-43), 3), (162, .aload_n 0, 1), (163, .getfield 57, 3), (166, .iload_n 1, 1), (167, .iconst 1, 1), (168, .iadd, 1), (169, .iload_n 2, 1), (170, .iastore, 1), (171, .aload_n 0, 1), (172, .getfield 60, 3), (175, .iload_n 1, 1), (176, .iconst 1, 1), (177, .iadd, 1), (178, .aload_n 0, 1), (179, .getfield 60, 3), (182, .iload_n 1, 1), (183, .iaload, 1), (184, .iastore, 1), (185, .aload_n 0, 1), (186, .dup, 1), (187, .getfield 200, 3), (190, .iconst 1, 1), (191, .iadd, 1), (192, .putfield 200, 3), (195, .aload_n 0, 1), (196, .dup, 1), (197, .getfield 73, 3), (200, .iconst 1, 1), (201, .iadd, 1), (202, .putfield 73, 3), (205, .aload_n 0, 1), (206, .getfield 200, 3), (209, .ireturn, 1)]
def MX12_split : x_MT := (RX12, yX12_split, cX12_split, 7, some .int, 2, 43, iX12_split)
theorem okX12_split : x_MOk MX12_split := ⟨by decide +kernel, tb8_of 150 rfl rfl, by decide +kernel, rfl, tb1_of 13 rfl rfl, by decide +kernel⟩
def iX12_documentsOf : List (Nat × Instr × Nat) := [(0, .iconst 0, 1), (1, .istore_n 2, 1), (2, .iconst 0, 1), (3, .istore_n 3, 1), (4, .iload_n 3, 1), (5, .bipush 100, 2), (7, .if_icmp .ge 35, 3), (10, .iload_n 2, 1), (11, .aload_n 0, 1), (12, .getfield 13, 3), (15, .iload_n 3, 1), (16, .baload, 1), (17, .ifCond .eq 16, 3), (20, .aload_n 0, 1), (21, .iload_n 3, 1), (22, .invokevirtual 217, 3), (25, .iload_n 1, 1), (26, .if_icmp .ne 7, 3), (29, .iconst 1, 1), (30, .goto 4, 3), (33, .iconst 0, 1), (34, .iadd, 1), (35, .istore_n 2, 1), (36, .iinc 3 1, 3), (39, .goto (-35), 3), (42, .iload_n 2, 1), (43, .ireturn, 1)]
def MX12_documentsOf : x_MT := (RX12, yX12_documentsOf, cX12_documentsOf, 4, some .int, 6, 140, iX12_documentsOf)
theorem okX12_documentsOf : x_MOk MX12_documentsOf := ⟨by decide +kernel, tb8_of 166 rfl rfl, by decide +kernel, rfl, tb1_of 13 rfl rfl, by decide +kernel⟩
def iX12_copies : List (Nat × Instr × Nat) := [(0, .iconst 0, 1), (1, .istore_n 1, 1), (2, .iconst 0, 1), (3, .istore_n 2, 1), (4, .iload_n 2, 1), (5, .bipush 100, 2), (7, .if_icmp .ge 35, 3), (10, .iload_n 1, 1), (11, .aload_n 0, 1), (12, .getfield 13, 3), (15, .iload_n 2, 1), (16, .baload, 1), (17, .ifCond .eq 16, 3), (20, .aload_n 0, 1), (21, .getfield 67, 3), (24, .iload_n 2, 1), (25, .baload, 1), (26, .ifCond .eq 7, 3), (29, .iconst 1, 1), (30, .goto 4, 3), (33, .iconst 0, 1), (34, .iadd, 1), (35, .istore_n 1, 1), (36, .iinc 2 1, 3), (39, .goto (-35), 3), (42, .iload_n 1, 1), (43, .ireturn, 1)]
def MX12_copies : x_MT := (RX12, yX12_copies, cX12_copies, 3, some .int, 0, 0, iX12_copies)
theorem okX12_copies : x_MOk MX12_copies := ⟨by decide +kernel, tb8_of 174 rfl rfl, by decide +kernel, rfl, tb1_of 13 rfl rfl, by decide +kernel⟩
def iX12_forgets : List (Nat × Instr × Nat) := [(0, .iconst 0, 1), (1, .istore_n 1, 1), (2, .iload_n 1, 1), (3, .bipush 100, 2), (5, .if_icmp .ge 16, 3), (8, .aload_n 0, 1), (9, .getfield 67, 3), (12, .iload_n 1, 1), (13, .iconst 0, 1), (14, .bastore, 1), (15, .iinc 1 1, 3), (18, .goto (-16), 3), (21, .return_, 1)]
def MX12_forgets : x_MT := (RX12, yX12_forgets, cX12_forgets, 2, none, 0, 0, iX12_forgets)
theorem okX12_forgets : x_MOk MX12_forgets := ⟨by decide +kernel, tb8_of 162 rfl rfl, by decide +kernel, rfl, tb1_of 13 rfl rfl, by decide +kernel⟩
def iX12_move : List (Nat × Instr × Nat) := [(0, .aload_n 0, 1), (1, .iload_n 1, 1), (2, .invokevirtual 325, 3), (5, .istore_n 3, 1), (6, .iload_n 2, 1), (7, .iconst 0, 1), (8, .iconst 2, 1), (9, .invokestatic 175, 3), (12, .istore 4, 2), (14, .aload_n 0, 1), (15, .iload_n 3, 1), (16, .iload 4, 2), (18, .iload_n 3, 1), (19, .ifCond .eq 30, 3), (22, .iload 4, 2), (24, .ifCond .eq 25, 3), (27, .aload_n 0, 1), (28, .getfield 60, 3), (31, .iload_n 1, 1), (32, .iaload, 1), (33, .iload_n 2, 1), (34, .if_icmp .eq 15, 3), (37, .aload_n 0, 1), (38, .getfield 63, 3), (41, .iconst (-1), 1), (42, .if_icmp .ne 7, 3), (45, .iconst 1, 1), (46, .goto 4, 3), (49, .iconst 0, 1), (50, .invokevirtual 167, 3), (53, .ifCond .ne 5, 3), (56, .iconst 0, 1), (57, .ireturn, 1), (58, .aload_n 0, 1), (59, .aload_n 0, 1), (60, .getfield 57, 3), (63, .iload_n 1, 1), (64, .iaload, 1), (65, .putfield 63, 3), (68, .aload_n 0, 1), (69, .iload_n 2, 1), (70, .putfield 328, 3), (73, .aload_n 0, 1), (74, .invokevirtual 331, 3), (77, .aload_n 0, 1), (78, .iload_n 1, 1), (79, .invokevirtual 334, 3), (82, .ireturn, 1)]
def MX12_move : x_MT := (RX12, yX12_move, cX12_move, 5, some .int, 7, 163, iX12_move)
theorem okX12_move : x_MOk MX12_move := ⟨by decide +kernel, tb8_of 158 rfl rfl, by decide +kernel, rfl, tb1_of 13 rfl rfl, by decide +kernel⟩
def iX12_copy : List (Nat × Instr × Nat) := [(0, .aload_n 0, 1), (1, .iload_n 1, 1), (2, .iconst 1, 1), (3, .bipush 20, 2), (5, .invokestatic 175, 3), (8, .aload_n 0, 1), (9, .getfield 63, 3), (12, .iconst (-1), 1), (13, .if_icmp .eq 7, 3), (16, .iconst 1, 1), (17, .goto 4, 3), (20, .iconst 0, 1), (21, .iconst 1, 1), (22, .invokevirtual 167, 3), (25, .ifCond .ne 5, 3), (28, .iconst 0, 1), (29, .ireturn, 1), (30, .aload_n 0, 1), (31, .invokevirtual 240, 3), (34, .istore_n 2, 1), (35, .iload_n 1, 1), (36, .istore_n 3, 1), (37, .iconst 0, 1), (38, .istore 4, 2), (40, .iload 4, 2), (42, .bipush 100, 2), (44, .if_icmp .ge 54, 3), (47, .aload_n 0, 1), (48, .getfield 13, 3), (51, .iload 4, 2), (53, .baload, 1), (54, .ifCond .eq 38, 3), (57, .aload_n 0, 1), (58, .getfield 67, 3), (61, .iload 4, 2), (63, .baload, 1), (64, .ifCond .ne 28, 3), (67, .iload_n 3, 1), (68, .ifCond .le 24, 3), (71, .aload_n 0, 1), (72, .iload 4, 2), (74, .invokevirtual 217, 3), (77, .iload_n 2, 1), (78, .if_icmp .ne 14, 3), (81, .aload_n 0, 1), (82, .getfield 67, 3), (85, .iload 4, 2), (87, .iconst 1, 1), (88, .bastore, 1), (89, .iinc 3 (-1), 3), (92, .iinc 4 1, 3), (95, .goto (-55), 3), (98, .aload_n 0, 1), (99, .iload_n 2, 1), (100, .invokevirtual 334, 3), (103, .aload_n 0, 1), (104, .invokevirtual 337, 3), (107, .isub, 1), (108, .ireturn, 1)]
def MX12_copy : x_MT := (RX12, yX12_copy, cX12_copy, 5, some .int, 7, 163, iX12_copy)
theorem okX12_copy : x_MOk MX12_copy := ⟨by decide +kernel, tb8_of 170 rfl rfl, by decide +kernel, rfl, tb1_of 13 rfl rfl, by decide +kernel⟩
def iX12_handOver : List (Nat × Instr × Nat) := [(0, .aload_n 0, 1), (1, .getfield 63, 3), (4, .iconst (-1), 1), (5, .if_icmp .ne 7, 3), (8, .iconst 0, 1), (9, .goto 11, 3), (12, .aload_n 0, 1), (13, .aload_n 0, 1), (14, .invokevirtual 240, 3), (17, .invokevirtual 334, 3), (20, .istore_n 1, 1), (21, .aload_n 0, 1), (22, .aload_n 0, 1), (23, .getfield 63, 3), (26, .iconst (-1), 1), (27, .if_icmp .eq 15, 3), (30, .aload_n 0, 1), (31, .invokevirtual 337, 3), (34, .iload_n 1, 1), (35, .if_icmp .ne 7, 3), (38, .iconst 1, 1), (39, .goto 4, 3), (42, .iconst 0, 1), (43, .iconst 1, 1), (44, .iconst 1, 1), (45, .invokevirtual 167, 3), (48, .ifCond .ne 5, 3), (51, .iconst 0, 1), (52, .ireturn, 1), (53, .aload_n 0, 1), (54, .invokevirtual 240, 3), (57, .istore_n 2, 1), (58, .aload_n 0, 1), (59, .getfield 70, 3), (62, .aload_n 0, 1), (63, .getfield 60, 3), (66, .iload_n 2, 1), (67, .iaload, 1), (68, .dup2, 1), (69, .iaload, 1), (70, .iload_n 1, 1), (71, .iadd, 1), (72, .iastore, 1), (73, .aload_n 0, 1), (74, .getfield 60, 3), (77, .iload_n 2, 1), (78, .aload_n 0, 1), (79, .getfield 328, 3), (82, .iastore, 1), (83, .aload_n 0, 1), (84, .iconst (-1), 1), (85, .putfield 63, 3), (88, .aload_n 0, 1), (89, .invokevirtual 331, 3), (92, .aload_n 0, 1), (93, .dup, 1), (94, .getfield 73, 3), (97, .iconst 1, 1), (98, .iadd, 1), (99, .putfield 73, 3), (102, .iload_n 1, 1), (103, .ireturn, 1)]
def MX12_handOver : x_MT := (RX12, yX12_handOver, cX12_handOver, 3, some .int, 7, 163, iX12_handOver)
theorem okX12_handOver : x_MOk MX12_handOver := ⟨by decide +kernel, tb8_of 178 rfl rfl, by decide +kernel, rfl, tb1_of 13 rfl rfl, by decide +kernel⟩
def iX12_giveUp : List (Nat × Instr × Nat) := [(0, .aload_n 0, 1), (1, .aload_n 0, 1), (2, .getfield 63, 3), (5, .iconst (-1), 1), (6, .if_icmp .eq 7, 3), (9, .iconst 1, 1), (10, .goto 4, 3), (13, .iconst 0, 1), (14, .iconst 1, 1), (15, .iconst 1, 1), (16, .invokevirtual 167, 3), (19, .ifCond .ne 5, 3), (22, .iconst 0, 1), (23, .ireturn, 1), (24, .aload_n 0, 1), (25, .invokevirtual 337, 3), (28, .istore_n 1, 1), (29, .aload_n 0, 1), (30, .iconst (-1), 1), (31, .putfield 63, 3), (34, .aload_n 0, 1), (35, .invokevirtual 331, 3), (38, .iload_n 1, 1), (39, .ireturn, 1)]
def MX12_giveUp : x_MT := (RX12, yX12_giveUp, cX12_giveUp, 2, some .int, 1, 23, iX12_giveUp)
theorem okX12_giveUp : x_MOk MX12_giveUp := ⟨by decide +kernel, tb8_of 182 rfl rfl, by decide +kernel, rfl, tb1_of 13 rfl rfl, by decide +kernel⟩
def iX12_clean : List (Nat × Instr × Nat) := [(0, .aload_n 0, 1), (1, .iload_n 1, 1), (2, .iconst 0, 1), (3, .iconst 2, 1), (4, .invokestatic 175, 3), (7, .iconst 1, 1), (8, .iconst 1, 1), (9, .invokevirtual 167, 3), (12, .ifCond .ne 5, 3), (15, .iconst 0, 1), (16, .ireturn, 1), (17, .aload_n 0, 1), (18, .getfield 70, 3), (21, .iload_n 1, 1), (22, .iaload, 1), (23, .istore_n 2, 1), (24, .aload_n 0, 1), (25, .getfield 70, 3), (28, .iload_n 1, 1), (29, .iconst 0, 1), (30, .iastore, 1), (31, .iload_n 2, 1), (32, .ireturn, 1)]
def MX12_clean : x_MT := (RX12, yX12_clean, cX12_clean, 3, some .int, 1, 23, iX12_clean)
theorem okX12_clean : x_MOk MX12_clean := ⟨by decide +kernel, tb8_of 186 rfl rfl, by decide +kernel, rfl, tb1_of 13 rfl rfl, by decide +kernel⟩
def iX12_key : List (Nat × Instr × Nat) := [(0, .aload_n 0, 1), (1, .iload_n 1, 1), (2, .iconst 0, 1), (3, .bipush 7, 2), (5, .invokestatic 175, 3), (8, .aload_n 0, 1), (9, .getfield 63, 3), (12, .iconst (-1), 1), (13, .if_icmp .ne 7, 3), (16, .iconst 1, 1), (17, .goto 4, 3), (20, .iconst 0, 1), (21, .iconst 1, 1), (22, .invokevirtual 167, 3), (25, .ifCond .ne 5, 3), (28, .iconst 0, 1), (29, .ireturn, 1), (30, .iconst 0, 1), (31, .istore_n 3, 1), (32, .iload_n 3, 1), (33, .bipush 100, 2), (35, .if_icmp .ge 33, 3), (38, .aload_n 0, 1), (39, .getfield 112, 3), (42, .iload_n 3, 1), (43, .aload_n 0, 1), (44, .getfield 13, 3), (47, .iload_n 3, 1), (48, .baload, 1), (49, .ifCond .eq 11, 3), (52, .aload_n 0, 1), (53, .iload_n 3, 1), (54, .invokevirtual 237, 3), (57, .goto 4, 3), (60, .iconst (-1), 1), (61, .iastore, 1), (62, .iinc 3 1, 3), (65, .goto (-33), 3), (68, .aload_n 0, 1), (69, .iload_n 1, 1), (70, .putfield 203, 3), (73, .aload_n 0, 1), (74, .iload_n 2, 1), (75, .putfield 206, 3), (78, .aload_n 0, 1), (79, .invokevirtual 115, 3), (82, .aload_n 0, 1), (83, .dup, 1), (84, .getfield 73, 3), (87, .iconst 1, 1), (88, .iadd, 1), (89, .putfield 73, 3), (92, .iconst 0, 1), (93, .istore_n 3, 1), (94, .iconst 0, 1), (95, .istore 4, 2), (97, .iload 4, 2), (99, .bipush 100, 2), (101, .if_icmp .ge 43, 3), (104, .iload_n 3, 1), (105, .aload_n 0, 1), (106, .getfield 13, 3), (109, .iload 4, 2), (111, .baload, 1), (112, .ifCond .eq 23, 3), (115, .aload_n 0, 1), (116, .iload 4, 2), (118, .invokevirtual 237, 3), (121, .aload_n 0, 1), (122, .getfield 112, 3), (125, .iload 4, 2), (127, .iaload, 1), (128, .if_icmp .eq 7, 3), (131, .iconst 1, 1), (132, .goto 4, 3), (135, .iconst 0, 1), (136, .iadd, 1), (137, .istore_n 3, 1), (138, .iinc 4 1, 3), (141, .goto (-44), 3), (144, .iload_n 3, 1), (145, .ireturn, 1)]
def MX12_key : x_MT := (RX12, yX12_key, cX12_key, 5, some .int, 7, 161, iX12_key)
theorem okX12_key : x_MOk MX12_key := ⟨by decide +kernel, tb8_of 190 rfl rfl, by decide +kernel, rfl, tb1_of 13 rfl rfl, by decide +kernel⟩
def iX12_expire : List (Nat × Instr × Nat) := [(0, .aload_n 0, 1), (1, .iload_n 1, 1), (2, .iconst (-1), 1), (3, .bipush 7, 2), (5, .invokestatic 175, 3), (8, .iconst 1, 1), (9, .iconst 1, 1), (10, .invokevirtual 167, 3), (13, .ifCond .ne 5, 3), (16, .iconst 0, 1), (17, .ireturn, 1), (18, .aload_n 0, 1), (19, .getfield 91, 3), (22, .istore_n 2, 1), (23, .aload_n 0, 1), (24, .iload_n 1, 1), (25, .putfield 91, 3), (28, .iload_n 2, 1), (29, .ireturn, 1)]
def MX12_expire : x_MT := (RX12, yX12_expire, cX12_expire, 3, some .int, 1, 23, iX12_expire)
theorem okX12_expire : x_MOk MX12_expire := ⟨by decide +kernel, tb8_of 194 rfl rfl, by decide +kernel, rfl, tb1_of 13 rfl rfl, by decide +kernel⟩
def iX12_tick : List (Nat × Instr × Nat) := [(0, .aload_n 0, 1), (1, .iload_n 1, 1), (2, .iconst 1, 1), (3, .bipush 20, 2), (5, .invokestatic 175, 3), (8, .iconst 1, 1), (9, .iconst 1, 1), (10, .invokevirtual 167, 3), (13, .ifCond .ne 5, 3), (16, .iconst 0, 1), (17, .ireturn, 1), (18, .iconst 0, 1), (19, .istore_n 2, 1), (20, .iconst 0, 1), (21, .istore_n 3, 1), (22, .iload_n 3, 1), (23, .iload_n 1, 1), (24, .if_icmp .ge 119, 3), (27, .aload_n 0, 1), (28, .dup, 1), (29, .getfield 340, 3), (32, .iconst 1, 1), (33, .iadd, 1), (34, .putfield 340, 3), (37, .iconst 0, 1), (38, .istore 4, 2), (40, .iload 4, 2), (42, .bipush 100, 2), (44, .if_icmp .ge 93, 3), (47, .aload_n 0, 1), (48, .getfield 91, 3), (51, .iconst (-1), 1), (52, .if_icmp .eq 85, 3), (55, .aload_n 0, 1), (56, .getfield 13, 3), (59, .iload 4, 2), (61, .baload, 1), (62, .ifCond .eq 23, 3), (65, .aload_n 0, 1), (66, .aload_n 0, 1), (67, .getfield 7, 3), (70, .iload 4, 2), (72, .invokestatic 142, 3), (75, .aload_n 0, 1), (76, .getfield 91, 3), (79, .invokevirtual 155, 3), (82, .goto 4, 3), (85, .iconst (-1), 1), (86, .istore 5, 2), (88, .iload 5, 2), (90, .iconst (-1), 1), (91, .if_icmp .eq 40, 3), (94, .aload_n 0, 1), (95, .getfield 7, 3), (98, .iload 5, 2), (100, .iaload, 1), (101, .iconst 1, 1), (102, .if_icmp .ne 29, 3), (105, .aload_n 0, 1), (106, .getfield 7, 3), (109, .iload 5, 2), (111, .iconst 1, 1), (112, .iadd, 1), (113, .iaload, 1), (114, .aload_n 0, 1), (115, .getfield 340, 3), (118, .if_icmp .gt 13, 3), (121, .aload_n 0, 1), (122, .iload 4, 2), (124, .invokevirtual 267, 3), (127, .pop, 1), (128, .iinc 2 1, 3), (131, .iinc 4 1, 3), (134, .goto (-94), 3), (137, .iinc 3 1, 3), (140, .goto (-118), 3), (143, .iload_n 2, 1), (144, .ireturn, 1)]
def MX12_tick : x_MT := (RX12, yX12_tick, cX12_tick, 6, some .int, 8, 183, iX12_tick)
theorem okX12_tick : x_MOk MX12_tick := ⟨by decide +kernel, tb8_of 198 rfl rfl, by decide +kernel, rfl, tb1_of 13 rfl rfl, by decide +kernel⟩
def iX12_documents : List (Nat × Instr × Nat) := [(0, .aload_n 0, 1), (1, .iconst 0, 1), (2, .putfield 118, 3), (5, .aload_n 0, 1), (6, .getfield 227, 3), (9, .ireturn, 1)]
def MX12_documents : x_MT := (RX12, yX12_documents, cX12_documents, 1, some .int, 0, 0, iX12_documents)
theorem okX12_documents : x_MOk MX12_documents := ⟨by decide +kernel, tb8_of 202 rfl rfl, by decide +kernel, rfl, tb1_of 13 rfl rfl, by decide +kernel⟩
def iX12_document : List (Nat × Instr × Nat) := [(0, .aload_n 0, 1), (1, .iload_n 2, 1), (2, .iconst 0, 1), (3, .iconst 2, 1), (4, .invokestatic 175, 3), (7, .iconst 1, 1), (8, .iconst 1, 1), (9, .invokevirtual 167, 3), (12, .ifCond .ne 5, 3), (15, .iconst 0, 1), (16, .ireturn, 1), (17, .aload_n 0, 1), (18, .iload_n 1, 1), (19, .invokevirtual 261, 3), (22, .ifCond .ne 5, 3), (25, .iconst (-1), 1), (26, .ireturn, 1), (27, .iload_n 2, 1), (28, .ifCond .ne 11, 3), (31, .aload_n 0, 1), (32, .iload_n 1, 1), (33, .invokevirtual 237, 3), (36, .goto 28, 3), (39, .iload_n 2, 1), (40, .iconst 1, 1), (41, .if_icmp .ne 11, 3), (44, .aload_n 0, 1), (45, .iload_n 1, 1), (46, .invokevirtual 214, 3), (49, .goto 15, 3), (52, .aload_n 0, 1), (53, .aload_n 0, 1), (54, .getfield 7, 3), (57, .iload_n 1, 1), (58, .invokestatic 142, 3), (61, .invokevirtual 186, 3), (64, .ireturn, 1)]
def MX12_document : x_MT := (RX12, yX12_document, cX12_document, 3, some .int, 7, 161, iX12_document)
theorem okX12_document : x_MOk MX12_document := ⟨by decide +kernel, tb8_of 206 rfl rfl, by decide +kernel, rfl, tb1_of 13 rfl rfl, by decide +kernel⟩
def iX12_print : List (Nat × Instr × Nat) := [(0, .aload_n 0, 1), (1, .aload_n 0, 1), (2, .iload_n 1, 1), (3, .invokevirtual 261, 3), (6, .iconst 1, 1), (7, .iconst 1, 1), (8, .invokevirtual 167, 3), (11, .ifCond .eq 18, 3), (14, .aload_n 0, 1), (15, .aload_n 0, 1), (16, .getfield 7, 3), (19, .iload_n 1, 1), (20, .invokestatic 142, 3), (23, .invokevirtual 321, 3), (26, .goto 4, 3), (29, .lconst 0, 1), (30, .lreturn, 1)]
def MX12_print : x_MT := (RX12, yX12_print, cX12_print, 2, some .long, 5, 123, iX12_print)
theorem okX12_print : x_MOk MX12_print := ⟨by decide +kernel, tb8_of 210 rfl rfl, by decide +kernel, rfl, tb1_of 13 rfl rfl, by decide +kernel⟩
def iX12_entriesOf : List (Nat × Instr × Nat) := [(0, .iconst 0, 1), (1, .istore_n 2, 1), (2, .iconst 0, 1), (3, .istore_n 3, 1), (4, .iload_n 3, 1), (5, .bipush 100, 2), (7, .if_icmp .ge 144, 3), (10, .aload_n 0, 1), (11, .getfield 13, 3), (14, .iload_n 3, 1), (15, .baload, 1), (16, .ifCond .eq 129, 3), (19, .aload_n 0, 1), (20, .iload_n 3, 1), (21, .aload_n 0, 1), (22, .getfield 26, 3), (25, .iload_n 1, 1), (26, .iaload, 1), (27, .invokevirtual 285, 3), (30, .iconst 0, 1), (31, .istore 4, 2), (33, .iload 4, 2), (35, .aload_n 0, 1), (36, .getfield 152, 3), (39, .if_icmp .ge 82, 3), (42, .iconst 1, 1), (43, .istore 5, 2), (45, .iconst 0, 1), (46, .istore 6, 2), (48, .iload 6, 2), (50, .iload 4, 2), (52, .if_icmp .ge 50, 3), (55, .iload 5, 2), (57, .ifCond .eq 36, 3), (60, .aload_n 0, 1), (61, .aload_n 0, 1), (62, .getfield 7, 3), (65, .aload_n 0, 1), (66, .getfield 94, 3), (69, .iload 4, 2), (71, .iaload, 1), (72, .aload_n 0, 1), (73, .getfield 7, 3), (76, .aload_n 0, 1), (77, .getfield 94, 3), (80, .iload 6, 2), (82, .iaload, 1), (83, .invokevirtual 253, 3), (86, .ifCond .eq 7, 3), (89, .iconst 1, 1), (90, .goto 4, 3), (93, .iconst 0, 1), (94, .istore 5, 2), (96, .iinc 6 1, 3), (99, .goto (-51), 3), (102, .iload_n 2, 1), (103, .iload 5, 2), (105, .ifCond .eq 7, 3), (108, .iconst 1, 1), (109, .goto 4, 3), (112, .iconst 0, 1), (113, .iadd, 1), (114, .istore_n 2, 1), (115, .iinc 4 1, 3), (118, .goto (-85), 3), (121, .iload_n 2, 1), (122, .aload_n 0, 1), (123, .getfield 152, 3), (126, .ifCond .ne 16, 3), (129, .aload_n 0, 1), (130, .getfield 32, 3), (133, .iload_n 1, 1), (134, .baload, 1), (135, .ifCond .ne 7, 3), (138, .iconst 1, 1), (139, .goto 4, 3), (142, .iconst 0, 1), (143, .iadd, 1), (144, .istore_n 2, 1), (145, .iinc 3 1, 3), (148, .goto (-144), 3), (151, .iload_n 2, 1), (152, .ireturn, 1)]
def MX12_entriesOf : x_MT := (RX12, yX12_entriesOf, cX12_entriesOf, 7, some .int, 6, 143, iX12_entriesOf)
theorem okX12_entriesOf : x_MOk MX12_entriesOf := ⟨by decide +kernel, tb8_of 218 rfl rfl, by decide +kernel, rfl, tb1_of 13 rfl rfl, by decide +kernel⟩
def iX12_entries : List (Nat × Instr × Nat) := [(0, .aload_n 0, 1), (1, .aload_n 0, 1), (2, .iload_n 1, 1), (3, .invokevirtual 273, 3), (6, .iconst 1, 1), (7, .iconst 1, 1), (8, .invokevirtual 167, 3), (11, .ifCond .eq 11, 3), (14, .aload_n 0, 1), (15, .iload_n 1, 1), (16, .invokevirtual 343, 3), (19, .goto 4, 3), (22, .iconst 0, 1), (23, .ireturn, 1)]
def MX12_entries : x_MT := (RX12, yX12_entries, cX12_entries, 2, some .int, 7, 169, iX12_entries)
theorem okX12_entries : x_MOk MX12_entries := ⟨by decide +kernel, tb8_of 214 rfl rfl, by decide +kernel, rfl, tb1_of 13 rfl rfl, by decide +kernel⟩
def iX12_entriesAnew : List (Nat × Instr × Nat) := [(0, .aload_n 0, 1), (1, .iload_n 1, 1), (2, .invokevirtual 346, 3), (5, .ireturn, 1)]
def MX12_entriesAnew : x_MT := (RX12, yX12_entriesAnew, cX12_entriesAnew, 2, some .int, 8, 190, iX12_entriesAnew)
theorem okX12_entriesAnew : x_MOk MX12_entriesAnew := ⟨by decide +kernel, tb8_of 222 rfl rfl, by decide +kernel, rfl, tb1_of 13 rfl rfl, by decide +kernel⟩
def iX12_chunk : List (Nat × Instr × Nat) := [(0, .aload_n 0, 1), (1, .aload_n 0, 1), (2, .iload_n 1, 1), (3, .invokevirtual 325, 3), (6, .iload_n 2, 1), (7, .iconst 0, 1), (8, .iconst 3, 1), (9, .invokestatic 175, 3), (12, .iconst 1, 1), (13, .invokevirtual 167, 3), (16, .ifCond .ne 5, 3), (19, .iconst 0, 1), (20, .ireturn, 1), (21, .iload_n 2, 1), (22, .ifCond .ne 12, 3), (25, .aload_n 0, 1), (26, .getfield 57, 3), (29, .iload_n 1, 1), (30, .iaload, 1), (31, .goto 48, 3), (34, .iload_n 2, 1), (35, .iconst 1, 1), (36, .if_icmp .ne 12, 3), (39, .aload_n 0, 1), (40, .getfield 60, 3), (43, .iload_n 1, 1), (44, .iaload, 1), (45, .goto 34, 3), (48, .iload_n 2, 1), (49, .iconst 2, 1), (50, .if_icmp .ne 11, 3), (53, .aload_n 0, 1), (54, .iload_n 1, 1), (55, .invokevirtual 334, 3), (58, .goto 21, 3), (61, .aload_n 0, 1), (62, .getfield 57, 3), (65, .iload_n 1, 1), (66, .iaload, 1), (67, .aload_n 0, 1), (68, .getfield 63, 3), (71, .if_icmp .ne 7, 3), (74, .iconst 1, 1), (75, .goto 4, 3), (78, .iconst 0, 1), (79, .ireturn, 1)]
def MX12_chunk : x_MT := (RX12, yX12_chunk, cX12_chunk, 3, some .int, 7, 163, iX12_chunk)
theorem okX12_chunk : x_MOk MX12_chunk := ⟨by decide +kernel, tb8_of 227 rfl rfl, by decide +kernel, rfl, tb1_of 13 rfl rfl, by decide +kernel⟩
def iX12_shard : List (Nat × Instr × Nat) := [(0, .aload_n 0, 1), (1, .iload_n 1, 1), (2, .iconst 0, 1), (3, .iconst 2, 1), (4, .invokestatic 175, 3), (7, .ifCond .eq 16, 3), (10, .iload_n 2, 1), (11, .iconst 0, 1), (12, .iconst 2, 1), (13, .invokestatic 175, 3), (16, .ifCond .eq 7, 3), (19, .iconst 1, 1), (20, .goto 4, 3), (23, .iconst 0, 1), (24, .iconst 1, 1), (25, .iconst 1, 1), (26, .invokevirtual 167, 3), (29, .ifCond .ne 5, 3), (32, .iconst 0, 1), (33, .ireturn, 1), (34, .iload_n 2, 1), (35, .iconst 1, 1), (36, .if_icmp .ne 10, 3), (39, .aload_n 0, 1), (40, .getfield 70, 3), (43, .iload_n 1, 1), (44, .iaload, 1), (45, .ireturn, 1), (46, .iload_n 2, 1), (47, .iconst 2, 1), (48, .if_icmp .ne 28, 3), (51, .aload_n 0, 1), (52, .getfield 63, 3), (55, .iconst (-1), 1), (56, .if_icmp .eq 18, 3), (59, .aload_n 0, 1), (60, .getfield 328, 3), (63, .iload_n 1, 1), (64, .if_icmp .ne 10, 3), (67, .aload_n 0, 1), (68, .invokevirtual 337, 3), (71, .goto 4, 3), (74, .iconst 0, 1), (75, .ireturn, 1), (76, .iconst 0, 1), (77, .istore_n 3, 1), (78, .iconst 0, 1), (79, .istore 4, 2), (81, .iload 4, 2), (83, .bipush 100, 2), (85, .if_icmp .ge 37, 3), (88, .iload_n 3, 1), (89, .aload_n 0, 1), (90, .getfield 13, 3), (93, .iload 4, 2), (95, .baload, 1), (96, .ifCond .eq 17, 3), (99, .aload_n 0, 1), (100, .iload 4, 2), (102, .invokevirtual 237, 3), (105, .iload_n 1, 1), (106, .if_icmp .ne 7, 3), (109, .iconst 1, 1), (110, .goto 4, 3), (113, .iconst 0, 1), (114, .iadd, 1), (115, .istore_n 3, 1), (116, .iinc 4 1, 3), (119, .goto (-38), 3), (122, .iload_n 3, 1), (123, .ireturn, 1)]
def MX12_shard : x_MT := (RX12, yX12_shard, cX12_shard, 5, some .int, 7, 161, iX12_shard)
theorem okX12_shard : x_MOk MX12_shard := ⟨by decide +kernel, tb8_of 231 rfl rfl, by decide +kernel, rfl, tb1_of 13 rfl rfl, by decide +kernel⟩
def iX12_router : List (Nat × Instr × Nat) := [(0, .aload_n 0, 1), (1, .iload_n 1, 1), (2, .iconst 0, 1), (3, .iconst 1, 1), (4, .invokestatic 175, 3), (7, .ifCond .eq 16, 3), (10, .iload_n 2, 1), (11, .iconst 0, 1), (12, .iconst 1, 1), (13, .invokestatic 175, 3), (16, .ifCond .eq 7, 3), (19, .iconst 1, 1), (20, .goto 4, 3), (23, .iconst 0, 1), (24, .iconst 1, 1), (25, .iconst 1, 1), (26, .invokevirtual 167, 3), (29, .ifCond .eq 25, 3), (32, .iload_n 2, 1), (33, .ifCond .ne 12, 3), (36, .aload_n 0, 1), (37, .getfield 76, 3), (40, .iload_n 1, 1), (41, .iaload, 1), (42, .goto 13, 3), (45, .aload_n 0, 1), (46, .getfield 79, 3), (49, .iload_n 1, 1), (50, .iaload, 1), (51, .goto 4, 3), (54, .iconst 0, 1), (55, .ireturn, 1)]
def MX12_router : x_MT := (RX12, yX12_router, cX12_router, 3, some .int, 1, 23, iX12_router)
theorem okX12_router : x_MOk MX12_router := ⟨by decide +kernel, tb8_of 235 rfl rfl, by decide +kernel, rfl, tb1_of 13 rfl rfl, by decide +kernel⟩
def iX12_next : List (Nat × Instr × Nat) := [(0, .aload_n 0, 1), (1, .iconst 0, 1), (2, .putfield 118, 3), (5, .iload_n 1, 1), (6, .ifCond .ge 7, 3), (9, .iconst 1, 1), (10, .goto 17, 3), (13, .iload_n 1, 1), (14, .ldc_w 348, 3), (17, .if_icmp .ne 7, 3), (20, .iload_n 1, 1), (21, .goto 6, 3), (24, .iload_n 1, 1), (25, .iconst 1, 1), (26, .iadd, 1), (27, .istore_n 2, 1), (28, .iload_n 2, 1), (29, .aload_n 0, 1), (30, .getfield 220, 3), (33, .if_icmp .gt 7, 3), (36, .iload_n 2, 1), (37, .goto 4, 3), (40, .iconst (-1), 1), (41, .ireturn, 1)]
def MX12_next : x_MT := (RX12, yX12_next, cX12_next, 3, some .int, 0, 0, iX12_next)
theorem okX12_next : x_MOk MX12_next := ⟨by decide +kernel, tb8_of 239 rfl rfl, by decide +kernel, rfl, tb1_of 13 rfl rfl, by decide +kernel⟩
def iX12_change : List (Nat × Instr × Nat) := [(0, .aload_n 0, 1), (1, .iload_n 1, 1), (2, .iconst 1, 1), (3, .aload_n 0, 1), (4, .getfield 220, 3), (7, .invokestatic 175, 3), (10, .iload_n 2, 1), (11, .iconst 0, 1), (12, .iconst 2, 1), (13, .invokestatic 175, 3), (16, .iconst 1, 1), (17, .invokevirtual 167, 3), (20, .ifCond .ne 5, 3), (23, .iconst 0, 1), (24, .ireturn, 1), (25, .iload_n 2, 1), (26, .ifCond .ne 14, 3), (29, .aload_n 0, 1), (30, .getfield 82, 3), (33, .iload_n 1, 1), (34, .iconst 1, 1), (35, .isub, 1), (36, .iaload, 1), (37, .goto 27, 3), (40, .iload_n 2, 1), (41, .iconst 1, 1), (42, .if_icmp .ne 14, 3), (45, .aload_n 0, 1), (46, .getfield 85, 3), (49, .iload_n 1, 1), (50, .iconst 1, 1), (51, .isub, 1), (52, .iaload, 1), (53, .goto 11, 3), (56, .aload_n 0, 1), (57, .getfield 88, 3), (60, .iload_n 1, 1), (61, .iconst 1, 1), (62, .isub, 1), (63, .iaload, 1), (64, .ireturn, 1)]
def MX12_change : x_MT := (RX12, yX12_change, cX12_change, 3, some .int, 1, 23, iX12_change)
theorem okX12_change : x_MOk MX12_change := ⟨by decide +kernel, tb9_of 4 rfl rfl, by decide +kernel, rfl, tb1_of 13 rfl rfl, by decide +kernel⟩
def iX12_now : List (Nat × Instr × Nat) := [(0, .aload_n 0, 1), (1, .iconst 0, 1), (2, .putfield 118, 3), (5, .aload_n 0, 1), (6, .getfield 340, 3), (9, .ireturn, 1)]
def MX12_now : x_MT := (RX12, yX12_now, cX12_now, 1, some .int, 0, 0, iX12_now)
theorem okX12_now : x_MOk MX12_now := ⟨by decide +kernel, tb9_of 8 rfl rfl, by decide +kernel, rfl, tb1_of 13 rfl rfl, by decide +kernel⟩
theorem cvX0_54 : x_CV RX0 MX0_beginChunks 54 0 := ⟨tb1_of 93 rfl rfl, tb1_of 95 rfl rfl, tb0_of 0 (by decide +kernel) (by decide +kernel), by decide +kernel⟩
theorem cvX0_57 : x_CV RX0 MX0_has 57 1 := ⟨tb4_of 31 rfl rfl, tb4_of 32 rfl rfl, tb4_of 33 rfl rfl, by decide +kernel⟩
theorem cvX0_61 : x_CV RX0 MX0_firstOf 61 1 := ⟨tb4_of 27 rfl rfl, tb4_of 28 rfl rfl, tb4_of 29 rfl rfl, by decide +kernel⟩
theorem cvX10_19 : x_CV RX10 MX10_signAt 19 1 := ⟨tb2_of 146 rfl rfl, tb2_of 147 rfl rfl, tb2_of 148 rfl rfl, by decide +kernel⟩
theorem csX10_23 : x_CS RX10 MX10_turnOf 23 1 := ⟨tb2_of 150 rfl rfl, tb2_of 151 rfl rfl, by decide +kernel⟩
theorem cvX10_32 : x_CV RX10 MX10_slotOf 32 2 := ⟨tb2_of 142 rfl rfl, tb2_of 143 rfl rfl, tb2_of 144 rfl rfl, by decide +kernel⟩
theorem cvX0_65 : x_CV RX0 MX10_placeOf 65 2 := ⟨tb4_of 18 rfl rfl, tb2_of 139 rfl rfl, tb2_of 140 rfl rfl, by decide +kernel⟩
theorem cvX0_71 : x_CV RX0 MX10_kindAt 71 1 := ⟨tb4_of 19 rfl rfl, tb2_of 164 rfl rfl, tb2_of 165 rfl rfl, by decide +kernel⟩
theorem cvX0_74 : x_CV RX0 MX10_numberAt 74 1 := ⟨tb4_of 20 rfl rfl, tb2_of 196 rfl rfl, tb2_of 197 rfl rfl, by decide +kernel⟩
theorem cvX0_83 : x_CV RX0 MX10_wordAt 83 1 := ⟨tb4_of 23 rfl rfl, tb4_of 24 rfl rfl, tb4_of 25 rfl rfl, by decide +kernel⟩
theorem cvX0_86 : x_CV RX0 MX0_keyOf 86 1 := ⟨tb4_of 14 rfl rfl, tb4_of 15 rfl rfl, tb4_of 16 rfl rfl, by decide +kernel⟩
theorem cvX0_90 : x_CV RX0 MX0_chunkOf 90 1 := ⟨tb4_of 10 rfl rfl, tb4_of 12 rfl rfl, tb0_of 15 (by decide +kernel) (by decide +kernel), by decide +kernel⟩
theorem cvX0_93 : x_CV RX0 MX0_ownerOf 93 1 := ⟨tb4_of 35 rfl rfl, tb4_of 36 rfl rfl, tb4_of 37 rfl rfl, by decide +kernel⟩
theorem cvX8_36 : x_CV RX8 MX8_has 36 1 := ⟨tb2_of 125 rfl rfl, tb2_of 118 rfl rfl, tb2_of 119 rfl rfl, by decide +kernel⟩
theorem cvX0_96 : x_CV RX0 MX8_has 96 1 := ⟨tb6_of 8 rfl rfl, tb2_of 118 rfl rfl, tb2_of 119 rfl rfl, by decide +kernel⟩
theorem cvX0_99 : x_CV RX0 MX8_at 99 1 := ⟨tb6_of 9 rfl rfl, tb2_of 122 rfl rfl, tb2_of 123 rfl rfl, by decide +kernel⟩
theorem cvX0_103 : x_CV RX0 MX0_shardOf 103 1 := ⟨tb6_of 78 rfl rfl, tb4_of 7 rfl rfl, tb4_of 8 rfl rfl, by decide +kernel⟩
theorem cvX0_106 : x_CV RX0 MX0_hasMove 106 0 := ⟨tb4_of 47 rfl rfl, tb4_of 48 rfl rfl, tb4_of 49 rfl rfl, by decide +kernel⟩
theorem cvX0_110 : x_CV RX0 MX0_isLeft 110 2 := ⟨tb6_of 4 rfl rfl, tb6_of 6 rfl rfl, tb0_of 34 (by decide +kernel) (by decide +kernel), by decide +kernel⟩
theorem cvX0_114 : x_CV RX0 MX0_countIn 114 2 := ⟨tb6_of 35 rfl rfl, tb6_of 36 rfl rfl, tb6_of 37 rfl rfl, by decide +kernel⟩
theorem cvX0_118 : x_CV RX0 MX0_endMove 118 0 := ⟨tb6_of 39 rfl rfl, tb6_of 40 rfl rfl, tb6_of 41 rfl rfl, by decide +kernel⟩
theorem cvX0_122 : x_CV RX0 MX0_orphansOf 122 1 := ⟨tb6_of 62 rfl rfl, tb6_of 63 rfl rfl, tb6_of 64 rfl rfl, by decide +kernel⟩
theorem ciX1_11 : x_CI RX1 MX10_init 11 1 := ⟨tb1_of 163 rfl rfl, tb1_of 40 rfl rfl, rfl, rfl, by decide +kernel⟩
theorem cvX10_64 : x_CV RX10 MX10_makeRoom 64 3 := ⟨tb3_of 92 rfl rfl, tb3_of 94 rfl rfl, tb0_of 12 (by decide +kernel) (by decide +kernel), by decide +kernel⟩
theorem cvX10_68 : x_CV RX10 MX10_setSign 68 2 := ⟨tb3_of 99 rfl rfl, tb3_of 100 rfl rfl, tb3_of 101 rfl rfl, by decide +kernel⟩
theorem cvX10_60 : x_CV RX10 MX10_putValue 60 3 := ⟨tb3_of 183 rfl rfl, tb3_of 185 rfl rfl, tb0_of 13 (by decide +kernel) (by decide +kernel), by decide +kernel⟩
theorem cvX10_29 : x_CV RX10 MX10_endOf 29 1 := ⟨tb3_of 174 rfl rfl, tb3_of 175 rfl rfl, tb3_of 176 rfl rfl, by decide +kernel⟩
theorem cvX10_56 : x_CV RX10 MX10_putSign 56 2 := ⟨tb3_of 88 rfl rfl, tb3_of 90 rfl rfl, tb0_of 11 (by decide +kernel) (by decide +kernel), by decide +kernel⟩
theorem cvX10_77 : x_CV RX10 MX10_takeOut 77 2 := ⟨tb4_of 104 rfl rfl, tb4_of 105 rfl rfl, tb4_of 106 rfl rfl, by decide +kernel⟩
theorem cvX1_49 : x_CV RX1 MX10_numberAt 49 1 := ⟨tb4_of 108 rfl rfl, tb2_of 196 rfl rfl, tb2_of 197 rfl rfl, by decide +kernel⟩
theorem csX1_71 : x_CSN RX1 MX11_isNumber 71 1 := ⟨List.mem_of_getElem? (i := 18) (by decide +kernel), tb3_of 112 rfl rfl, by decide +kernel⟩
theorem cvX1_75 : x_CV RX1 MX10_setSign 75 2 := ⟨tb4_of 119 rfl rfl, tb3_of 100 rfl rfl, tb3_of 101 rfl rfl, by decide +kernel⟩
theorem cvX1_35 : x_CV RX1 MX10_placeOf 35 2 := ⟨tb4_of 98 rfl rfl, tb2_of 139 rfl rfl, tb2_of 140 rfl rfl, by decide +kernel⟩
theorem cvX1_39 : x_CV RX1 MX10_become 39 1 := ⟨tb4_of 113 rfl rfl, tb3_of 85 rfl rfl, tb3_of 86 rfl rfl, by decide +kernel⟩
theorem cvX1_41 : x_CV RX1 MX10_setField 41 3 := ⟨tb4_of 99 rfl rfl, tb3_of 206 rfl rfl, tb3_of 207 rfl rfl, by decide +kernel⟩
theorem cvX1_27 : x_CV RX1 MX10_kindAt 27 1 := ⟨tb4_of 93 rfl rfl, tb2_of 164 rfl rfl, tb2_of 165 rfl rfl, by decide +kernel⟩
theorem cvX1_68 : x_CV RX1 MX1_addAt 68 2 := ⟨tb4_of 114 rfl rfl, tb4_of 116 rfl rfl, tb0_of 18 (by decide +kernel) (by decide +kernel), by decide +kernel⟩
theorem cvX1_78 : x_CV RX1 MX10_putBehind 78 2 := ⟨tb4_of 124 rfl rfl, tb3_of 180 rfl rfl, tb3_of 181 rfl rfl, by decide +kernel⟩
theorem cvX1_82 : x_CV RX1 MX10_signAt 82 1 := ⟨tb4_of 129 rfl rfl, tb2_of 147 rfl rfl, tb2_of 148 rfl rfl, by decide +kernel⟩
theorem cvX1_85 : x_CV RX1 MX10_endOf 85 1 := ⟨tb4_of 130 rfl rfl, tb3_of 175 rfl rfl, tb3_of 176 rfl rfl, by decide +kernel⟩
theorem csX1_88 : x_CS RX1 MX10_order 88 4 := ⟨tb4_of 131 rfl rfl, tb2_of 189 rfl rfl, by decide +kernel⟩
theorem cvX1_92 : x_CV RX1 MX10_takeOut 92 2 := ⟨tb4_of 132 rfl rfl, tb4_of 105 rfl rfl, tb4_of 106 rfl rfl, by decide +kernel⟩
theorem cvX1_45 : x_CV RX1 MX10_takeField 45 2 := ⟨tb4_of 100 rfl rfl, tb4_of 101 rfl rfl, tb4_of 102 rfl rfl, by decide +kernel⟩
theorem cvX1_52 : x_CV RX1 MX1_addTo 52 3 := ⟨tb4_of 109 rfl rfl, tb4_of 111 rfl rfl, tb0_of 17 (by decide +kernel) (by decide +kernel), by decide +kernel⟩
theorem cvX1_56 : x_CV RX1 MX1_pushTo 56 3 := ⟨tb4_of 120 rfl rfl, tb4_of 122 rfl rfl, tb0_of 19 (by decide +kernel) (by decide +kernel), by decide +kernel⟩
theorem cvX1_60 : x_CV RX1 MX1_pullFrom 60 2 := ⟨tb4_of 125 rfl rfl, tb4_of 127 rfl rfl, tb0_of 20 (by decide +kernel) (by decide +kernel), by decide +kernel⟩
theorem cvX1_64 : x_CV RX1 MX1_addToEach 64 2 := ⟨tb4_of 133 rfl rfl, tb4_of 135 rfl rfl, tb0_of 21 (by decide +kernel) (by decide +kernel), by decide +kernel⟩
theorem cvX1_23 : x_CV RX1 MX10_become_ 23 1 := ⟨tb4_of 92 rfl rfl, tb3_of 238 rfl rfl, tb3_of 239 rfl rfl, by decide +kernel⟩
theorem cvX1_31 : x_CV RX1 MX1_editField 31 4 := ⟨tb4_of 94 rfl rfl, tb4_of 96 rfl rfl, tb0_of 16 (by decide +kernel) (by decide +kernel), by decide +kernel⟩
theorem ciX2_11 : x_CI RX2 MX10_init 11 1 := ⟨tb1_of 226 rfl rfl, tb1_of 40 rfl rfl, rfl, rfl, by decide +kernel⟩
theorem cvX2_27 : x_CV RX2 MX10_become_ 27 1 := ⟨tb5_of 9 rfl rfl, tb3_of 238 rfl rfl, tb3_of 239 rfl rfl, by decide +kernel⟩
theorem cvX2_45 : x_CV RX2 MX10_signAt 45 1 := ⟨tb2_of 199 rfl rfl, tb2_of 147 rfl rfl, tb2_of 148 rfl rfl, by decide +kernel⟩
theorem cvX2_48 : x_CV RX2 MX10_kindAt 48 1 := ⟨tb2_of 187 rfl rfl, tb2_of 164 rfl rfl, tb2_of 165 rfl rfl, by decide +kernel⟩
theorem csX2_51 : x_CS RX2 MX10_order 51 4 := ⟨tb2_of 188 rfl rfl, tb2_of 189 rfl rfl, by decide +kernel⟩
theorem cvX2_55 : x_CV RX2 MX10_widthAt 55 1 := ⟨tb2_of 191 rfl rfl, tb2_of 192 rfl rfl, tb2_of 193 rfl rfl, by decide +kernel⟩
theorem cvX2_58 : x_CV RX2 MX10_numberAt 58 1 := ⟨tb2_of 195 rfl rfl, tb2_of 196 rfl rfl, tb2_of 197 rfl rfl, by decide +kernel⟩
theorem cvX2_61 : x_CV RX2 MX2_isBeyond 61 1 := ⟨tb2_of 200 rfl rfl, tb2_of 202 rfl rfl, tb0_of 7 (by decide +kernel) (by decide +kernel), by decide +kernel⟩
theorem cvX2_31 : x_CV RX2 MX6_size 31 0 := ⟨tb2_of 175 rfl rfl, tb2_of 176 rfl rfl, tb2_of 177 rfl rfl, by decide +kernel⟩
theorem cvX2_37 : x_CV RX2 MX6_at 37 1 := ⟨tb2_of 179 rfl rfl, tb2_of 180 rfl rfl, tb2_of 181 rfl rfl, by decide +kernel⟩
theorem cvX2_41 : x_CV RX2 MX2_fits 41 2 := ⟨tb2_of 183 rfl rfl, tb2_of 185 rfl rfl, tb0_of 6 (by decide +kernel) (by decide +kernel), by decide +kernel⟩
theorem ciX3_30 : x_CIN RX3 MX6_init 30 0 := ⟨List.mem_of_getElem? (i := 8) (by decide +kernel), tb1_of 180 rfl rfl, rfl, rfl, by decide +kernel⟩
theorem cvX6_46 : x_CV RX6 MX6_note 46 1 := ⟨tb2_of 157 rfl rfl, tb2_of 159 rfl rfl, tb0_of 4 (by decide +kernel) (by decide +kernel), by decide +kernel⟩
theorem cvX6_40 : x_CV RX6 MX10_signAt 40 1 := ⟨tb2_of 161 rfl rfl, tb2_of 147 rfl rfl, tb2_of 148 rfl rfl, by decide +kernel⟩
theorem csX6_43 : x_CS RX6 MX10_turnOf 43 1 := ⟨tb2_of 162 rfl rfl, tb2_of 151 rfl rfl, by decide +kernel⟩
theorem cvX6_25 : x_CV RX6 MX6_take 25 2 := ⟨tb2_of 153 rfl rfl, tb2_of 155 rfl rfl, tb0_of 3 (by decide +kernel) (by decide +kernel), by decide +kernel⟩
theorem cvX6_19 : x_CV RX6 MX10_placeOf 19 2 := ⟨tb2_of 138 rfl rfl, tb2_of 139 rfl rfl, tb2_of 140 rfl rfl, by decide +kernel⟩
theorem cvX6_29 : x_CV RX6 MX10_kindAt 29 1 := ⟨tb2_of 163 rfl rfl, tb2_of 164 rfl rfl, tb2_of 165 rfl rfl, by decide +kernel⟩
theorem cvX6_33 : x_CV RX6 MX6_takeOfEach 33 3 := ⟨tb2_of 167 rfl rfl, tb2_of 169 rfl rfl, tb0_of 5 (by decide +kernel) (by decide +kernel), by decide +kernel⟩
theorem cvX3_73 : x_CV RX3 MX6_gather 73 2 := ⟨tb5_of 142 rfl rfl, tb2_of 135 rfl rfl, tb2_of 136 rfl rfl, by decide +kernel⟩
theorem cvX3_77 : x_CV RX3 MX6_size 77 0 := ⟨tb5_of 143 rfl rfl, tb2_of 176 rfl rfl, tb2_of 177 rfl rfl, by decide +kernel⟩
theorem cvX3_80 : x_CV RX3 MX6_at 80 1 := ⟨tb5_of 144 rfl rfl, tb2_of 180 rfl rfl, tb2_of 181 rfl rfl, by decide +kernel⟩
theorem cvX3_82 : x_CV RX3 MX10_kindAt 82 1 := ⟨tb5_of 145 rfl rfl, tb2_of 164 rfl rfl, tb2_of 165 rfl rfl, by decide +kernel⟩
theorem cvX3_85 : x_CV RX3 MX10_numberAt 85 1 := ⟨tb5_of 146 rfl rfl, tb2_of 196 rfl rfl, tb2_of 197 rfl rfl, by decide +kernel⟩
theorem cvX3_55 : x_CV RX3 MX8_at 55 1 := ⟨tb5_of 137 rfl rfl, tb2_of 122 rfl rfl, tb2_of 123 rfl rfl, by decide +kernel⟩
theorem csX3_100 : x_CS RX3 MX10_order 100 4 := ⟨tb5_of 159 rfl rfl, tb2_of 189 rfl rfl, by decide +kernel⟩
theorem cvX3_92 : x_CV RX3 MX3_orderTo 92 4 := ⟨tb5_of 155 rfl rfl, tb5_of 157 rfl rfl, tb0_of 31 (by decide +kernel) (by decide +kernel), by decide +kernel⟩
theorem cvX3_96 : x_CV RX3 MX3_makeGroup 96 3 := ⟨tb5_of 160 rfl rfl, tb5_of 162 rfl rfl, tb0_of 32 (by decide +kernel) (by decide +kernel), by decide +kernel⟩
theorem cvX3_88 : x_CV RX3 MX3_groupFor 88 3 := ⟨tb5_of 151 rfl rfl, tb5_of 153 rfl rfl, tb0_of 30 (by decide +kernel) (by decide +kernel), by decide +kernel⟩
theorem cvX10_44 : x_CV RX10 MX10_kindAt 44 1 := ⟨tb5_of 174 rfl rfl, tb2_of 164 rfl rfl, tb2_of 165 rfl rfl, by decide +kernel⟩
theorem cvX10_47 : x_CV RX10 MX10_numberAt 47 1 := ⟨tb5_of 175 rfl rfl, tb2_of 196 rfl rfl, tb2_of 197 rfl rfl, by decide +kernel⟩
theorem cvX10_50 : x_CV RX10 MX10_wordAt 50 1 := ⟨tb5_of 176 rfl rfl, tb4_of 24 rfl rfl, tb4_of 25 rfl rfl, by decide +kernel⟩
theorem cvX10_53 : x_CV RX10 MX10_widthAt 53 1 := ⟨tb5_of 177 rfl rfl, tb2_of 192 rfl rfl, tb2_of 193 rfl rfl, by decide +kernel⟩
theorem cvX10_38 : x_CV RX10 MX10_printOn 38 3 := ⟨tb5_of 169 rfl rfl, tb5_of 171 rfl rfl, tb0_of 33 (by decide +kernel) (by decide +kernel), by decide +kernel⟩
theorem cvX3_39 : x_CV RX3 MX7_foundSize 39 0 := ⟨tb5_of 134 rfl rfl, tb5_of 99 rfl rfl, tb5_of 100 rfl rfl, by decide +kernel⟩
theorem cvX3_45 : x_CV RX3 MX7_foundAt 45 1 := ⟨tb5_of 135 rfl rfl, tb5_of 104 rfl rfl, tb5_of 105 rfl rfl, by decide +kernel⟩
theorem cvX3_49 : x_CV RX3 MX8_has 49 1 := ⟨tb5_of 136 rfl rfl, tb2_of 118 rfl rfl, tb2_of 119 rfl rfl, by decide +kernel⟩
theorem cvX3_59 : x_CV RX3 MX3_sumOf 59 2 := ⟨tb5_of 138 rfl rfl, tb5_of 140 rfl rfl, tb0_of 28 (by decide +kernel) (by decide +kernel), by decide +kernel⟩
theorem cvX3_63 : x_CV RX3 MX3_takeIn 63 4 := ⟨tb5_of 147 rfl rfl, tb5_of 149 rfl rfl, tb0_of 29 (by decide +kernel) (by decide +kernel), by decide +kernel⟩
theorem cvX3_67 : x_CV RX3 MX10_printAt 67 1 := ⟨tb5_of 164 rfl rfl, tb5_of 165 rfl rfl, tb5_of 166 rfl rfl, by decide +kernel⟩
theorem ciX4_30 : x_CIN RX4 MX6_init 30 0 := ⟨List.mem_of_getElem? (i := 3) (by decide +kernel), tb1_of 180 rfl rfl, rfl, rfl, by decide +kernel⟩
theorem cvX4_39 : x_CV RX4 MX4_indexOfPlan 39 1 := ⟨tb4_of 218 rfl rfl, tb4_of 219 rfl rfl, tb4_of 220 rfl rfl, by decide +kernel⟩
theorem cvX4_43 : x_CV RX4 MX4_forgetPlan 43 1 := ⟨tb4_of 222 rfl rfl, tb4_of 223 rfl rfl, tb4_of 224 rfl rfl, by decide +kernel⟩
theorem cvX4_79 : x_CV RX4 MX6_at 79 1 := ⟨tb6_of 133 rfl rfl, tb2_of 180 rfl rfl, tb2_of 181 rfl rfl, by decide +kernel⟩
theorem csX4_81 : x_CS RX4 MX10_order 81 4 := ⟨tb6_of 134 rfl rfl, tb2_of 189 rfl rfl, by decide +kernel⟩
theorem cvX4_61 : x_CV RX4 MX4_pathOf 61 1 := ⟨tb5_of 58 rfl rfl, tb5_of 45 rfl rfl, tb5_of 46 rfl rfl, by decide +kernel⟩
theorem cvX4_64 : x_CV RX4 MX6_gather 64 2 := ⟨tb5_of 59 rfl rfl, tb2_of 135 rfl rfl, tb2_of 136 rfl rfl, by decide +kernel⟩
theorem cvX4_68 : x_CV RX4 MX6_size 68 0 := ⟨tb5_of 60 rfl rfl, tb2_of 176 rfl rfl, tb2_of 177 rfl rfl, by decide +kernel⟩
theorem cvX4_72 : x_CV RX4 MX4_isFirst 72 2 := ⟨tb6_of 129 rfl rfl, tb6_of 131 rfl rfl, tb0_of 37 (by decide +kernel) (by decide +kernel), by decide +kernel⟩
theorem cvX4_76 : x_CV RX4 MX4_hasEntryForNone 76 1 := ⟨tb5_of 62 rfl rfl, tb5_of 64 rfl rfl, tb0_of 25 (by decide +kernel) (by decide +kernel), by decide +kernel⟩
theorem cvX4_47 : x_CV RX4 MX8_has 47 1 := ⟨tb5_of 56 rfl rfl, tb2_of 118 rfl rfl, tb2_of 119 rfl rfl, by decide +kernel⟩
theorem cvX4_53 : x_CV RX4 MX8_at 53 1 := ⟨tb5_of 57 rfl rfl, tb2_of 122 rfl rfl, tb2_of 123 rfl rfl, by decide +kernel⟩
theorem cvX4_57 : x_CV RX4 MX4_entriesFor 57 2 := ⟨tb6_of 125 rfl rfl, tb6_of 127 rfl rfl, tb0_of 36 (by decide +kernel) (by decide +kernel), by decide +kernel⟩
theorem cvX4_87 : x_CV RX4 MX2_fitsSome 87 2 := ⟨tb5_of 61 rfl rfl, tb2_of 172 rfl rfl, tb2_of 173 rfl rfl, by decide +kernel⟩
theorem cvX4_93 : x_CV RX4 MX2_fitsNothing 93 0 := ⟨tb5_of 66 rfl rfl, tb5_of 67 rfl rfl, tb5_of 68 rfl rfl, by decide +kernel⟩
theorem ciX5_17 : x_CI RX5 MX10_init 17 1 := ⟨tb1_of 39 rfl rfl, tb1_of 40 rfl rfl, rfl, rfl, by decide +kernel⟩
theorem cvX5_39 : x_CV RX5 MX5_at 39 1 := ⟨tb3_of 80 rfl rfl, tb3_of 82 rfl rfl, tb0_of 10 (by decide +kernel) (by decide +kernel), by decide +kernel⟩
theorem cvX5_28 : x_CV RX5 MX5_isFull 28 0 := ⟨tb3_of 75 rfl rfl, tb3_of 0 rfl rfl, tb3_of 1 rfl rfl, by decide +kernel⟩
theorem cvX5_32 : x_CV RX5 MX5_top 32 0 := ⟨tb3_of 76 rfl rfl, tb3_of 77 rfl rfl, tb3_of 78 rfl rfl, by decide +kernel⟩
theorem cvX5_36 : x_CV RX5 MX10_become 36 1 := ⟨tb3_of 84 rfl rfl, tb3_of 85 rfl rfl, tb3_of 86 rfl rfl, by decide +kernel⟩
theorem ciX7_17 : x_CIN RX7 MX2_init 17 0 := ⟨List.mem_of_getElem? (i := 4) (by decide +kernel), tb1_of 222 rfl rfl, rfl, rfl, by decide +kernel⟩
theorem ciX7_24 : x_CIN RX7 MX6_init 24 0 := ⟨List.mem_of_getElem? (i := 6) (by decide +kernel), tb1_of 180 rfl rfl, rfl, rfl, by decide +kernel⟩
theorem cvX7_53 : x_CV RX7 MX7_isFull 53 0 := ⟨tb5_of 4 rfl rfl, tb4_of 235 rfl rfl, tb4_of 236 rfl rfl, by decide +kernel⟩
theorem cvX7_57 : x_CV RX7 MX7_filterAt 57 1 := ⟨tb2_of 130 rfl rfl, tb2_of 132 rfl rfl, tb0_of 2 (by decide +kernel) (by decide +kernel), by decide +kernel⟩
theorem cvX7_61 : x_CV RX7 MX2_become 61 3 := ⟨tb5_of 5 rfl rfl, tb5_of 6 rfl rfl, tb5_of 7 rfl rfl, by decide +kernel⟩
theorem cvX7_82 : x_CV RX7 MX6_gather 82 2 := ⟨tb2_of 134 rfl rfl, tb2_of 135 rfl rfl, tb2_of 136 rfl rfl, by decide +kernel⟩
theorem cvX7_86 : x_CV RX7 MX2_fitsSome 86 2 := ⟨tb2_of 171 rfl rfl, tb2_of 172 rfl rfl, tb2_of 173 rfl rfl, by decide +kernel⟩
theorem cvX7_65 : x_CV RX7 MX8_has 65 1 := ⟨tb2_of 117 rfl rfl, tb2_of 118 rfl rfl, tb2_of 119 rfl rfl, by decide +kernel⟩
theorem cvX7_71 : x_CV RX7 MX8_at 71 1 := ⟨tb2_of 121 rfl rfl, tb2_of 122 rfl rfl, tb2_of 123 rfl rfl, by decide +kernel⟩
theorem cvX7_75 : x_CV RX7 MX7_fitsAll 75 1 := ⟨tb2_of 126 rfl rfl, tb2_of 128 rfl rfl, tb0_of 1 (by decide +kernel) (by decide +kernel), by decide +kernel⟩
theorem cvX7_90 : x_CV RX7 MX2_shape 90 0 := ⟨tb5_of 29 rfl rfl, tb5_of 30 rfl rfl, tb5_of 31 rfl rfl, by decide +kernel⟩
theorem cvX7_133 : x_CV RX7 MX4_has 133 1 := ⟨tb5_of 43 rfl rfl, tb4_of 210 rfl rfl, tb4_of 211 rfl rfl, by decide +kernel⟩
theorem cvX7_134 : x_CV RX7 MX4_pathOf 134 1 := ⟨tb5_of 44 rfl rfl, tb5_of 45 rfl rfl, tb5_of 46 rfl rfl, by decide +kernel⟩
theorem cvX7_137 : x_CV RX7 MX2_isFor 137 1 := ⟨tb5_of 48 rfl rfl, tb5_of 49 rfl rfl, tb5_of 50 rfl rfl, by decide +kernel⟩
theorem cvX7_106 : x_CV RX7 MX7_filterFor 106 2 := ⟨tb5_of 39 rfl rfl, tb5_of 41 rfl rfl, tb0_of 24 (by decide +kernel) (by decide +kernel), by decide +kernel⟩
theorem cvX7_110 : x_CV RX7 MX4_countLooked 110 3 := ⟨tb5_of 52 rfl rfl, tb5_of 53 rfl rfl, tb5_of 54 rfl rfl, by decide +kernel⟩
theorem cvX7_129 : x_CV RX7 MX7_tryPlan 129 2 := ⟨tb5_of 79 rfl rfl, tb5_of 81 rfl rfl, tb0_of 27 (by decide +kernel) (by decide +kernel), by decide +kernel⟩
theorem cvX7_104 : x_CV RX7 MX8_size 104 0 := ⟨tb5_of 38 rfl rfl, tb2_of 209 rfl rfl, tb2_of 210 rfl rfl, by decide +kernel⟩
theorem cvX7_94 : x_CV RX7 MX7_shape 94 0 := ⟨tb5_of 25 rfl rfl, tb5_of 27 rfl rfl, tb0_of 23 (by decide +kernel) (by decide +kernel), by decide +kernel⟩
theorem cvX7_95 : x_CV RX7 MX4_planFor 95 1 := ⟨tb5_of 33 rfl rfl, tb5_of 34 rfl rfl, tb5_of 35 rfl rfl, by decide +kernel⟩
theorem cvX7_101 : x_CV RX7 MX4_indexOfPlan 101 1 := ⟨tb5_of 37 rfl rfl, tb4_of 219 rfl rfl, tb4_of 220 rfl rfl, by decide +kernel⟩
theorem cvX7_114 : x_CV RX7 MX4_looksOfPlan 114 1 := ⟨tb5_of 70 rfl rfl, tb5_of 71 rfl rfl, tb5_of 72 rfl rfl, by decide +kernel⟩
theorem cvX7_117 : x_CV RX7 MX4_forgetPlan 117 1 := ⟨tb5_of 74 rfl rfl, tb4_of 223 rfl rfl, tb4_of 224 rfl rfl, by decide +kernel⟩
theorem cvX7_121 : x_CV RX7 MX7_tryPlans 121 2 := ⟨tb5_of 75 rfl rfl, tb5_of 77 rfl rfl, tb0_of 26 (by decide +kernel) (by decide +kernel), by decide +kernel⟩
theorem cvX7_125 : x_CV RX7 MX4_keepPlan 125 3 := ⟨tb5_of 83 rfl rfl, tb5_of 84 rfl rfl, tb5_of 85 rfl rfl, by decide +kernel⟩
theorem ciX8_25 : x_CI RX8 MX10_init 25 1 := ⟨tb1_of 69 rfl rfl, tb1_of 40 rfl rfl, rfl, rfl, by decide +kernel⟩
theorem cvX8_40 : x_CV RX8 MX8_at 40 1 := ⟨tb3_of 236 rfl rfl, tb2_of 122 rfl rfl, tb2_of 123 rfl rfl, by decide +kernel⟩
theorem cvX8_44 : x_CV RX8 MX10_become_ 44 1 := ⟨tb3_of 237 rfl rfl, tb3_of 238 rfl rfl, tb3_of 239 rfl rfl, by decide +kernel⟩
theorem cvX8_52 : x_CV RX8 MX10_placeOf 52 2 := ⟨tb3_of 227 rfl rfl, tb2_of 139 rfl rfl, tb2_of 140 rfl rfl, by decide +kernel⟩
theorem cvX8_56 : x_CV RX8 MX10_kindAt 56 1 := ⟨tb3_of 228 rfl rfl, tb2_of 164 rfl rfl, tb2_of 165 rfl rfl, by decide +kernel⟩
theorem csX8_48 : x_CS RX8 MX8_keeps 48 3 := ⟨tb3_of 224 rfl rfl, tb3_of 225 rfl rfl, by decide +kernel⟩
theorem cvX10_26 : x_CV RX10 MX10_partsAt 26 1 := ⟨tb3_of 170 rfl rfl, tb3_of 171 rfl rfl, tb3_of 172 rfl rfl, by decide +kernel⟩
theorem ciX11_11 : x_CI RX11 MX5_init 11 0 := ⟨tb1_of 32 rfl rfl, tb1_of 33 rfl rfl, rfl, rfl, by decide +kernel⟩
theorem ciX11_18 : x_CI RX11 MX8_init 18 0 := ⟨tb1_of 64 rfl rfl, tb1_of 65 rfl rfl, rfl, rfl, by decide +kernel⟩
theorem ciX11_25 : x_CI RX11 MX0_init 25 0 := ⟨tb1_of 89 rfl rfl, tb1_of 90 rfl rfl, rfl, rfl, by decide +kernel⟩
theorem ciX11_32 : x_CIN RX11 MX9_init 32 0 := ⟨List.mem_of_getElem? (i := 1) (by decide +kernel), tb1_of 140 rfl rfl, rfl, rfl, by decide +kernel⟩
theorem ciX11_39 : x_CIN RX11 MX1_init 39 0 := ⟨List.mem_of_getElem? (i := 2) (by decide +kernel), tb1_of 159 rfl rfl, rfl, rfl, by decide +kernel⟩
theorem ciX11_46 : x_CI RX11 MX4_init 46 0 := ⟨tb1_of 173 rfl rfl, tb1_of 174 rfl rfl, rfl, rfl, by decide +kernel⟩
theorem ciX11_53 : x_CI RX11 MX7_init 53 0 := ⟨tb1_of 214 rfl rfl, tb1_of 215 rfl rfl, rfl, rfl, by decide +kernel⟩
theorem ciX11_60 : x_CIN RX11 MX3_init 60 0 := ⟨List.mem_of_getElem? (i := 7) (by decide +kernel), tb2_of 34 rfl rfl, rfl, rfl, by decide +kernel⟩
theorem cvX11_408 : x_CV RX11 MX5_isFull 408 0 := ⟨tb2_of 239 rfl rfl, tb3_of 0 rfl rfl, tb3_of 1 rfl rfl, by decide +kernel⟩
theorem cvX11_411 : x_CV RX11 MX5_put 411 1 := ⟨tb3_of 71 rfl rfl, tb3_of 72 rfl rfl, tb3_of 73 rfl rfl, by decide +kernel⟩
theorem cvX11_74 : x_CV RX11 MX11_pileUp 74 1 := ⟨tb2_of 235 rfl rfl, tb2_of 237 rfl rfl, tb0_of 8 (by decide +kernel) (by decide +kernel), by decide +kernel⟩
theorem csX11_78 : x_CS RX11 MX11_isNumber 78 1 := ⟨tb3_of 111 rfl rfl, tb3_of 112 rfl rfl, by decide +kernel⟩
theorem cvX11_91 : x_CV RX11 MX5_below 91 0 := ⟨tb3_of 159 rfl rfl, tb3_of 160 rfl rfl, tb3_of 161 rfl rfl, by decide +kernel⟩
theorem cvX11_95 : x_CV RX11 MX5_top 95 0 := ⟨tb3_of 163 rfl rfl, tb3_of 77 rfl rfl, tb3_of 78 rfl rfl, by decide +kernel⟩
theorem cvX11_98 : x_CV RX11 MX10_kindAt 98 1 := ⟨tb3_of 164 rfl rfl, tb2_of 164 rfl rfl, tb2_of 165 rfl rfl, by decide +kernel⟩
theorem cvX11_106 : x_CV RX11 MX10_parts 106 0 := ⟨tb3_of 166 rfl rfl, tb3_of 167 rfl rfl, tb3_of 168 rfl rfl, by decide +kernel⟩
theorem cvX11_112 : x_CV RX11 MX10_putBehind 112 2 := ⟨tb3_of 179 rfl rfl, tb3_of 180 rfl rfl, tb3_of 181 rfl rfl, by decide +kernel⟩
theorem cvX11_116 : x_CV RX11 MX5_takeTop 116 0 := ⟨tb3_of 187 rfl rfl, tb3_of 188 rfl rfl, tb3_of 189 rfl rfl, by decide +kernel⟩
theorem csX11_119 : x_CS RX11 MX11_isField 119 1 := ⟨tb3_of 198 rfl rfl, tb3_of 199 rfl rfl, by decide +kernel⟩
theorem cvX11_126 : x_CV RX11 MX10_placeOf 126 2 := ⟨tb3_of 203 rfl rfl, tb2_of 139 rfl rfl, tb2_of 140 rfl rfl, by decide +kernel⟩
theorem cvX11_130 : x_CV RX11 MX10_partsAt 130 1 := ⟨tb3_of 204 rfl rfl, tb3_of 171 rfl rfl, tb3_of 172 rfl rfl, by decide +kernel⟩
theorem cvX11_133 : x_CV RX11 MX10_setField 133 3 := ⟨tb3_of 205 rfl rfl, tb3_of 206 rfl rfl, tb3_of 207 rfl rfl, by decide +kernel⟩
theorem cvX11_137 : x_CV RX11 MX5_takeAll 137 0 := ⟨tb2_of 97 rfl rfl, tb2_of 98 rfl rfl, tb2_of 99 rfl rfl, by decide +kernel⟩
theorem cvX11_182 : x_CV RX11 MX8_at 182 1 := ⟨tb4_of 5 rfl rfl, tb2_of 122 rfl rfl, tb2_of 123 rfl rfl, by decide +kernel⟩
theorem cvX11_363 : x_CV RX11 MX0_shardOf 363 1 := ⟨tb4_of 6 rfl rfl, tb4_of 7 rfl rfl, tb4_of 8 rfl rfl, by decide +kernel⟩
theorem cvX11_201 : x_CV RX11 MX0_useRouter 201 1 := ⟨tb4_of 39 rfl rfl, tb4_of 40 rfl rfl, tb4_of 41 rfl rfl, by decide +kernel⟩
theorem cvX11_413 : x_CV RX11 MX0_copyAtOnce 413 2 := ⟨tb4_of 43 rfl rfl, tb4_of 44 rfl rfl, tb4_of 45 rfl rfl, by decide +kernel⟩
theorem cvX11_416 : x_CV RX11 MX9_put 416 3 := ⟨tb4_of 51 rfl rfl, tb4_of 52 rfl rfl, tb4_of 53 rfl rfl, by decide +kernel⟩
theorem csX11_140 : x_CS RX11 MX11_isRouter 140 1 := ⟨tb3_of 216 rfl rfl, tb3_of 217 rfl rfl, by decide +kernel⟩
theorem cvX11_145 : x_CV RX11 MX8_keepsRules 145 1 := ⟨tb3_of 220 rfl rfl, tb3_of 221 rfl rfl, tb3_of 222 rfl rfl, by decide +kernel⟩
theorem cvX11_151 : x_CV RX11 MX8_has 151 1 := ⟨tb3_of 230 rfl rfl, tb2_of 118 rfl rfl, tb2_of 119 rfl rfl, by decide +kernel⟩
theorem cvX11_154 : x_CV RX11 MX8_size 154 0 := ⟨tb2_of 208 rfl rfl, tb2_of 209 rfl rfl, tb2_of 210 rfl rfl, by decide +kernel⟩
theorem cvX11_159 : x_CV RX11 MX8_put 159 2 := ⟨tb3_of 232 rfl rfl, tb3_of 233 rfl rfl, tb3_of 234 rfl rfl, by decide +kernel⟩
theorem cvX11_162 : x_CV RX11 MX11_tellChange 162 3 := ⟨tb4_of 1 rfl rfl, tb4_of 3 rfl rfl, tb0_of 14 (by decide +kernel) (by decide +kernel), by decide +kernel⟩
theorem csX11_171 : x_CS RX11 MX11_isPath 171 1 := ⟨tb4_of 79 rfl rfl, tb4_of 80 rfl rfl, by decide +kernel⟩
theorem cvX11_176 : x_CV RX11 MX5_isEmpty 176 0 := ⟨tb4_of 83 rfl rfl, tb4_of 84 rfl rfl, tb4_of 85 rfl rfl, by decide +kernel⟩
theorem cvX11_186 : x_CV RX11 MX1_canEdit 186 4 := ⟨tb4_of 88 rfl rfl, tb4_of 89 rfl rfl, tb4_of 90 rfl rfl, by decide +kernel⟩
theorem cvX11_192 : x_CV RX11 MX1_edited 192 0 := ⟨tb4_of 138 rfl rfl, tb4_of 139 rfl rfl, tb4_of 140 rfl rfl, by decide +kernel⟩
theorem csX11_197 : x_CS RX11 MX10_order 197 4 := ⟨tb4_of 143 rfl rfl, tb2_of 189 rfl rfl, by decide +kernel⟩
theorem cvX11_419 : x_CV RX11 MX8_takeOut 419 1 := ⟨tb4_of 156 rfl rfl, tb4_of 157 rfl rfl, tb4_of 158 rfl rfl, by decide +kernel⟩
theorem cvX11_422 : x_CV RX11 MX0_dropCopy 422 1 := ⟨tb4_of 160 rfl rfl, tb4_of 161 rfl rfl, tb4_of 162 rfl rfl, by decide +kernel⟩
theorem cvX11_207 : x_CV RX11 MX11_takeAway 207 1 := ⟨tb4_of 152 rfl rfl, tb4_of 154 rfl rfl, tb0_of 22 (by decide +kernel) (by decide +kernel), by decide +kernel⟩
theorem cvX11_212 : x_CV RX11 MX8_allKeep 212 2 := ⟨tb4_of 172 rfl rfl, tb4_of 173 rfl rfl, tb4_of 174 rfl rfl, by decide +kernel⟩
theorem cvX11_218 : x_CV RX11 MX8_setRule 218 2 := ⟨tb4_of 177 rfl rfl, tb4_of 178 rfl rfl, tb4_of 179 rfl rfl, by decide +kernel⟩
theorem cvX11_223 : x_CV RX11 MX4_lowestFree 223 0 := ⟨tb4_of 189 rfl rfl, tb4_of 190 rfl rfl, tb4_of 191 rfl rfl, by decide +kernel⟩
theorem cvX11_226 : x_CV RX11 MX4_hasPath 226 1 := ⟨tb4_of 193 rfl rfl, tb4_of 194 rfl rfl, tb4_of 195 rfl rfl, by decide +kernel⟩
theorem cvX11_231 : x_CV RX11 MX4_make 231 3 := ⟨tb4_of 198 rfl rfl, tb4_of 199 rfl rfl, tb4_of 200 rfl rfl, by decide +kernel⟩
theorem cvX11_235 : x_CV RX11 MX4_has 235 1 := ⟨tb4_of 209 rfl rfl, tb4_of 210 rfl rfl, tb4_of 211 rfl rfl, by decide +kernel⟩
theorem cvX11_238 : x_CV RX11 MX4_abolish 238 1 := ⟨tb4_of 214 rfl rfl, tb4_of 215 rfl rfl, tb4_of 216 rfl rfl, by decide +kernel⟩
theorem cvX11_243 : x_CV RX11 MX7_isFull 243 0 := ⟨tb4_of 234 rfl rfl, tb4_of 235 rfl rfl, tb4_of 236 rfl rfl, by decide +kernel⟩
theorem cvX11_250 : x_CV RX11 MX7_addFilter 250 3 := ⟨tb5_of 0 rfl rfl, tb5_of 1 rfl rfl, tb5_of 2 rfl rfl, by decide +kernel⟩
theorem cvX11_253 : x_CV RX11 MX7_size 253 0 := ⟨tb5_of 10 rfl rfl, tb5_of 11 rfl rfl, tb5_of 12 rfl rfl, by decide +kernel⟩
theorem cvX11_254 : x_CV RX11 MX7_takeAllFilters 254 0 := ⟨tb2_of 105 rfl rfl, tb2_of 106 rfl rfl, tb2_of 107 rfl rfl, by decide +kernel⟩
theorem cvX11_257 : x_CV RX11 MX7_choosePlan 257 2 := ⟨tb5_of 21 rfl rfl, tb5_of 22 rfl rfl, tb5_of 23 rfl rfl, by decide +kernel⟩
theorem cvX11_261 : x_CV RX11 MX7_search 261 1 := ⟨tb5_of 87 rfl rfl, tb5_of 88 rfl rfl, tb5_of 89 rfl rfl, by decide +kernel⟩
theorem cvX11_265 : x_CV RX11 MX7_foundSize 265 0 := ⟨tb5_of 98 rfl rfl, tb5_of 99 rfl rfl, tb5_of 100 rfl rfl, by decide +kernel⟩
theorem cvX11_270 : x_CV RX11 MX7_foundAt 270 1 := ⟨tb5_of 103 rfl rfl, tb5_of 104 rfl rfl, tb5_of 105 rfl rfl, by decide +kernel⟩
theorem cvX11_273 : x_CV RX11 MX7_countFitting 273 1 := ⟨tb2_of 113 rfl rfl, tb2_of 114 rfl rfl, tb2_of 115 rfl rfl, by decide +kernel⟩
theorem cvX11_278 : x_CV RX11 MX4_plansKept 278 0 := ⟨tb5_of 115 rfl rfl, tb5_of 116 rfl rfl, tb5_of 117 rfl rfl, by decide +kernel⟩
theorem cvX11_281 : x_CV RX11 MX7_latest 281 1 := ⟨tb5_of 119 rfl rfl, tb5_of 120 rfl rfl, tb5_of 121 rfl rfl, by decide +kernel⟩
theorem cvX11_284 : x_CV RX11 MX3_build 284 4 := ⟨tb5_of 130 rfl rfl, tb5_of 131 rfl rfl, tb5_of 132 rfl rfl, by decide +kernel⟩
theorem cvX11_288 : x_CV RX11 MX3_size 288 0 := ⟨tb5_of 185 rfl rfl, tb5_of 186 rfl rfl, tb5_of 187 rfl rfl, by decide +kernel⟩
theorem cvX11_291 : x_CV RX11 MX3_tell 291 2 := ⟨tb5_of 190 rfl rfl, tb5_of 191 rfl rfl, tb5_of 192 rfl rfl, by decide +kernel⟩
theorem cvX11_295 : x_CV RX11 MX0_has 295 1 := ⟨tb5_of 201 rfl rfl, tb4_of 32 rfl rfl, tb4_of 33 rfl rfl, by decide +kernel⟩
theorem cvX11_298 : x_CV RX11 MX0_firstOf 298 1 := ⟨tb5_of 203 rfl rfl, tb4_of 28 rfl rfl, tb4_of 29 rfl rfl, by decide +kernel⟩
theorem cvX11_301 : x_CV RX11 MX0_endOf 301 1 := ⟨tb5_of 204 rfl rfl, tb5_of 205 rfl rfl, tb5_of 206 rfl rfl, by decide +kernel⟩
theorem cvX11_306 : x_CV RX11 MX0_isMoving 306 1 := ⟨tb5_of 209 rfl rfl, tb5_of 210 rfl rfl, tb5_of 211 rfl rfl, by decide +kernel⟩
theorem cvX11_309 : x_CV RX11 MX0_size 309 0 := ⟨tb5_of 213 rfl rfl, tb5_of 214 rfl rfl, tb5_of 215 rfl rfl, by decide +kernel⟩
theorem cvX11_312 : x_CV RX11 MX0_cut 312 2 := ⟨tb5_of 218 rfl rfl, tb5_of 219 rfl rfl, tb5_of 220 rfl rfl, by decide +kernel⟩
theorem csX11_316 : x_CS RX11 MX11_isShard 316 1 := ⟨tb5_of 229 rfl rfl, tb5_of 230 rfl rfl, by decide +kernel⟩
theorem cvX11_321 : x_CV RX11 MX0_ownerOf 321 1 := ⟨tb5_of 233 rfl rfl, tb4_of 36 rfl rfl, tb4_of 37 rfl rfl, by decide +kernel⟩
theorem cvX11_324 : x_CV RX11 MX0_hasMove 324 0 := ⟨tb5_of 234 rfl rfl, tb4_of 48 rfl rfl, tb4_of 49 rfl rfl, by decide +kernel⟩
theorem cvX11_329 : x_CV RX11 MX0_beginMove 329 2 := ⟨tb5_of 236 rfl rfl, tb5_of 237 rfl rfl, tb5_of 238 rfl rfl, by decide +kernel⟩
theorem cvX11_332 : x_CV RX11 MX0_countLeft 332 1 := ⟨tb6_of 0 rfl rfl, tb6_of 1 rfl rfl, tb6_of 2 rfl rfl, by decide +kernel⟩
theorem cvX11_339 : x_CV RX11 MX0_copySome 339 2 := ⟨tb6_of 19 rfl rfl, tb6_of 20 rfl rfl, tb6_of 21 rfl rfl, by decide +kernel⟩
theorem cvX11_345 : x_CV RX11 MX0_finishMove 345 1 := ⟨tb6_of 31 rfl rfl, tb6_of 32 rfl rfl, tb6_of 33 rfl rfl, by decide +kernel⟩
theorem cvX11_348 : x_CV RX11 MX0_endMove 348 0 := ⟨tb6_of 50 rfl rfl, tb6_of 40 rfl rfl, tb6_of 41 rfl rfl, by decide +kernel⟩
theorem cvX11_351 : x_CV RX11 MX0_takeOrphans 351 1 := ⟨tb6_of 58 rfl rfl, tb6_of 59 rfl rfl, tb6_of 60 rfl rfl, by decide +kernel⟩
theorem cvX11_356 : x_CV RX11 MX0_shardAnew 356 3 := ⟨tb6_of 74 rfl rfl, tb6_of 75 rfl rfl, tb6_of 76 rfl rfl, by decide +kernel⟩
theorem cvX11_425 : x_CV RX11 MX10_numberAt 425 1 := ⟨tb6_of 97 rfl rfl, tb2_of 196 rfl rfl, tb2_of 197 rfl rfl, by decide +kernel⟩
theorem cvX11_360 : x_CV RX11 MX11_isExpired 360 1 := ⟨tb6_of 93 rfl rfl, tb6_of 95 rfl rfl, tb0_of 35 (by decide +kernel) (by decide +kernel), by decide +kernel⟩
theorem cvX11_367 : x_CV RX11 MX0_keyOf 367 1 := ⟨tb6_of 105 rfl rfl, tb4_of 15 rfl rfl, tb4_of 16 rfl rfl, by decide +kernel⟩
theorem cvX11_370 : x_CV RX11 MX10_printAt 370 1 := ⟨tb6_of 113 rfl rfl, tb5_of 165 rfl rfl, tb5_of 166 rfl rfl, by decide +kernel⟩
theorem cvX11_374 : x_CV RX11 MX4_countEntries 374 2 := ⟨tb6_of 121 rfl rfl, tb6_of 122 rfl rfl, tb6_of 123 rfl rfl, by decide +kernel⟩
theorem cvX11_378 : x_CV RX11 MX0_countIn 378 2 := ⟨tb6_of 149 rfl rfl, tb6_of 36 rfl rfl, tb6_of 37 rfl rfl, by decide +kernel⟩
theorem cvX11_383 : x_CV RX11 MX0_countAt 383 2 := ⟨tb6_of 158 rfl rfl, tb6_of 159 rfl rfl, tb6_of 160 rfl rfl, by decide +kernel⟩
theorem cvX11_386 : x_CV RX11 MX0_orphansOf 386 1 := ⟨tb6_of 162 rfl rfl, tb6_of 63 rfl rfl, tb6_of 64 rfl rfl, by decide +kernel⟩
theorem cvX11_389 : x_CV RX11 MX0_copiesAt 389 1 := ⟨tb6_of 163 rfl rfl, tb6_of 164 rfl rfl, tb6_of 165 rfl rfl, by decide +kernel⟩
theorem cvX11_394 : x_CV RX11 MX0_routerVersion 394 1 := ⟨tb6_of 175 rfl rfl, tb6_of 176 rfl rfl, tb6_of 177 rfl rfl, by decide +kernel⟩
theorem cvX11_397 : x_CV RX11 MX0_routerStale 397 1 := ⟨tb6_of 179 rfl rfl, tb6_of 180 rfl rfl, tb6_of 181 rfl rfl, by decide +kernel⟩
theorem cvX11_400 : x_CV RX11 MX9_firstBehind 400 1 := ⟨tb2_of 216 rfl rfl, tb2_of 217 rfl rfl, tb2_of 218 rfl rfl, by decide +kernel⟩
theorem cvX11_403 : x_CV RX11 MX9_has 403 1 := ⟨tb6_of 190 rfl rfl, tb6_of 191 rfl rfl, tb6_of 192 rfl rfl, by decide +kernel⟩
theorem cvX11_406 : x_CV RX11 MX9_tell 406 2 := ⟨tb6_of 195 rfl rfl, tb6_of 196 rfl rfl, tb6_of 197 rfl rfl, by decide +kernel⟩
theorem cvX12_115 : x_CV RX12 MX12_chunksAnew 115 0 := ⟨tb6_of 205 rfl rfl, tb6_of 207 rfl rfl, tb0_of 38 (by decide +kernel) (by decide +kernel), by decide +kernel⟩
theorem csX12_121 : x_CS RX12 MX12_isLong 121 1 := ⟨tb7_of 176 rfl rfl, tb7_of 177 rfl rfl, by decide +kernel⟩
theorem csX12_127 : x_CS RX12 MX12_behind 127 3 := ⟨tb7_of 173 rfl rfl, tb7_of 174 rfl rfl, by decide +kernel⟩
theorem cvX12_131 : x_CV RX12 MX12_end 131 2 := ⟨tb7_of 180 rfl rfl, tb7_of 182 rfl rfl, tb0_of 43 (by decide +kernel) (by decide +kernel), by decide +kernel⟩
theorem cvX12_139 : x_CV RX12 MX12_membersOf 139 2 := ⟨tb8_of 113 rfl rfl, tb8_of 115 rfl rfl, tb0_of 73 (by decide +kernel) (by decide +kernel), by decide +kernel⟩
theorem csX12_142 : x_CS RX12 MX12_block 142 1 := ⟨tb7_of 139 rfl rfl, tb7_of 140 rfl rfl, by decide +kernel⟩
theorem csX12_149 : x_CS RX12 MX12_pile 149 1 := ⟨tb7_of 136 rfl rfl, tb7_of 137 rfl rfl, by decide +kernel⟩
theorem cvX12_155 : x_CV RX12 MX12_fieldOf 155 3 := ⟨tb7_of 212 rfl rfl, tb7_of 214 rfl rfl, tb0_of 48 (by decide +kernel) (by decide +kernel), by decide +kernel⟩
theorem cvX12_159 : x_CV RX12 MX12_spot 159 1 := ⟨tb8_of 97 rfl rfl, tb8_of 99 rfl rfl, tb0_of 69 (by decide +kernel) (by decide +kernel), by decide +kernel⟩
theorem cvX12_163 : x_CV RX12 MX12_spotOf 163 2 := ⟨tb8_of 93 rfl rfl, tb8_of 95 rfl rfl, tb0_of 68 (by decide +kernel) (by decide +kernel), by decide +kernel⟩
theorem cvX12_167 : x_CV RX12 MX12_goes 167 3 := ⟨tb7_of 128 rfl rfl, tb7_of 130 rfl rfl, tb0_of 39 (by decide +kernel) (by decide +kernel), by decide +kernel⟩
theorem cvX12_171 : x_CV RX12 MX12_puts 171 3 := ⟨tb7_of 132 rfl rfl, tb7_of 134 rfl rfl, tb0_of 40 (by decide +kernel) (by decide +kernel), by decide +kernel⟩
theorem csX12_175 : x_CS RX12 MX12_in 175 3 := ⟨tb7_of 146 rfl rfl, tb7_of 147 rfl rfl, by decide +kernel⟩
theorem cvX12_182 : x_CV RX12 MX12_top 182 0 := ⟨tb7_of 165 rfl rfl, tb7_of 167 rfl rfl, tb0_of 41 (by decide +kernel) (by decide +kernel), by decide +kernel⟩
theorem cvX12_186 : x_CV RX12 MX12_parts 186 2 := ⟨tb7_of 169 rfl rfl, tb7_of 171 rfl rfl, tb0_of 42 (by decide +kernel) (by decide +kernel), by decide +kernel⟩
theorem cvX12_189 : x_CV RX12 MX12_adds 189 3 := ⟨tb7_of 184 rfl rfl, tb7_of 186 rfl rfl, tb0_of 44 (by decide +kernel) (by decide +kernel), by decide +kernel⟩
theorem cvX12_193 : x_CV RX12 MX12_lays 193 1 := ⟨tb7_of 188 rfl rfl, tb7_of 190 rfl rfl, tb0_of 45 (by decide +kernel) (by decide +kernel), by decide +kernel⟩
theorem cvX12_196 : x_CV RX12 MX12_builds 196 7 := ⟨tb7_of 196 rfl rfl, tb7_of 198 rfl rfl, tb0_of 46 (by decide +kernel) (by decide +kernel), by decide +kernel⟩
theorem csX12_210 : x_CS RX12 MX12_rest 210 1 := ⟨tb7_of 235 rfl rfl, tb7_of 236 rfl rfl, by decide +kernel⟩
theorem cvX12_214 : x_CV RX12 MX12_keyOf 214 1 := ⟨tb7_of 231 rfl rfl, tb7_of 233 rfl rfl, tb0_of 52 (by decide +kernel) (by decide +kernel), by decide +kernel⟩
theorem cvX12_217 : x_CV RX12 MX12_chunkOf 217 1 := ⟨tb7_of 227 rfl rfl, tb7_of 229 rfl rfl, tb0_of 51 (by decide +kernel) (by decide +kernel), by decide +kernel⟩
theorem csX12_223 : x_CS RX12 MX12_keeps 223 5 := ⟨tb7_of 216 rfl rfl, tb7_of 217 rfl rfl, by decide +kernel⟩
theorem cvX12_230 : x_CV RX12 MX12_keepsAll 230 2 := ⟨tb7_of 208 rfl rfl, tb7_of 210 rfl rfl, tb0_of 47 (by decide +kernel) (by decide +kernel), by decide +kernel⟩
theorem cvX12_234 : x_CV RX12 MX12_uses 234 1 := ⟨tb7_of 219 rfl rfl, tb7_of 221 rfl rfl, tb0_of 49 (by decide +kernel) (by decide +kernel), by decide +kernel⟩
theorem cvX12_237 : x_CV RX12 MX12_shardOf 237 1 := ⟨tb7_of 223 rfl rfl, tb7_of 225 rfl rfl, tb0_of 50 (by decide +kernel) (by decide +kernel), by decide +kernel⟩
theorem cvX12_240 : x_CV RX12 MX12_moving 240 0 := ⟨tb7_of 239 rfl rfl, tb8_of 1 rfl rfl, tb0_of 53 (by decide +kernel) (by decide +kernel), by decide +kernel⟩
theorem cvX12_243 : x_CV RX12 MX12_enters 243 3 := ⟨tb8_of 3 rfl rfl, tb8_of 5 rfl rfl, tb0_of 54 (by decide +kernel) (by decide +kernel), by decide +kernel⟩
theorem cvX12_250 : x_CV RX12 MX12_values 250 3 := ⟨tb8_of 23 rfl rfl, tb8_of 25 rfl rfl, tb0_of 58 (by decide +kernel) (by decide +kernel), by decide +kernel⟩
theorem cvX12_253 : x_CV RX12 MX12_compare 253 4 := ⟨tb8_of 27 rfl rfl, tb8_of 29 rfl rfl, tb0_of 59 (by decide +kernel) (by decide +kernel), by decide +kernel⟩
theorem cvX12_257 : x_CV RX12 MX12_works 257 2 := ⟨tb8_of 19 rfl rfl, tb8_of 21 rfl rfl, tb0_of 57 (by decide +kernel) (by decide +kernel), by decide +kernel⟩
theorem cvX12_261 : x_CV RX12 MX12_isThere 261 1 := ⟨tb8_of 11 rfl rfl, tb8_of 13 rfl rfl, tb0_of 55 (by decide +kernel) (by decide +kernel), by decide +kernel⟩
theorem cvX12_264 : x_CV RX12 MX12_updates 264 3 := ⟨tb8_of 15 rfl rfl, tb8_of 17 rfl rfl, tb0_of 56 (by decide +kernel) (by decide +kernel), by decide +kernel⟩
theorem cvX12_267 : x_CV RX12 MX12_removes 267 1 := ⟨tb8_of 35 rfl rfl, tb8_of 37 rfl rfl, tb0_of 60 (by decide +kernel) (by decide +kernel), by decide +kernel⟩
theorem cvX12_273 : x_CV RX12 MX12_isIndex 273 1 := ⟨tb8_of 51 rfl rfl, tb8_of 53 rfl rfl, tb0_of 61 (by decide +kernel) (by decide +kernel), by decide +kernel⟩
theorem cvX12_276 : x_CV RX12 MX12_dropPlan 276 1 := ⟨tb8_of 55 rfl rfl, tb8_of 57 rfl rfl, tb0_of 62 (by decide +kernel) (by decide +kernel), by decide +kernel⟩
theorem cvX12_282 : x_CV RX12 MX12_filterAt 282 1 := ⟨tb8_of 63 rfl rfl, tb8_of 65 rfl rfl, tb0_of 63 (by decide +kernel) (by decide +kernel), by decide +kernel⟩
theorem cvX12_285 : x_CV RX12 MX12_looks 285 2 := ⟨tb8_of 89 rfl rfl, tb8_of 91 rfl rfl, tb0_of 67 (by decide +kernel) (by decide +kernel), by decide +kernel⟩
theorem cvX12_288 : x_CV RX12 MX12_fitsAt 288 2 := ⟨tb8_of 101 rfl rfl, tb8_of 103 rfl rfl, tb0_of 70 (by decide +kernel) (by decide +kernel), by decide +kernel⟩
theorem cvX12_291 : x_CV RX12 MX12_fits 291 2 := ⟨tb8_of 109 rfl rfl, tb8_of 111 rfl rfl, tb0_of 72 (by decide +kernel) (by decide +kernel), by decide +kernel⟩
theorem cvX12_294 : x_CV RX12 MX12_lookFilter 294 1 := ⟨tb8_of 85 rfl rfl, tb8_of 87 rfl rfl, tb0_of 66 (by decide +kernel) (by decide +kernel), by decide +kernel⟩
theorem cvX12_301 : x_CV RX12 MX12_shape 301 0 := ⟨tb8_of 75 rfl rfl, tb8_of 77 rfl rfl, tb0_of 64 (by decide +kernel) (by decide +kernel), by decide +kernel⟩
theorem cvX12_305 : x_CV RX12 MX12_looked 305 1 := ⟨tb8_of 81 rfl rfl, tb8_of 83 rfl rfl, tb0_of 65 (by decide +kernel) (by decide +kernel), by decide +kernel⟩
theorem cvX12_311 : x_CV RX12 MX12_fitsAll 311 1 := ⟨tb8_of 105 rfl rfl, tb8_of 107 rfl rfl, tb0_of 71 (by decide +kernel) (by decide +kernel), by decide +kernel⟩
theorem cvX12_317 : x_CV RX12 MX12_groupsAt 317 2 := ⟨tb8_of 133 rfl rfl, tb8_of 135 rfl rfl, tb0_of 74 (by decide +kernel) (by decide +kernel), by decide +kernel⟩
theorem cvX12_321 : x_CV RX12 MX12_printOf 321 2 := ⟨tb8_of 137 rfl rfl, tb8_of 139 rfl rfl, tb0_of 75 (by decide +kernel) (by decide +kernel), by decide +kernel⟩
theorem cvX12_325 : x_CV RX12 MX12_isChunk 325 1 := ⟨tb8_of 151 rfl rfl, tb8_of 153 rfl rfl, tb0_of 76 (by decide +kernel) (by decide +kernel), by decide +kernel⟩
theorem cvX12_331 : x_CV RX12 MX12_forgets 331 0 := ⟨tb8_of 159 rfl rfl, tb8_of 161 rfl rfl, tb0_of 77 (by decide +kernel) (by decide +kernel), by decide +kernel⟩
theorem cvX12_334 : x_CV RX12 MX12_documentsOf 334 1 := ⟨tb8_of 163 rfl rfl, tb8_of 165 rfl rfl, tb0_of 78 (by decide +kernel) (by decide +kernel), by decide +kernel⟩
theorem cvX12_337 : x_CV RX12 MX12_copies 337 0 := ⟨tb8_of 171 rfl rfl, tb8_of 173 rfl rfl, tb0_of 79 (by decide +kernel) (by decide +kernel), by decide +kernel⟩
theorem cvX12_343 : x_CV RX12 MX12_entriesOf 343 1 := ⟨tb8_of 215 rfl rfl, tb8_of 217 rfl rfl, tb0_of 80 (by decide +kernel) (by decide +kernel), by decide +kernel⟩
theorem cvX12_346 : x_CV RX12 MX12_entries 346 1 := ⟨tb8_of 223 rfl rfl, tb8_of 212 rfl rfl, tb8_of 213 rfl rfl, by decide +kernel⟩
theorem thX11_82_86 : x_TH RX11 82 86 "java/lang/IllegalArgumentException" := ⟨by decide +kernel, by decide +kernel, tb3_of 114 rfl rfl, tb1_of 19 rfl rfl, by decide +kernel, by decide +kernel⟩
theorem thX11_101_105 : x_TH RX11 101 105 "java/lang/IllegalStateException" := ⟨by decide +kernel, by decide +kernel, tb3_of 3 rfl rfl, tb1_of 17 rfl rfl, by decide +kernel, by decide +kernel⟩
theorem thX11_166_170 : x_TH RX11 166 170 "java/lang/IndexOutOfBoundsException" := ⟨by decide +kernel, by decide +kernel, tb4_of 63 rfl rfl, tb1_of 21 rfl rfl, by decide +kernel, by decide +kernel⟩
theorem stX11_409 : (RX11, 409, "the pile is full") ∈ x_strs := List.mem_of_getElem? (i := 0) (by decide +kernel)
theorem stX11_84 : (RX11, 84, "no such number") ∈ x_strs := List.mem_of_getElem? (i := 1) (by decide +kernel)
theorem stX11_89 : (RX11, 89, "no such word") ∈ x_strs := List.mem_of_getElem? (i := 2) (by decide +kernel)
theorem stX11_103 : (RX11, 103, "no row below the top value") ∈ x_strs := List.mem_of_getElem? (i := 3) (by decide +kernel)
theorem stX11_110 : (RX11, 110, "too many parts") ∈ x_strs := List.mem_of_getElem? (i := 4) (by decide +kernel)
theorem stX11_122 : (RX11, 122, "no such field") ∈ x_strs := List.mem_of_getElem? (i := 5) (by decide +kernel)
theorem stX11_124 : (RX11, 124, "no object below the top value") ∈ x_strs := List.mem_of_getElem? (i := 6) (by decide +kernel)
theorem stX11_143 : (RX11, 143, "no such router or number") ∈ x_strs := List.mem_of_getElem? (i := 7) (by decide +kernel)
theorem stX11_149 : (RX11, 149, "no object, or one that does not keep a rule") ∈ x_strs := List.mem_of_getElem? (i := 8) (by decide +kernel)
theorem stX11_157 : (RX11, 157, "there is such a document, or there are too many") ∈ x_strs := List.mem_of_getElem? (i := 9) (by decide +kernel)
theorem stX11_168 : (RX11, 168, "no such document") ∈ x_strs := List.mem_of_getElem? (i := 10) (by decide +kernel)
theorem stX11_174 : (RX11, 174, "no such router, path or operator") ∈ x_strs := List.mem_of_getElem? (i := 11) (by decide +kernel)
theorem stX11_180 : (RX11, 180, "the pile is empty") ∈ x_strs := List.mem_of_getElem? (i := 12) (by decide +kernel)
theorem stX11_190 : (RX11, 190, "a value of another kind, or a number out of range") ∈ x_strs := List.mem_of_getElem? (i := 13) (by decide +kernel)
theorem stX11_195 : (RX11, 195, "too many parts, or a rule is not kept") ∈ x_strs := List.mem_of_getElem? (i := 14) (by decide +kernel)
theorem stX11_205 : (RX11, 205, "no such router") ∈ x_strs := List.mem_of_getElem? (i := 15) (by decide +kernel)
theorem stX11_210 : (RX11, 210, "no such field or kind") ∈ x_strs := List.mem_of_getElem? (i := 16) (by decide +kernel)
theorem stX11_216 : (RX11, 216, "a document does not keep it") ∈ x_strs := List.mem_of_getElem? (i := 17) (by decide +kernel)
theorem stX11_221 : (RX11, 221, "no such path") ∈ x_strs := List.mem_of_getElem? (i := 18) (by decide +kernel)
theorem stX11_229 : (RX11, 229, "too many indexes, or one with the path") ∈ x_strs := List.mem_of_getElem? (i := 19) (by decide +kernel)
theorem stX11_236 : (RX11, 236, "no such index") ∈ x_strs := List.mem_of_getElem? (i := 20) (by decide +kernel)
theorem stX11_241 : (RX11, 241, "no such path or relation") ∈ x_strs := List.mem_of_getElem? (i := 21) (by decide +kernel)
theorem stX11_246 : (RX11, 246, "the pile is empty, or there are too many filters") ∈ x_strs := List.mem_of_getElem? (i := 22) (by decide +kernel)
theorem stX11_248 : (RX11, 248, "the value is no number") ∈ x_strs := List.mem_of_getElem? (i := 23) (by decide +kernel)
theorem stX11_268 : (RX11, 268, "not so many are found") ∈ x_strs := List.mem_of_getElem? (i := 24) (by decide +kernel)
theorem stX11_276 : (RX11, 276, "no such thing to tell") ∈ x_strs := List.mem_of_getElem? (i := 25) (by decide +kernel)
theorem stX11_289 : (RX11, 289, "not so many groups") ∈ x_strs := List.mem_of_getElem? (i := 26) (by decide +kernel)
theorem stX11_296 : (RX11, 296, "no such chunk") ∈ x_strs := List.mem_of_getElem? (i := 27) (by decide +kernel)
theorem stX11_304 : (RX11, 304, "no key of it, or its first one") ∈ x_strs := List.mem_of_getElem? (i := 28) (by decide +kernel)
theorem stX11_310 : (RX11, 310, "it moves, or there are too many") ∈ x_strs := List.mem_of_getElem? (i := 29) (by decide +kernel)
theorem stX11_319 : (RX11, 319, "no such shard") ∈ x_strs := List.mem_of_getElem? (i := 30) (by decide +kernel)
theorem stX11_327 : (RX11, 327, "it is of that shard, or one moves") ∈ x_strs := List.mem_of_getElem? (i := 31) (by decide +kernel)
theorem stX11_335 : (RX11, 335, "not so many") ∈ x_strs := List.mem_of_getElem? (i := 32) (by decide +kernel)
theorem stX11_337 : (RX11, 337, "none moves") ∈ x_strs := List.mem_of_getElem? (i := 33) (by decide +kernel)
theorem stX11_343 : (RX11, 343, "none moves, or some are not copied") ∈ x_strs := List.mem_of_getElem? (i := 34) (by decide +kernel)
theorem stX11_354 : (RX11, 354, "a chunk moves") ∈ x_strs := List.mem_of_getElem? (i := 35) (by decide +kernel)
theorem stX11_381 : (RX11, 381, "no such shard or thing to tell") ∈ x_strs := List.mem_of_getElem? (i := 36) (by decide +kernel)
theorem stX11_392 : (RX11, 392, "no such router or thing to tell") ∈ x_strs := List.mem_of_getElem? (i := 37) (by decide +kernel)
theorem stX11_404 : (RX11, 404, "no such entry") ∈ x_strs := List.mem_of_getElem? (i := 38) (by decide +kernel)
end
section
/-! ===== numbers: ints and longs as images of whole numbers ===== -/
abbrev ii (x : Int) : Int32 := Int32.ofInt x
abbrev ll (x : Int) : Int64 := Int64.ofInt x
def xr (x : Int) : Prop := -2147483648 ≤ x ∧ x < 2147483648
theorem ii_toInt {x : Int} (h : xr x) : (ii x).toInt = x := by
  unfold xr at h
  rw [Int32.toInt_ofInt]
  show x.bmod 4294967296 = x
  rw [Int.bmod_def]
  omega
theorem ii_of (x : Int32) : ii x.toInt = x := Int32.ofInt_toInt x
theorem xr_of (x : Int32) : xr x.toInt := ⟨Int32.le_toInt x, Int32.toInt_lt x⟩
theorem ii_add (x y : Int) : ii x + ii y = ii (x + y) := (Int32.ofInt_add x y).symm
theorem ii_sub (x y : Int) : ii x - ii y = ii (x - y) := (Int32.ofInt_sub x y).symm
theorem ii_mul (x y : Int) : ii x * ii y = ii (x * y) := (Int32.ofInt_mul x y).symm
theorem ii_eq {x y : Int} (hx : xr x) (hy : xr y) : ii x = ii y ↔ x = y := by
  constructor
  · intro h
    have := congrArg Int32.toInt h
    rwa [ii_toInt hx, ii_toInt hy] at this
  · intro h; rw [h]
theorem ii_lt {x y : Int} (hx : xr x) (hy : xr y) : ii x < ii y ↔ x < y := by rw [Int32.lt_iff_toInt_lt, ii_toInt hx, ii_toInt hy]
theorem ii_le {x y : Int} (hx : xr x) (hy : xr y) : ii x ≤ ii y ↔ x ≤ y := by rw [Int32.le_iff_toInt_le, ii_toInt hx, ii_toInt hy]
theorem ii_0 : (0 : Int32) = ii 0 := rfl
theorem xr_0 : xr 0 := by unfold xr; omega
theorem ii_clamp {x : Int} (h0 : 0 ≤ x) (h : x < 2147483648) : (ii x).toNatClampNeg = x.toNat := by
  have : (ii x).toInt = x := ii_toInt ⟨by omega, h⟩
  show (ii x).toInt.toNat = _
  rw [this]
theorem ii_in {x : Int} {n : Nat} (h0 : 0 ≤ x) (h : x < n) (hn : n < 2147483648) : vp_in (ii x) n := by
  rw [vp_in_iff, ii_toInt ⟨by omega, by omega⟩]
  exact ⟨h0, h⟩
theorem ii_nat (n : Nat) : Int32.ofNat n = ii n := rfl
theorem ii_i2l {x : Int} (h : xr x) : (ii x).toInt64 = ll x := by
  apply Int64.toInt_inj.mp
  rw [Int32.toInt_toInt64, ii_toInt h, Int64.toInt_ofInt]
  unfold xr at h
  show x = x.bmod 18446744073709551616
  rw [Int.bmod_def]
  omega
theorem ll_add (x y : Int) : ll x + ll y = ll (x + y) := (Int64.ofInt_add x y).symm
theorem ll_mul (x y : Int) : ll x * ll y = ll (x * y) := (Int64.ofInt_mul x y).symm
/-! ===== the pure world ===== -/
abbrev xG : Type := va_G × (Nat → ClassId)
/-- a cell's form: an array of numbers (kind, length), an array of references (kind, what it holds), an object (class, fields: none for a number, some for a reference) -/
abbrev xShp : Type := (Nat × Nat) ⊕ ((Nat × List (Option Nat)) ⊕ (Nat × List (Option (Option Nat))))
abbrev xSig : Type := Nat → Int → Int
/-- cells, their forms, their numbers, whether the heap's size is known -/
abbrev xS : Type := Nat × (Nat → xShp) × xSig × Bool
abbrev xN (X : xS) : Nat := X.1
abbrev xF (X : xS) : Nat → xShp := X.2.1
abbrev xM (X : xS) : xSig := X.2.2.1
abbrev xB (X : xS) : Bool := X.2.2.2
abbrev xO : Type := Option Value ⊕ String
def x_v (base : Nat) : Value → Value
  | .ref a => .ref (base + a)
  | v => v
def x_rf (base : Nat) : Option Nat → Value
  | none => .null
  | some b => .ref (base + b)
def x_fld (base : Nat) (m : Int → Int) (j : Nat) : Option (Option Nat) → Value
  | none => .int (ii (m j))
  | some r => x_rf base r
def x_arr (k n : Nat) (m : Int → Int) : vp_A := if k = 2 then (n, .inr (.inl fun j => ll (m j))) else (n, .inl fun j => ii (m j))
def x_rarr (base : Nat) (rs : List (Option Nat)) : vp_A := (rs.length, .inr (.inr (.inr (.inr fun j => (rs.getD j none).map (fun b => base + b)))))
def x_obj (base : Nat) (fs : List (Option (Option Nat))) (m : Int → Int) : List Value := (List.range fs.length).map fun j => x_fld base m j (fs.getD j none)
def x_cell (base : Nat) (G : xG) (s : xShp) (m : Int → Int) : va_E := match s with
  | .inl q => .inl (G.2 q.1, x_arr q.1 q.2 m)
  | .inr (.inl q) => .inl (G.2 q.1, x_rarr base q.2)
  | .inr (.inr q) => .inr (q.1, x_obj base q.2 m)
def x_wl (base : Nat) (G : xG) (X : xS) : va_W := (List.range (xN X)).map fun a => (base + a, x_cell base G (xF X a) (xM X a))
def x_tys (G : xG) : List (ClassId × FieldType) := [(G.2 0, .int), (G.2 1, .boolean), (G.2 2, .long), (G.2 3, .object "Shardmoor$Value"), (G.2 4, .object "Shardmoor$Filter")]
def x_W (base : Nat) (G : xG) (X : xS) (H : Heap) : Prop := va_P G.1 vwCl (x_wl base G X) H ∧ (xB X = true → H.size = base + xN X)
abbrev x_A (base : Nat) : Nat → Prop := fun q => base ≤ q
theorem x_wl_at {base : Nat} {G : xG} {X : xS} {a : Nat} (h : a < xN X) : (x_wl base G X)[a]? = some (base + a, x_cell base G (xF X a) (xM X a)) := by
  simp [x_wl, h]
theorem x_wl_at' {base : Nat} {G : xG} {X : xS} {k : Nat} {q : Nat × va_E} (h : (x_wl base G X)[k]? = some q) : k < xN X ∧ q = (base + k, x_cell base G (xF X k) (xM X k)) := by
  have hk : k < (x_wl base G X).length := (List.getElem?_eq_some_iff.mp h).1
  have hk' : k < xN X := by simpa [x_wl] using hk
  refine ⟨hk', ?_⟩
  rw [x_wl_at hk'] at h
  exact (Option.some.inj h).symm
theorem x_D {base : Nat} {G : xG} {X : xS} : va_D (x_A base) (x_wl base G X) := by
  refine ⟨fun i j p q hi hj hpq => ?_, fun k q hk => ?_⟩
  · obtain ⟨-, rfl⟩ := x_wl_at' hi
    obtain ⟨-, rfl⟩ := x_wl_at' hj
    have : base + i = base + j := hpq
    omega
  · obtain ⟨-, rfl⟩ := x_wl_at' hk
    exact Nat.le_add_right base k
/-- the numbers of one cell changed -/
def xu (σ : xSig) (a : Nat) (j v : Int) : xSig := fun b i => if b = a ∧ i = j then v else σ b i
theorem xu_same (σ : xSig) (a : Nat) (j v : Int) : xu σ a j v a j = v := by simp [xu]
theorem xu_ne (σ : xSig) {a b : Nat} {j i v : Int} (h : b ≠ a ∨ i ≠ j) : xu σ a j v b i = σ b i := by
  unfold xu
  rw [if_neg]
  rintro ⟨h1, h2⟩
  rcases h with h | h
  · exact h h1
  · exact h h2
/-- the numbers of the world changed -/
abbrev xSet (X : xS) (σ : xSig) : xS := (xN X, xF X, σ, xB X)
/-- a world's cell a is another, the others are as they were -/
theorem x_wl_set {base : Nat} {G : xG} {X Y : xS} {a : Nat} (ha : a < xN X) (hn : xN Y = xN X) (ho : ∀ b, b ≠ a → x_cell base G (xF Y b) (xM Y b) = x_cell base G (xF X b) (xM X b)) :
    x_wl base G Y = (x_wl base G X).set a (base + a, x_cell base G (xF Y a) (xM Y a)) := by
  apply List.ext_getElem?
  intro k
  by_cases hk : k < xN X
  · rw [x_wl_at (by rw [hn]; exact hk)]
    by_cases hka : k = a
    · subst hka
      rw [List.getElem?_set_self (by simpa [x_wl] using hk)]
    · rw [List.getElem?_set_ne (Ne.symm hka), x_wl_at hk, ho k hka]
  · have h1 : (x_wl base G Y)[k]? = none := by
      rw [List.getElem?_eq_none_iff]; simp [x_wl, hn]; omega
    have h2 : ((x_wl base G X).set a (base + a, x_cell base G (xF Y a) (xM Y a)))[k]? = none := by
      rw [List.getElem?_eq_none_iff]; simp [x_wl]; omega
    rw [h1, h2]
/-! the words that need more than the tables -/
abbrev x_U : String := "UNASSIGNED_STACK"
abbrev x_Z : String := "SUPPRESSED_SENTINEL"
def x_PX (G : xG) (base : Nat) (U : State) : Prop := va_K G.1 vwCl (x_tys G) U ∧ (∀ w ∈ x_nw, va_Nw w U) ∧ (∀ q ∈ x_strs, ∃ sa, vk_R q.1 q.2.1 q.2.2 sa U) ∧
  vx_Zq Bundle.tN x_U Bundle.steD (x_A base) U U.heap ∧ vx_Zq Bundle.tN x_Z Bundle.listD (x_A base) U U.heap ∧ va_AO "Shardmoor$Value" U ∧ va_AO "Shardmoor$Filter" U ∧ base ≤ U.heap.size
theorem x_PX.moved {G : xG} {base : Nat} {s U : State} (h : x_PX G base s) (hW : s.WarmedH U.vm) (hz : s.heap.size ≤ U.heap.size) (ho : ∀ q : Nat, q < s.heap.size → ¬ x_A base q → U.heap[q]? = s.heap[q]?) : x_PX G base U := by
  obtain ⟨h1, h2, h3, h4, h5, h6, h7, h8⟩ := h
  refine ⟨h1.moved hW.alike, fun w hw => ?_, fun q hq => ?_, (h4.kept ho).moved hW.alike, (h5.kept ho).moved hW.alike, h6.moved hW.alike, h7.moved hW.alike, by omega⟩
  · have hg := (List.mem_filter.mp hw).2
    have hs := h2 w hw
    cases w <;> first | exact va_Nw.warmF hW hs | exact va_Nw.warmM hW hs | exact va_Nw.warmD hW hs | exact va_Nw.warmC hW hs | exact absurd (show false = true from hg) Bool.false_ne_true
  · obtain ⟨sa, hs⟩ := h3 q hq
    exact ⟨sa, vk_R.warm hW hs⟩
/-! ===== a method's contract, and the judgement at a place of its body ===== -/
def x_rm (M : x_MT) (mc ms : Nat) : Room := { frames := mFr M, cells := mc, slots := ms, locals := mLo M }
abbrev x_ws (M : x_MT) : List Cond := Cond.code (mY M) (mCode M) (mL M) (mRet M) :: tb0
def x_Pc (base : Nat) (G : xG) (av : List Value) (X : xS) : Array Value → State → Prop := va_Pc (av.map (x_v base)) (fun U => x_W base G X U.heap ∧ x_PX G base U)
def x_Qc (base : Nat) (G : xG) (o : xO) (Y : xS) : Array Value → State → Outcome → State → Prop := fun _ st oc t => (∃ v : Option Value, o = .inl v ∧ oc = .returned (v.map (x_v base))) ∧ x_W base G Y t.heap ∧ va_F (x_A base) st t
def x_XC (base : Nat) (G : xG) (o : xO) (Y : xS) : String → State → State → Prop := fun E st t => o = .inr E ∧ x_W base G Y t.heap ∧ va_F (x_A base) st t
/-- with these arguments, from world X, the method ends with o, in world Y; it makes at most mc cells of ms slots -/
def x_Sp (M : x_MT) (mc ms : Nat) (av : List Value) (X : xS) (o : xO) (Y : xS) : Prop :=
  ∀ (l : Launch) (G : xG) (base : Nat), l.stackTraces = false → vx_Met l (mY M) (x_ws M) (x_rm M mc ms) (x_Pc base G av X) (x_Qc base G o Y) (x_XC base G o Y) mc ms (x_A base)
def x_ls (base : Nat) : Nat → List (Option Value) → List (Nat × Value)
  | _, [] => []
  | i, none :: r => x_ls base (i + 1) r
  | i, some v :: r => (i, x_v base v) :: x_ls base (i + 1) r
def x_Cx (M : x_MT) (p : Program) (l : Launch) (s : State) (m : MethodId) (args : Array Value) (meth : Method) (c : Code) (G : xG) (base : Nat) : Prop :=
  x_MOk M ∧ p.tables.exec = Jvm.exec ∧ c.code = mCode M ∧ meth.sig.returnType = mRet M ∧ c.maxLocals = mL M ∧ s.vm.findClass (mOwn M) = some m.cls ∧ (∀ w ∈ tb0, w.before args s = true) ∧ x_PX G base s ∧
  (∀ x ∈ c.exceptionTable.toList, False) ∧ meth.locks = false ∧ meth.name = (mY M).name ∧ l.stackTraces = false
def x_E (M : x_MT) (mc ms : Nat) (pc : Nat) (ls : List (Option Value)) (st : List Value) (X : xS) (kc ks : Nat) (o : xO) (Y : xS) : Prop :=
  ∀ (p : Program) (l : Launch) (e : Env) (s : State) (m : MethodId) (args : Array Value) (below : List Frame) (meth : Method) (c : Code) (H : Heap) (locs : List Loc) (arr : Array Slot) (G : xG) (base : Nat),
    x_Cx M p l s m args meth c G base → x_W base G X H → va_S (x_A base) s.heap H locs → lv_has arr (mL M) (x_ls base 0 ls) →
    W p l e (x_rm M mc ms) s m args below meth c H locs kc ks (vx_MQ below (x_Qc base G o Y) (x_XC base G o Y) args s mc ms (x_A base)) (F0 m pc arr (st.map (x_v base)))
end
section
/-! ===== rules of the judgement: stack, locals, branches ===== -/
theorem x_dec {M : x_MT} (h : x_MOk M) {k pc : Nat} {i : Instr} {len : Nat} (hi : (mIns M)[k]? = some (pc, i, len)) : decode (mCode M) pc = .ok (i, len) := by
  have := List.all_eq_true.mp h.1 _ (List.mem_of_getElem? hi)
  exact of_decide_eq_true this
theorem x_ls_mem {base : Nat} {q : Nat × Value} : ∀ (ls : List (Option Value)) (i : Nat), q ∈ x_ls base i ls ↔ ∃ (k : Nat) (u : Value), ls[k]? = some (some u) ∧ q = (i + k, x_v base u) := by
  intro ls
  induction ls with
  | nil => intro i; simp [x_ls]
  | cons a r ih =>
    intro i
    cases a with
    | none =>
      simp only [x_ls, ih]
      constructor
      · rintro ⟨k, u, h1, h2⟩
        exact ⟨k + 1, u, by simpa using h1, by rw [h2]; simp; omega⟩
      · rintro ⟨k, u, h1, h2⟩
        cases k with
        | zero => simp at h1
        | succ k => exact ⟨k, u, by simpa using h1, by rw [h2]; simp; omega⟩
    | some v =>
      simp only [x_ls, List.mem_cons, ih]
      constructor
      · rintro (rfl | ⟨k, u, h1, h2⟩)
        · exact ⟨0, v, rfl, rfl⟩
        · exact ⟨k + 1, u, by simpa using h1, by rw [h2]; simp; omega⟩
      · rintro ⟨k, u, h1, h2⟩
        cases k with
        | zero => left; simp at h1; rw [h2, h1]; rfl
        | succ k => right; exact ⟨k, u, by simpa using h1, by rw [h2]; simp; omega⟩
theorem x_lget {base nL i : Nat} {arr : Array Slot} {ls : List (Option Value)} {v : Value} (h : lv_has arr nL (x_ls base 0 ls)) (hi : ls[i]? = some (some v)) : arr[i]? = some (.val (x_v base v)) :=
  h.2.2 (i, x_v base v) ((x_ls_mem ls 0).mpr ⟨i, v, hi, by simp⟩)
theorem x_lsub {nL : Nat} {arr : Array Slot} {l l' : List (Nat × Value)} (h : lv_has arr nL l) (hs : ∀ q ∈ l', q ∈ l) : lv_has arr nL l' := ⟨h.1, h.2.1, fun q hq => h.2.2 q (hs q hq)⟩
/-- what stands below a place that is stored to: a long that loses its second half goes -/
def x_is2 : Option (Option Value) → Bool
  | some (some (.long _)) => true
  | some (some (.double _)) => true
  | _ => false
def x_c2 (ls : List (Option Value)) : Nat → List (Option Value)
  | 0 => ls
  | j + 1 => bif x_is2 ls[j]? then ls.set j none else ls
def x_st1 (ls : List (Option Value)) (i : Nat) (v : Value) : List (Option Value) := (x_c2 ls i).set i (some v)
def x_st2 (ls : List (Option Value)) (i : Nat) (v : Value) : List (Option Value) := ((x_c2 ls i).set i (some v)).set (i + 1) none
def x_st0 (ls : List (Option Value)) (i : Nat) : List (Option Value) := (x_c2 ls i).set i none
theorem x_c2_get {ls : List (Option Value)} {i k : Nat} {u : Value} (h : (x_c2 ls i)[k]? = some (some u)) : ls[k]? = some (some u) ∧ ¬ (k + 1 = i ∧ u.category = 2) := by
  cases i with
  | zero => exact ⟨h, fun q => by omega⟩
  | succ j =>
    cases hb : x_is2 ls[j]? with
    | true =>
      have e : x_c2 ls (j + 1) = ls.set j none := by show (bif x_is2 ls[j]? then ls.set j none else ls) = _; rw [hb]; rfl
      rw [e] at h
      by_cases hk : j = k
      · subst hk
        rw [List.getElem?_set_self'] at h
        cases hz : ls[j]? <;> rw [hz] at h <;> cases h
      · rw [List.getElem?_set_ne hk] at h
        exact ⟨h, fun q => hk (by omega)⟩
    | false =>
      have e : x_c2 ls (j + 1) = ls := by show (bif x_is2 ls[j]? then ls.set j none else ls) = _; rw [hb]; rfl
      rw [e] at h
      refine ⟨h, fun q => ?_⟩
      have hkj : k = j := by omega
      subst hkj
      rw [h] at hb
      cases u <;> simp [Value.category, x_is2] at q hb
theorem x_v_cat (base : Nat) (v : Value) : (x_v base v).category = v.category := by cases v <;> rfl
theorem x_lset1 {base nL i : Nat} {arr : Array Slot} {ls : List (Option Value)} {v : Value} (h : lv_has arr nL ((i, x_v base v) :: (x_ls base 0 ls).filter (fun q => !(q.1 == i) && !(q.1 + 1 == i && q.2.category == 2)))) : lv_has arr nL (x_ls base 0 (x_st1 ls i v)) := by
  refine x_lsub h fun q hq => ?_
  obtain ⟨k, u, h1, rfl⟩ := (x_ls_mem _ 0).mp hq
  rw [Nat.zero_add]
  by_cases hk : i = k
  · subst hk
    rw [x_st1, List.getElem?_set_self'] at h1
    cases hz : (x_c2 ls i)[i]? <;> rw [hz] at h1 <;> cases h1
    exact List.mem_cons_self
  · rw [x_st1, List.getElem?_set_ne hk] at h1
    obtain ⟨h2, h3⟩ := x_c2_get h1
    refine List.mem_cons_of_mem _ (List.mem_filter.mpr ⟨(x_ls_mem _ 0).mpr ⟨k, u, h2, by simp⟩, ?_⟩)
    simp only [x_v_cat, Bool.and_eq_true, Bool.not_eq_true', beq_eq_false_iff_ne, ne_eq, Bool.and_eq_false_iff]
    refine ⟨fun q => hk q.symm, ?_⟩
    by_cases hc : k + 1 = i
    · exact Or.inr fun q => h3 ⟨hc, q⟩
    · exact Or.inl hc
theorem x_lset0 {base nL i : Nat} {arr : Array Slot} {ls : List (Option Value)} {w : Value} (h : lv_has arr nL ((i, w) :: (x_ls base 0 ls).filter (fun q => !(q.1 == i) && !(q.1 + 1 == i && q.2.category == 2)))) : lv_has arr nL (x_ls base 0 (x_st0 ls i)) := by
  refine x_lsub h fun q hq => ?_
  obtain ⟨k, u, h1, rfl⟩ := (x_ls_mem _ 0).mp hq
  rw [Nat.zero_add]
  by_cases hk : i = k
  · subst hk
    rw [x_st0, List.getElem?_set_self'] at h1
    cases hz : (x_c2 ls i)[i]? <;> rw [hz] at h1 <;> cases h1
  · rw [x_st0, List.getElem?_set_ne hk] at h1
    obtain ⟨h2, h3⟩ := x_c2_get h1
    refine List.mem_cons_of_mem _ (List.mem_filter.mpr ⟨(x_ls_mem _ 0).mpr ⟨k, u, h2, by simp⟩, ?_⟩)
    simp only [x_v_cat, Bool.and_eq_true, Bool.not_eq_true', beq_eq_false_iff_ne, ne_eq, Bool.and_eq_false_iff]
    refine ⟨fun q => hk q.symm, ?_⟩
    by_cases hc : k + 1 = i
    · exact Or.inr fun q => h3 ⟨hc, q⟩
    · exact Or.inl hc
theorem x_lset2 {base nL i : Nat} {arr : Array Slot} {ls : List (Option Value)} {v : Value} (h : lv_has arr nL ((i, x_v base v) :: (x_ls base 0 ls).filter (fun q => !(q.1 == i) && (!(q.1 == i + 1) && !(q.1 + 1 == i && q.2.category == 2))))) : lv_has arr nL (x_ls base 0 (x_st2 ls i v)) := by
  refine x_lsub h fun q hq => ?_
  obtain ⟨k, u, h1, rfl⟩ := (x_ls_mem _ 0).mp hq
  rw [Nat.zero_add]
  by_cases hk2 : i + 1 = k
  · subst hk2
    rw [x_st2, List.getElem?_set_self'] at h1
    cases hz : ((x_c2 ls i).set i (some v))[i + 1]? <;> rw [hz] at h1 <;> cases h1
  · rw [x_st2, List.getElem?_set_ne hk2] at h1
    by_cases hk : i = k
    · subst hk
      rw [List.getElem?_set_self'] at h1
      cases hz : (x_c2 ls i)[i]? <;> rw [hz] at h1 <;> cases h1
      exact List.mem_cons_self
    · rw [List.getElem?_set_ne hk] at h1
      obtain ⟨h2, h3⟩ := x_c2_get h1
      refine List.mem_cons_of_mem _ (List.mem_filter.mpr ⟨(x_ls_mem _ 0).mpr ⟨k, u, h2, by simp⟩, ?_⟩)
      simp only [x_v_cat, Bool.and_eq_true, Bool.not_eq_true', beq_eq_false_iff_ne, ne_eq, Bool.and_eq_false_iff]
      refine ⟨fun q => hk q.symm, fun q => hk2 q.symm, ?_⟩
      by_cases hc : k + 1 = i
      · exact Or.inr fun q => h3 ⟨hc, q⟩
      · exact Or.inl hc
/-- fewer locals -/
theorem e_drop {M : x_MT} {mc ms pc kc ks : Nat} {ls : List (Option Value)} {st : List Value} {X Y : xS} {o : xO} (ls' : List (Option Value)) (hs : ∀ (k : Nat) (u : Value), ls'[k]? = some (some u) → ls[k]? = some (some u)) (kk : x_E M mc ms pc ls' st X kc ks o Y) : x_E M mc ms pc ls st X kc ks o Y := by
  intro p l e s m args below meth c H locs arr G base C w S hl
  refine kk p l e s m args below meth c H locs arr G base C w S (x_lsub hl fun q hq => ?_)
  obtain ⟨k, u, h1, h2⟩ := (x_ls_mem _ 0).mp hq
  exact (x_ls_mem _ 0).mpr ⟨k, u, hs k u h1, h2⟩
section XE
variable {M : x_MT} {mc ms pc kc ks : Nat} {ls : List (Option Value)} {st : List Value} {X Y : xS} {o : xO}

theorem e_iconst (k nx : Nat) {n : Int} (hd : (mIns M)[k]? = some (pc, .iconst n, 1)) (hn : pc + 1 = nx) (kk : x_E M mc ms nx ls (.int (ii n) :: st) X kc ks o Y) : x_E M mc ms pc ls st X kc ks o Y := by
  subst hn
  intro p l e s m args below meth c H locs arr G base C w S hl
  have hx := C.2.1
  have hb := C.2.2.1
  exact lv_iconst hx hb (x_dec C.1 hd) rfl (kk p l e s m args below meth c H locs arr G base C w S hl)
theorem e_bipush (k nx : Nat) {n : Int} (hd : (mIns M)[k]? = some (pc, .bipush n, 2)) (hn : pc + 2 = nx) (hv : (Int8.ofInt n).toInt32 = ii n) (kk : x_E M mc ms nx ls (.int (ii n) :: st) X kc ks o Y) : x_E M mc ms pc ls st X kc ks o Y := by
  subst hn
  intro p l e s m args below meth c H locs arr G base C w S hl
  have hx := C.2.1
  have hb := C.2.2.1
  exact lv_bipush hx hb (x_dec C.1 hd) hv (kk p l e s m args below meth c H locs arr G base C w S hl)
theorem e_sipush (k nx : Nat) {n : Int} (hd : (mIns M)[k]? = some (pc, .sipush n, 3)) (hn : pc + 3 = nx) (hv : (Int16.ofInt n).toInt32 = ii n) (kk : x_E M mc ms nx ls (.int (ii n) :: st) X kc ks o Y) : x_E M mc ms pc ls st X kc ks o Y := by
  subst hn
  intro p l e s m args below meth c H locs arr G base C w S hl
  have hx := C.2.1
  have hb := C.2.2.1
  exact lv_sipush hx hb (x_dec C.1 hd) hv (kk p l e s m args below meth c H locs arr G base C w S hl)
theorem e_lconst (k nx : Nat) {n : Fin 2} (hd : (mIns M)[k]? = some (pc, .lconst n, 1)) (hn : pc + 1 = nx) (kk : x_E M mc ms nx ls (.long (ll (n : Nat)) :: st) X kc ks o Y) : x_E M mc ms pc ls st X kc ks o Y := by
  subst hn
  intro p l e s m args below meth c H locs arr G base C w S hl
  have hx := C.2.1
  have hb := C.2.2.1
  exact lv_lconst hx hb (x_dec C.1 hd) rfl (kk p l e s m args below meth c H locs arr G base C w S hl)
theorem e_iload_n (k nx : Nat) {j : Fin 4} {i : Nat} {x : Int32} (hd : (mIns M)[k]? = some (pc, .iload_n j, 1)) (hn : pc + 1 = nx) (hi : (j : Nat) = i) (hl0 : ls[i]? = some (some (.int x))) (kk : x_E M mc ms nx ls (.int x :: st) X kc ks o Y) : x_E M mc ms pc ls st X kc ks o Y := by
  subst hn
  intro p l e s m args below meth c H locs arr G base C w S hl
  have hx := C.2.1
  have hb := C.2.2.1
  exact lv_iload_n hx hb (x_dec C.1 hd) hi (x_lget hl hl0) (kk p l e s m args below meth c H locs arr G base C w S hl)
theorem e_iload (k nx : Nat) {i : Nat} {x : Int32} (hd : (mIns M)[k]? = some (pc, .iload i, 2)) (hn : pc + 2 = nx) (hl0 : ls[i]? = some (some (.int x))) (kk : x_E M mc ms nx ls (.int x :: st) X kc ks o Y) : x_E M mc ms pc ls st X kc ks o Y := by
  subst hn
  intro p l e s m args below meth c H locs arr G base C w S hl
  have hx := C.2.1
  have hb := C.2.2.1
  exact lv_iload hx hb (x_dec C.1 hd) (x_lget hl hl0) (kk p l e s m args below meth c H locs arr G base C w S hl)
theorem e_istore_n (k nx : Nat) {j : Fin 4} {i : Nat} {x : Int32} {ls' : List (Option Value)} (hd : (mIns M)[k]? = some (pc, .istore_n j, 1)) (hn : pc + 1 = nx) (hi : (j : Nat) = i) (hm : i < mL M) (he : x_st1 ls i (.int x) = ls') (kk : x_E M mc ms nx ls' st X kc ks o Y) : x_E M mc ms pc ls (.int x :: st) X kc ks o Y := by
  subst hn
  subst he
  intro p l e s m args below meth c H locs arr G base C w S hl
  have hx := C.2.1
  have hb := C.2.2.1
  exact lv_istore_n hx hb (x_dec C.1 hd) hi hl hm rfl (fun ls2 h2 => kk p l e s m args below meth c H locs ls2 G base C w S (x_lset1 h2))
theorem e_istore (k nx : Nat) {i : Nat} {x : Int32} {ls' : List (Option Value)} (hd : (mIns M)[k]? = some (pc, .istore i, 2)) (hn : pc + 2 = nx) (hm : i < mL M) (he : x_st1 ls i (.int x) = ls') (kk : x_E M mc ms nx ls' st X kc ks o Y) : x_E M mc ms pc ls (.int x :: st) X kc ks o Y := by
  subst hn
  subst he
  intro p l e s m args below meth c H locs arr G base C w S hl
  have hx := C.2.1
  have hb := C.2.2.1
  exact lv_istore hx hb (x_dec C.1 hd) hl hm rfl (fun ls2 h2 => kk p l e s m args below meth c H locs ls2 G base C w S (x_lset1 h2))
theorem e_lload_n (k nx : Nat) {j : Fin 4} {i : Nat} {x : Int64} (hd : (mIns M)[k]? = some (pc, .lload_n j, 1)) (hn : pc + 1 = nx) (hi : (j : Nat) = i) (hl0 : ls[i]? = some (some (.long x))) (kk : x_E M mc ms nx ls (.long x :: st) X kc ks o Y) : x_E M mc ms pc ls st X kc ks o Y := by
  subst hn
  intro p l e s m args below meth c H locs arr G base C w S hl
  have hx := C.2.1
  have hb := C.2.2.1
  exact lv_lload_n hx hb (x_dec C.1 hd) hi (x_lget hl hl0) (kk p l e s m args below meth c H locs arr G base C w S hl)
theorem e_lload (k nx : Nat) {i : Nat} {x : Int64} (hd : (mIns M)[k]? = some (pc, .lload i, 2)) (hn : pc + 2 = nx) (hl0 : ls[i]? = some (some (.long x))) (kk : x_E M mc ms nx ls (.long x :: st) X kc ks o Y) : x_E M mc ms pc ls st X kc ks o Y := by
  subst hn
  intro p l e s m args below meth c H locs arr G base C w S hl
  have hx := C.2.1
  have hb := C.2.2.1
  exact lv_lload hx hb (x_dec C.1 hd) (x_lget hl hl0) (kk p l e s m args below meth c H locs arr G base C w S hl)
theorem e_lstore_n (k nx : Nat) {j : Fin 4} {i : Nat} {x : Int64} {ls' : List (Option Value)} (hd : (mIns M)[k]? = some (pc, .lstore_n j, 1)) (hn : pc + 1 = nx) (hi : (j : Nat) = i) (hm : i + 1 < mL M) (he : x_st2 ls i (.long x) = ls') (kk : x_E M mc ms nx ls' st X kc ks o Y) : x_E M mc ms pc ls (.long x :: st) X kc ks o Y := by
  subst hn
  subst he
  intro p l e s m args below meth c H locs arr G base C w S hl
  have hx := C.2.1
  have hb := C.2.2.1
  exact lv_lstore_n hx hb (x_dec C.1 hd) hi hl hm rfl (fun ls2 h2 => kk p l e s m args below meth c H locs ls2 G base C w S (x_lset2 h2))
theorem e_lstore (k nx : Nat) {i : Nat} {x : Int64} {ls' : List (Option Value)} (hd : (mIns M)[k]? = some (pc, .lstore i, 2)) (hn : pc + 2 = nx) (hm : i + 1 < mL M) (he : x_st2 ls i (.long x) = ls') (kk : x_E M mc ms nx ls' st X kc ks o Y) : x_E M mc ms pc ls (.long x :: st) X kc ks o Y := by
  subst hn
  subst he
  intro p l e s m args below meth c H locs arr G base C w S hl
  have hx := C.2.1
  have hb := C.2.2.1
  exact lv_lstore hx hb (x_dec C.1 hd) hl hm rfl (fun ls2 h2 => kk p l e s m args below meth c H locs ls2 G base C w S (x_lset2 h2))
theorem e_aload_n (k nx : Nat) {j : Fin 4} {i : Nat} {x : Nat} (hd : (mIns M)[k]? = some (pc, .aload_n j, 1)) (hn : pc + 1 = nx) (hi : (j : Nat) = i) (hl0 : ls[i]? = some (some (.ref x))) (kk : x_E M mc ms nx ls (.ref x :: st) X kc ks o Y) : x_E M mc ms pc ls st X kc ks o Y := by
  subst hn
  intro p l e s m args below meth c H locs arr G base C w S hl
  have hx := C.2.1
  have hb := C.2.2.1
  exact lv_aload_n hx hb (x_dec C.1 hd) hi (x_lget hl hl0) (kk p l e s m args below meth c H locs arr G base C w S hl)
theorem e_aload (k nx : Nat) {i : Nat} {x : Nat} (hd : (mIns M)[k]? = some (pc, .aload i, 2)) (hn : pc + 2 = nx) (hl0 : ls[i]? = some (some (.ref x))) (kk : x_E M mc ms nx ls (.ref x :: st) X kc ks o Y) : x_E M mc ms pc ls st X kc ks o Y := by
  subst hn
  intro p l e s m args below meth c H locs arr G base C w S hl
  have hx := C.2.1
  have hb := C.2.2.1
  exact lv_aload hx hb (x_dec C.1 hd) (x_lget hl hl0) (kk p l e s m args below meth c H locs arr G base C w S hl)
theorem e_astore_n (k nx : Nat) {j : Fin 4} {i : Nat} {x : Nat} {ls' : List (Option Value)} (hd : (mIns M)[k]? = some (pc, .astore_n j, 1)) (hn : pc + 1 = nx) (hi : (j : Nat) = i) (hm : i < mL M) (he : x_st1 ls i (.ref x) = ls') (kk : x_E M mc ms nx ls' st X kc ks o Y) : x_E M mc ms pc ls (.ref x :: st) X kc ks o Y := by
  subst hn
  subst he
  intro p l e s m args below meth c H locs arr G base C w S hl
  have hx := C.2.1
  have hb := C.2.2.1
  exact lv_astore_n hx hb (x_dec C.1 hd) hi hl hm rfl (fun ls2 h2 => kk p l e s m args below meth c H locs ls2 G base C w S (x_lset1 h2))
theorem e_astore (k nx : Nat) {i : Nat} {x : Nat} {ls' : List (Option Value)} (hd : (mIns M)[k]? = some (pc, .astore i, 2)) (hn : pc + 2 = nx) (hm : i < mL M) (he : x_st1 ls i (.ref x) = ls') (kk : x_E M mc ms nx ls' st X kc ks o Y) : x_E M mc ms pc ls (.ref x :: st) X kc ks o Y := by
  subst hn
  subst he
  intro p l e s m args below meth c H locs arr G base C w S hl
  have hx := C.2.1
  have hb := C.2.2.1
  exact lv_astore hx hb (x_dec C.1 hd) hl hm rfl (fun ls2 h2 => kk p l e s m args below meth c H locs ls2 G base C w S (x_lset1 h2))
theorem e_iinc (k nx : Nat) {i : Nat} {n : Int} {x : Int} {ls' : List (Option Value)} (hd : (mIns M)[k]? = some (pc, .iinc i n, 3)) (hn : pc + 3 = nx) (hm : i < mL M) (hl0 : ls[i]? = some (some (.int (ii x)))) (he : x_st1 ls i (.int (ii (x + n))) = ls') (kk : x_E M mc ms nx ls' st X kc ks o Y) : x_E M mc ms pc ls st X kc ks o Y := by
  subst hn
  subst he
  intro p l e s m args below meth c H locs arr G base C w S hl
  have hx := C.2.1
  have hb := C.2.2.1
  obtain ⟨z, hz⟩ := List.getElem?_of_mem ((x_ls_mem (base := base) (q := (i, .int (ii x))) ls 0).mpr ⟨i, .int (ii x), hl0, by simp [x_v]⟩)
  exact lv_iinc hx hb (x_dec C.1 hd) hl hz (ii_add x n) hm rfl (fun ls2 h2 => kk p l e s m args below meth c H locs ls2 G base C w S (x_lset1 (v := .int (ii (x + n))) h2))
theorem e_iadd (k nx : Nat) {x y : Int} (hd : (mIns M)[k]? = some (pc, .iadd, 1)) (hn : pc + 1 = nx) (kk : x_E M mc ms nx ls (.int (ii (x + y)) :: st) X kc ks o Y) : x_E M mc ms pc ls (.int (ii y) :: .int (ii x) :: st) X kc ks o Y := by
  subst hn
  intro p l e s m args below meth c H locs arr G base C w S hl
  have hx := C.2.1
  have hb := C.2.2.1
  refine lv_iadd (x := ii x) (y := ii y) hx hb (x_dec C.1 hd) ?_
  rw [ii_add]
  exact kk p l e s m args below meth c H locs arr G base C w S hl
theorem e_isub (k nx : Nat) {x y : Int} (hd : (mIns M)[k]? = some (pc, .isub, 1)) (hn : pc + 1 = nx) (kk : x_E M mc ms nx ls (.int (ii (x - y)) :: st) X kc ks o Y) : x_E M mc ms pc ls (.int (ii y) :: .int (ii x) :: st) X kc ks o Y := by
  subst hn
  intro p l e s m args below meth c H locs arr G base C w S hl
  have hx := C.2.1
  have hb := C.2.2.1
  refine lv_isub (x := ii x) (y := ii y) hx hb (x_dec C.1 hd) ?_
  rw [ii_sub]
  exact kk p l e s m args below meth c H locs arr G base C w S hl
theorem e_imul (k nx : Nat) {x y : Int} (hd : (mIns M)[k]? = some (pc, .imul, 1)) (hn : pc + 1 = nx) (kk : x_E M mc ms nx ls (.int (ii (x * y)) :: st) X kc ks o Y) : x_E M mc ms pc ls (.int (ii y) :: .int (ii x) :: st) X kc ks o Y := by
  subst hn
  intro p l e s m args below meth c H locs arr G base C w S hl
  have hx := C.2.1
  have hb := C.2.2.1
  refine lv_imul (x := ii x) (y := ii y) hx hb (x_dec C.1 hd) ?_
  rw [ii_mul]
  exact kk p l e s m args below meth c H locs arr G base C w S hl
theorem e_ladd (k nx : Nat) {x y : Int} (hd : (mIns M)[k]? = some (pc, .ladd, 1)) (hn : pc + 1 = nx) (kk : x_E M mc ms nx ls (.long (ll (x + y)) :: st) X kc ks o Y) : x_E M mc ms pc ls (.long (ll y) :: .long (ll x) :: st) X kc ks o Y := by
  subst hn
  intro p l e s m args below meth c H locs arr G base C w S hl
  have hx := C.2.1
  have hb := C.2.2.1
  refine lv_ladd (x := ll x) (y := ll y) hx hb (x_dec C.1 hd) ?_
  rw [ll_add]
  exact kk p l e s m args below meth c H locs arr G base C w S hl
theorem e_lmul (k nx : Nat) {x y : Int} (hd : (mIns M)[k]? = some (pc, .lmul, 1)) (hn : pc + 1 = nx) (kk : x_E M mc ms nx ls (.long (ll (x * y)) :: st) X kc ks o Y) : x_E M mc ms pc ls (.long (ll y) :: .long (ll x) :: st) X kc ks o Y := by
  subst hn
  intro p l e s m args below meth c H locs arr G base C w S hl
  have hx := C.2.1
  have hb := C.2.2.1
  refine lv_lmul (x := ll x) (y := ll y) hx hb (x_dec C.1 hd) ?_
  rw [ll_mul]
  exact kk p l e s m args below meth c H locs arr G base C w S hl
theorem e_land (k nx : Nat) {x y : Int64} (hd : (mIns M)[k]? = some (pc, .land, 1)) (hn : pc + 1 = nx) (kk : x_E M mc ms nx ls (.long (x &&& y) :: st) X kc ks o Y) : x_E M mc ms pc ls (.long y :: .long x :: st) X kc ks o Y := by
  subst hn
  intro p l e s m args below meth c H locs arr G base C w S hl
  have hx := C.2.1
  have hb := C.2.2.1
  exact lv_land hx hb (x_dec C.1 hd) (kk p l e s m args below meth c H locs arr G base C w S hl)
theorem e_lor (k nx : Nat) {x y : Int64} (hd : (mIns M)[k]? = some (pc, .lor, 1)) (hn : pc + 1 = nx) (kk : x_E M mc ms nx ls (.long (x ||| y) :: st) X kc ks o Y) : x_E M mc ms pc ls (.long y :: .long x :: st) X kc ks o Y := by
  subst hn
  intro p l e s m args below meth c H locs arr G base C w S hl
  have hx := C.2.1
  have hb := C.2.2.1
  exact lv_lor hx hb (x_dec C.1 hd) (kk p l e s m args below meth c H locs arr G base C w S hl)
theorem e_lxor (k nx : Nat) {x y : Int64} (hd : (mIns M)[k]? = some (pc, .lxor, 1)) (hn : pc + 1 = nx) (kk : x_E M mc ms nx ls (.long (x ^^^ y) :: st) X kc ks o Y) : x_E M mc ms pc ls (.long y :: .long x :: st) X kc ks o Y := by
  subst hn
  intro p l e s m args below meth c H locs arr G base C w S hl
  have hx := C.2.1
  have hb := C.2.2.1
  exact lv_lxor hx hb (x_dec C.1 hd) (kk p l e s m args below meth c H locs arr G base C w S hl)
theorem e_lshl (k nx : Nat) {x : Int64} {y : Int32} (hd : (mIns M)[k]? = some (pc, .lshl, 1)) (hn : pc + 1 = nx) (kk : x_E M mc ms nx ls (.long (x <<< (y.toInt64 &&& 63)) :: st) X kc ks o Y) : x_E M mc ms pc ls (.int y :: .long x :: st) X kc ks o Y := by
  subst hn
  intro p l e s m args below meth c H locs arr G base C w S hl
  have hx := C.2.1
  have hb := C.2.2.1
  exact lv_lshl hx hb (x_dec C.1 hd) rfl (kk p l e s m args below meth c H locs arr G base C w S hl)
theorem e_lshr (k nx : Nat) {x : Int64} {y : Int32} (hd : (mIns M)[k]? = some (pc, .lshr, 1)) (hn : pc + 1 = nx) (kk : x_E M mc ms nx ls (.long (x >>> (y.toInt64 &&& 63)) :: st) X kc ks o Y) : x_E M mc ms pc ls (.int y :: .long x :: st) X kc ks o Y := by
  subst hn
  intro p l e s m args below meth c H locs arr G base C w S hl
  have hx := C.2.1
  have hb := C.2.2.1
  exact lv_lshr hx hb (x_dec C.1 hd) rfl (kk p l e s m args below meth c H locs arr G base C w S hl)
theorem e_iand (k nx : Nat) {x y : Int32} (hd : (mIns M)[k]? = some (pc, .iand, 1)) (hn : pc + 1 = nx) (kk : x_E M mc ms nx ls (.int (x &&& y) :: st) X kc ks o Y) : x_E M mc ms pc ls (.int y :: .int x :: st) X kc ks o Y := by
  subst hn
  intro p l e s m args below meth c H locs arr G base C w S hl
  have hx := C.2.1
  have hb := C.2.2.1
  exact lv_iand hx hb (x_dec C.1 hd) (kk p l e s m args below meth c H locs arr G base C w S hl)
theorem e_idiv (k nx : Nat) {x y z : Int} (hd : (mIns M)[k]? = some (pc, .idiv, 1)) (hn : pc + 1 = nx) (hne : ¬ ii y = 0) (hz : ii x / ii y = ii z) (kk : x_E M mc ms nx ls (.int (ii z) :: st) X kc ks o Y) : x_E M mc ms pc ls (.int (ii y) :: .int (ii x) :: st) X kc ks o Y := by
  subst hn
  intro p l e s m args below meth c H locs arr G base C w S hl
  have hx := C.2.1
  have hb := C.2.2.1
  refine lv_idiv (x := ii x) (y := ii y) hx hb (x_dec C.1 hd) hne ?_
  rw [hz]
  exact kk p l e s m args below meth c H locs arr G base C w S hl
theorem e_irem (k nx : Nat) {x y z : Int} (hd : (mIns M)[k]? = some (pc, .irem, 1)) (hn : pc + 1 = nx) (hne : ¬ ii y = 0) (hz : ii x - ii x / ii y * ii y = ii z) (kk : x_E M mc ms nx ls (.int (ii z) :: st) X kc ks o Y) : x_E M mc ms pc ls (.int (ii y) :: .int (ii x) :: st) X kc ks o Y := by
  subst hn
  intro p l e s m args below meth c H locs arr G base C w S hl
  have hx := C.2.1
  have hb := C.2.2.1
  refine lv_irem (x := ii x) (y := ii y) hx hb (x_dec C.1 hd) hne ?_
  rw [hz]
  exact kk p l e s m args below meth c H locs arr G base C w S hl
theorem e_i2l (k nx : Nat) {x : Int} (hd : (mIns M)[k]? = some (pc, .i2l, 1)) (hn : pc + 1 = nx) (hr : xr x) (kk : x_E M mc ms nx ls (.long (ll x) :: st) X kc ks o Y) : x_E M mc ms pc ls (.int (ii x) :: st) X kc ks o Y := by
  subst hn
  intro p l e s m args below meth c H locs arr G base C w S hl
  have hx := C.2.1
  have hb := C.2.2.1
  exact lv_i2l hx hb (x_dec C.1 hd) (ii_i2l hr) (kk p l e s m args below meth c H locs arr G base C w S hl)
theorem e_lcmp (k nx : Nat) {x y : Int64} (hd : (mIns M)[k]? = some (pc, .lcmp, 1)) (hn : pc + 1 = nx) (kk : x_E M mc ms nx ls (.int (lg_cmp x y) :: st) X kc ks o Y) : x_E M mc ms pc ls (.long y :: .long x :: st) X kc ks o Y := by
  subst hn
  intro p l e s m args below meth c H locs arr G base C w S hl
  have hx := C.2.1
  have hb := C.2.2.1
  exact W.lcmp hx hb (x_dec C.1 hd) (kk p l e s m args below meth c H locs arr G base C w S hl)
theorem e_dup (k nx : Nat) {v : Value} (hd : (mIns M)[k]? = some (pc, .dup, 1)) (hn : pc + 1 = nx) (hc : v.category = 1) (kk : x_E M mc ms nx ls (v :: v :: st) X kc ks o Y) : x_E M mc ms pc ls (v :: st) X kc ks o Y := by
  subst hn
  intro p l e s m args below meth c H locs arr G base C w S hl
  have hx := C.2.1
  have hb := C.2.2.1
  exact lv_dup hx hb (x_dec C.1 hd) ((x_v_cat base v).trans hc) (kk p l e s m args below meth c H locs arr G base C w S hl)
theorem e_dup2 (k nx : Nat) {v u : Value} (hd : (mIns M)[k]? = some (pc, .dup2, 1)) (hn : pc + 1 = nx) (hc : v.category = 1) (hc2 : u.category = 1) (kk : x_E M mc ms nx ls (v :: u :: v :: u :: st) X kc ks o Y) : x_E M mc ms pc ls (v :: u :: st) X kc ks o Y := by
  subst hn
  intro p l e s m args below meth c H locs arr G base C w S hl
  have hx := C.2.1
  have hb := C.2.2.1
  exact lv_dup2_11 hx hb (x_dec C.1 hd) ((x_v_cat base v).trans hc) ((x_v_cat base u).trans hc2) (kk p l e s m args below meth c H locs arr G base C w S hl)
theorem e_pop (k nx : Nat) {v : Value} (hd : (mIns M)[k]? = some (pc, .pop, 1)) (hn : pc + 1 = nx) (hc : v.category = 1) (kk : x_E M mc ms nx ls st X kc ks o Y) : x_E M mc ms pc ls (v :: st) X kc ks o Y := by
  subst hn
  intro p l e s m args below meth c H locs arr G base C w S hl
  have hx := C.2.1
  have hb := C.2.2.1
  exact lv_pop hx hb (x_dec C.1 hd) ((x_v_cat base v).trans hc) (kk p l e s m args below meth c H locs arr G base C w S hl)
theorem e_goto (k tg : Nat) {off : Int} (hd : (mIns M)[k]? = some (pc, .goto off, 3)) (ht : (pc : Int) + off = (tg : Int)) (kk : x_E M mc ms tg ls st X kc ks o Y) : x_E M mc ms pc ls st X kc ks o Y := by
  intro p l e s m args below meth c H locs arr G base C w S hl
  have hx := C.2.1
  have hb := C.2.2.1
  exact lv_goto hx hb (x_dec C.1 hd) ht (kk p l e s m args below meth c H locs arr G base C w S hl)
theorem e_icmp_eq (k tg nx : Nat) {x y : Int} {off : Int} (hd : (mIns M)[k]? = some (pc, .if_icmp .eq off, 3)) (ht : (pc : Int) + off = (tg : Int)) (hn : pc + 3 = nx) (hrx : xr x) (hry : xr y) (kt : x = y → x_E M mc ms tg ls st X kc ks o Y) (kf : ¬ x = y → x_E M mc ms nx ls st X kc ks o Y) : x_E M mc ms pc ls (.int (ii y) :: .int (ii x) :: st) X kc ks o Y := by
  subst hn
  intro p l e s m args below meth c H locs arr G base C w S hl
  have hx := C.2.1
  have hb := C.2.2.1
  exact lv_icmp_eq hx hb (x_dec C.1 hd) ht (fun h => kt ((ii_eq hrx hry).mp h) p l e s m args below meth c H locs arr G base C w S hl) (fun h => kf (fun q => h ((ii_eq hrx hry).mpr q)) p l e s m args below meth c H locs arr G base C w S hl)
theorem e_if_eq (k tg nx : Nat) {x : Int} {off : Int} (hd : (mIns M)[k]? = some (pc, .ifCond .eq off, 3)) (ht : (pc : Int) + off = (tg : Int)) (hn : pc + 3 = nx) (hrx : xr x) (kt : x = 0 → x_E M mc ms tg ls st X kc ks o Y) (kf : ¬ x = 0 → x_E M mc ms nx ls st X kc ks o Y) : x_E M mc ms pc ls (.int (ii x) :: st) X kc ks o Y := by
  subst hn
  intro p l e s m args below meth c H locs arr G base C w S hl
  have hx := C.2.1
  have hb := C.2.2.1
  exact lv_if_eq hx hb (x_dec C.1 hd) ht (fun h => kt ((ii_eq hrx xr_0).mp h) p l e s m args below meth c H locs arr G base C w S hl) (fun h => kf (fun q => h ((ii_eq hrx xr_0).mpr q)) p l e s m args below meth c H locs arr G base C w S hl)
theorem e_icmp_ne (k tg nx : Nat) {x y : Int} {off : Int} (hd : (mIns M)[k]? = some (pc, .if_icmp .ne off, 3)) (ht : (pc : Int) + off = (tg : Int)) (hn : pc + 3 = nx) (hrx : xr x) (hry : xr y) (kt : ¬ x = y → x_E M mc ms tg ls st X kc ks o Y) (kf : x = y → x_E M mc ms nx ls st X kc ks o Y) : x_E M mc ms pc ls (.int (ii y) :: .int (ii x) :: st) X kc ks o Y := by
  subst hn
  intro p l e s m args below meth c H locs arr G base C w S hl
  have hx := C.2.1
  have hb := C.2.2.1
  exact lv_icmp_ne hx hb (x_dec C.1 hd) ht (fun h => kt (fun q => h ((ii_eq hrx hry).mpr q)) p l e s m args below meth c H locs arr G base C w S hl) (fun h => kf ((ii_eq hrx hry).mp h) p l e s m args below meth c H locs arr G base C w S hl)
theorem e_if_ne (k tg nx : Nat) {x : Int} {off : Int} (hd : (mIns M)[k]? = some (pc, .ifCond .ne off, 3)) (ht : (pc : Int) + off = (tg : Int)) (hn : pc + 3 = nx) (hrx : xr x) (kt : ¬ x = 0 → x_E M mc ms tg ls st X kc ks o Y) (kf : x = 0 → x_E M mc ms nx ls st X kc ks o Y) : x_E M mc ms pc ls (.int (ii x) :: st) X kc ks o Y := by
  subst hn
  intro p l e s m args below meth c H locs arr G base C w S hl
  have hx := C.2.1
  have hb := C.2.2.1
  exact lv_if_ne hx hb (x_dec C.1 hd) ht (fun h => kt (fun q => h ((ii_eq hrx xr_0).mpr q)) p l e s m args below meth c H locs arr G base C w S hl) (fun h => kf ((ii_eq hrx xr_0).mp h) p l e s m args below meth c H locs arr G base C w S hl)
theorem e_icmp_lt (k tg nx : Nat) {x y : Int} {off : Int} (hd : (mIns M)[k]? = some (pc, .if_icmp .lt off, 3)) (ht : (pc : Int) + off = (tg : Int)) (hn : pc + 3 = nx) (hrx : xr x) (hry : xr y) (kt : x < y → x_E M mc ms tg ls st X kc ks o Y) (kf : y ≤ x → x_E M mc ms nx ls st X kc ks o Y) : x_E M mc ms pc ls (.int (ii y) :: .int (ii x) :: st) X kc ks o Y := by
  subst hn
  intro p l e s m args below meth c H locs arr G base C w S hl
  have hx := C.2.1
  have hb := C.2.2.1
  exact lv_icmp_lt hx hb (x_dec C.1 hd) ht (fun h => kt ((ii_lt hrx hry).mp h) p l e s m args below meth c H locs arr G base C w S hl) (fun h => kf (Int.not_lt.mp (fun q => h ((ii_lt hrx hry).mpr q))) p l e s m args below meth c H locs arr G base C w S hl)
theorem e_if_lt (k tg nx : Nat) {x : Int} {off : Int} (hd : (mIns M)[k]? = some (pc, .ifCond .lt off, 3)) (ht : (pc : Int) + off = (tg : Int)) (hn : pc + 3 = nx) (hrx : xr x) (kt : x < 0 → x_E M mc ms tg ls st X kc ks o Y) (kf : 0 ≤ x → x_E M mc ms nx ls st X kc ks o Y) : x_E M mc ms pc ls (.int (ii x) :: st) X kc ks o Y := by
  subst hn
  intro p l e s m args below meth c H locs arr G base C w S hl
  have hx := C.2.1
  have hb := C.2.2.1
  exact lv_if_lt hx hb (x_dec C.1 hd) ht (fun h => kt ((ii_lt hrx xr_0).mp h) p l e s m args below meth c H locs arr G base C w S hl) (fun h => kf (Int.not_lt.mp (fun q => h ((ii_lt hrx xr_0).mpr q))) p l e s m args below meth c H locs arr G base C w S hl)
theorem e_icmp_ge (k tg nx : Nat) {x y : Int} {off : Int} (hd : (mIns M)[k]? = some (pc, .if_icmp .ge off, 3)) (ht : (pc : Int) + off = (tg : Int)) (hn : pc + 3 = nx) (hrx : xr x) (hry : xr y) (kt : y ≤ x → x_E M mc ms tg ls st X kc ks o Y) (kf : x < y → x_E M mc ms nx ls st X kc ks o Y) : x_E M mc ms pc ls (.int (ii y) :: .int (ii x) :: st) X kc ks o Y := by
  subst hn
  intro p l e s m args below meth c H locs arr G base C w S hl
  have hx := C.2.1
  have hb := C.2.2.1
  exact lv_icmp_ge hx hb (x_dec C.1 hd) ht (fun h => kt ((ii_le hry hrx).mp h) p l e s m args below meth c H locs arr G base C w S hl) (fun h => kf (Int.not_le.mp (fun q => h ((ii_le hry hrx).mpr q))) p l e s m args below meth c H locs arr G base C w S hl)
theorem e_if_ge (k tg nx : Nat) {x : Int} {off : Int} (hd : (mIns M)[k]? = some (pc, .ifCond .ge off, 3)) (ht : (pc : Int) + off = (tg : Int)) (hn : pc + 3 = nx) (hrx : xr x) (kt : 0 ≤ x → x_E M mc ms tg ls st X kc ks o Y) (kf : x < 0 → x_E M mc ms nx ls st X kc ks o Y) : x_E M mc ms pc ls (.int (ii x) :: st) X kc ks o Y := by
  subst hn
  intro p l e s m args below meth c H locs arr G base C w S hl
  have hx := C.2.1
  have hb := C.2.2.1
  exact lv_if_ge hx hb (x_dec C.1 hd) ht (fun h => kt ((ii_le xr_0 hrx).mp h) p l e s m args below meth c H locs arr G base C w S hl) (fun h => kf (Int.not_le.mp (fun q => h ((ii_le xr_0 hrx).mpr q))) p l e s m args below meth c H locs arr G base C w S hl)
theorem e_icmp_gt (k tg nx : Nat) {x y : Int} {off : Int} (hd : (mIns M)[k]? = some (pc, .if_icmp .gt off, 3)) (ht : (pc : Int) + off = (tg : Int)) (hn : pc + 3 = nx) (hrx : xr x) (hry : xr y) (kt : y < x → x_E M mc ms tg ls st X kc ks o Y) (kf : x ≤ y → x_E M mc ms nx ls st X kc ks o Y) : x_E M mc ms pc ls (.int (ii y) :: .int (ii x) :: st) X kc ks o Y := by
  subst hn
  intro p l e s m args below meth c H locs arr G base C w S hl
  have hx := C.2.1
  have hb := C.2.2.1
  exact lv_icmp_gt hx hb (x_dec C.1 hd) ht (fun h => kt ((ii_lt hry hrx).mp h) p l e s m args below meth c H locs arr G base C w S hl) (fun h => kf (Int.not_lt.mp (fun q => h ((ii_lt hry hrx).mpr q))) p l e s m args below meth c H locs arr G base C w S hl)
theorem e_if_gt (k tg nx : Nat) {x : Int} {off : Int} (hd : (mIns M)[k]? = some (pc, .ifCond .gt off, 3)) (ht : (pc : Int) + off = (tg : Int)) (hn : pc + 3 = nx) (hrx : xr x) (kt : 0 < x → x_E M mc ms tg ls st X kc ks o Y) (kf : x ≤ 0 → x_E M mc ms nx ls st X kc ks o Y) : x_E M mc ms pc ls (.int (ii x) :: st) X kc ks o Y := by
  subst hn
  intro p l e s m args below meth c H locs arr G base C w S hl
  have hx := C.2.1
  have hb := C.2.2.1
  exact lv_if_gt hx hb (x_dec C.1 hd) ht (fun h => kt ((ii_lt xr_0 hrx).mp h) p l e s m args below meth c H locs arr G base C w S hl) (fun h => kf (Int.not_lt.mp (fun q => h ((ii_lt xr_0 hrx).mpr q))) p l e s m args below meth c H locs arr G base C w S hl)
theorem e_icmp_le (k tg nx : Nat) {x y : Int} {off : Int} (hd : (mIns M)[k]? = some (pc, .if_icmp .le off, 3)) (ht : (pc : Int) + off = (tg : Int)) (hn : pc + 3 = nx) (hrx : xr x) (hry : xr y) (kt : x ≤ y → x_E M mc ms tg ls st X kc ks o Y) (kf : y < x → x_E M mc ms nx ls st X kc ks o Y) : x_E M mc ms pc ls (.int (ii y) :: .int (ii x) :: st) X kc ks o Y := by
  subst hn
  intro p l e s m args below meth c H locs arr G base C w S hl
  have hx := C.2.1
  have hb := C.2.2.1
  exact lv_icmp_le hx hb (x_dec C.1 hd) ht (fun h => kt ((ii_le hrx hry).mp h) p l e s m args below meth c H locs arr G base C w S hl) (fun h => kf (Int.not_le.mp (fun q => h ((ii_le hrx hry).mpr q))) p l e s m args below meth c H locs arr G base C w S hl)
theorem e_if_le (k tg nx : Nat) {x : Int} {off : Int} (hd : (mIns M)[k]? = some (pc, .ifCond .le off, 3)) (ht : (pc : Int) + off = (tg : Int)) (hn : pc + 3 = nx) (hrx : xr x) (kt : x ≤ 0 → x_E M mc ms tg ls st X kc ks o Y) (kf : 0 < x → x_E M mc ms nx ls st X kc ks o Y) : x_E M mc ms pc ls (.int (ii x) :: st) X kc ks o Y := by
  subst hn
  intro p l e s m args below meth c H locs arr G base C w S hl
  have hx := C.2.1
  have hb := C.2.2.1
  exact lv_if_le hx hb (x_dec C.1 hd) ht (fun h => kt ((ii_le hrx xr_0).mp h) p l e s m args below meth c H locs arr G base C w S hl) (fun h => kf (Int.not_le.mp (fun q => h ((ii_le hrx xr_0).mpr q))) p l e s m args below meth c H locs arr G base C w S hl)
end XE
end
section
/-! ===== entry, answers, calls ===== -/
def x_en : List Value → List (Option Value)
  | [] => []
  | v :: r => bif x_is2 (some (some v)) then some v :: none :: x_en r else some v :: x_en r
theorem x_is2_cat (v : Value) : x_is2 (some (some v)) = true ↔ v.category = 2 := by cases v <;> simp [x_is2, Value.category]
theorem x_en_mem {base : Nat} {q : Nat × Value} : ∀ (av : List Value) (i : Nat) (r : List (Option Value)), (∀ z, some z ∉ r) → q ∈ x_ls base i (x_en av ++ r) → q ∈ lv_args i (av.map (x_v base)) := by
  intro av
  induction av with
  | nil =>
    intro i r hr hq
    obtain ⟨k, u, h1, -⟩ := (x_ls_mem _ i).mp hq
    exact absurd (List.mem_of_getElem? h1) (by simpa [x_en] using hr u)
  | cons v av ih =>
    intro i r hr hq
    cases hb : x_is2 (some (some v)) with
    | true =>
      have e : x_en (v :: av) = some v :: none :: x_en av := by show (bif x_is2 (some (some v)) then _ else _) = _; rw [hb]; rfl
      have hc : (x_v base v).category = 2 := (x_v_cat base v).trans ((x_is2_cat v).mp hb)
      rw [e] at hq
      simp only [List.cons_append, x_ls, List.mem_cons] at hq
      simp only [List.map_cons, lv_args, hc, if_true, List.mem_cons]
      rcases hq with h | h
      · exact Or.inl h
      · exact Or.inr (ih (i + 2) r hr h)
    | false =>
      have e : x_en (v :: av) = some v :: x_en av := by show (bif x_is2 (some (some v)) then _ else _) = _; rw [hb]; rfl
      have hc : ¬ (x_v base v).category = 2 := fun z => by rw [x_v_cat] at z; rw [(x_is2_cat v).mpr z] at hb; cases hb
      rw [e] at hq
      simp only [List.cons_append, x_ls, List.mem_cons] at hq
      simp only [List.map_cons, lv_args, hc, if_false, List.mem_cons]
      rcases hq with h | h
      · exact Or.inl h
      · exact Or.inr (ih (i + 1) r hr h)
theorem x_sl_len (base : Nat) : ∀ av : List Value, (lg_sl (av.map (x_v base))).length = (x_en av).length := by
  intro av
  induction av with
  | nil => rfl
  | cons v av ih =>
    have e : lg_sl ((v :: av).map (x_v base)) = (if (x_v base v).category = 2 then [Slot.val (x_v base v), .second] else [.val (x_v base v)]) ++ lg_sl (av.map (x_v base)) := by simp [lg_sl]
    rw [e, List.length_append, ih]
    show _ = (bif x_is2 (some (some v)) then _ else _ : List (Option Value)).length
    cases hb : x_is2 (some (some v)) with
    | true =>
      rw [if_pos ((x_v_cat base v).trans ((x_is2_cat v).mp hb))]
      show _ = (some v :: none :: x_en av).length
      simp; omega
    | false =>
      rw [if_neg (fun z => by rw [x_v_cat] at z; rw [(x_is2_cat v).mpr z] at hb; cases hb)]
      show _ = (some v :: x_en av).length
      simp; omega
/-- a contract out of the judgement at the method's entry -/
theorem e_entry {M : x_MT} {mc ms : Nat} {av : List Value} {ls : List (Option Value)} {X Y : xS} {o : xO} (ok : x_MOk M) (hn : (x_en av).length ≤ mL M) (hls : x_en av ++ List.replicate (mL M - (x_en av).length) none = ls) (kk : x_E M mc ms 0 ls [] X 0 0 o Y) : x_Sp M mc ms av X o Y := by
  intro l G base hst
  refine vx_ofW (cc := mCode M) (maxL := mL M) (ret := mRet M) ok.2.2.1 rfl ?_
  intro p e s m args below meth c s₁ B hml htab hv
  obtain ⟨rfl, hw, hp⟩ := hv
  have hts := atoms_spec (ws := x_ws M) B.pre
  have hlen : (lg_sl (av.map (x_v base))).length ≤ mL M := by rw [x_sl_len]; exact hn
  have hl := lv_entry (av.map (x_v base)) hlen
  rw [lg_entry_eq]
  have hown : s.vm.findClass (mOwn M) = some m.cls := by rw [← ok.2.2.2.1]; exact findClass_of_methodNamed B.named
  refine kk p l e s m _ below meth c s.heap [] _ G base ⟨ok, B.exec, B.bytes, B.returns, hml, hown, fun w h => hts w (List.mem_cons_of_mem _ h), hp, htab, B.notSynchronized, (name_of_methodNamed B.named B.method).1, hst⟩ hw va_S.rf (x_lsub hl fun q hq => ?_)
  rw [← hls] at hq
  exact x_en_mem av 0 _ (fun z hz => by have := List.eq_of_mem_replicate hz; cases this) hq
section XR
variable {M : x_MT} {mc ms pc kc ks : Nat} {ls : List (Option Value)} {st : List Value} {X Y : xS} {o : xO}
theorem x_fin {below : List Frame} {base : Nat} {G : xG} {s : State} {args : Array Value} {v : Option Value} {H : Heap} {locs : List Loc} (w : x_W base G X H) (S : va_S (x_A base) s.heap H locs) (t : State) (ht : t.heap = H) : x_Qc base G (.inl v) X args s (.returned (v.map (x_v base))) t :=
  ⟨⟨v, rfl, rfl⟩, by rw [ht]; exact w, S.F ht⟩
theorem x_widen {p : Program} {l : Launch} {e : Env} {R : Room} {s : State} {m : MethodId} {args : Array Value} {below : List Frame} {meth : Method} {c : Code} {H : Heap} {locs : List Loc} {Qc : Array Value → State → Outcome → State → Prop} {XC : String → State → State → Prop} {free : Addr → Prop} {g : JFrame} (h1 : kc ≤ mc) (h2 : ks ≤ ms)
    (k : W p l e R s m args below meth c H locs mc ms (vx_MQ below Qc XC args s mc ms free) g) : W p l e R s m args below meth c H locs kc ks (vx_MQ below Qc XC args s mc ms free) g := fun T hT X => k T hT (stand_widen X h1 h2)
theorem e_ireturn (k : Nat) {x : Int} (hd : (mIns M)[k]? = some (pc, .ireturn, 1)) (hr : mRet M = some .int) (hc : kc ≤ mc) (hs : ks ≤ ms) : x_E M mc ms pc ls [.int (ii x)] X kc ks (.inl (some (.int (ii x)))) X := by
  intro p l e s m args below meth c H locs arr G base C w S hl
  refine x_widen hc hs (vx_ret ?_)
  exact W.iret (v := ii x) C.2.1 C.2.2.1 (C.2.2.2.1.trans hr) (fun t ht _ => x_fin (below := below) w S t ht) S.2.2 (x_dec C.1 hd) C.2.2.2.2.2.2.2.2.2.1
theorem e_zreturn (k : Nat) {x : Int} (hd : (mIns M)[k]? = some (pc, .ireturn, 1)) (hr : mRet M = some .boolean) (hx : x = 0 ∨ x = 1) (hc : kc ≤ mc) (hs : ks ≤ ms) : x_E M mc ms pc ls [.int (ii x)] X kc ks (.inl (some (.int (ii x)))) X := by
  intro p l e s m args below meth c H locs arr G base C w S hl
  refine x_widen hc hs (vx_ret ?_)
  exact W.zret (v := ii x) C.2.1 C.2.2.1 (C.2.2.2.1.trans hr) (by rcases hx with rfl | rfl <;> rfl) (fun t ht _ => x_fin (below := below) w S t ht) S.2.2 (x_dec C.1 hd) C.2.2.2.2.2.2.2.2.2.1
theorem e_lreturn (k : Nat) {x : Int64} (hd : (mIns M)[k]? = some (pc, .lreturn, 1)) (hr : mRet M = some .long) (hc : kc ≤ mc) (hs : ks ≤ ms) : x_E M mc ms pc ls [.long x] X kc ks (.inl (some (.long x))) X := by
  intro p l e s m args below meth c H locs arr G base C w S hl
  refine x_widen hc hs (vx_ret ?_)
  exact W.lret (v := x) C.2.1 C.2.2.1 (C.2.2.2.1.trans hr) (fun t ht _ => x_fin (below := below) w S t ht) S.2.2 (x_dec C.1 hd) C.2.2.2.2.2.2.2.2.2.1
theorem e_areturn (k : Nat) {a : Nat} {n : String} (hd : (mIns M)[k]? = some (pc, .areturn, 1)) (hr : mRet M = some (.object n)) (hc : kc ≤ mc) (hs : ks ≤ ms) : x_E M mc ms pc ls [.ref a] X kc ks (.inl (some (.ref a))) X := by
  intro p l e s m args below meth c H locs arr G base C w S hl
  refine x_widen hc hs (vx_ret ?_)
  exact W.aret (v := .ref (base + a)) C.2.1 C.2.2.1 (C.2.2.2.1.trans hr) (Or.inl ⟨n, rfl⟩) (Or.inr ⟨_, rfl⟩) (fun t ht _ => x_fin (below := below) w S t ht) S.2.2 (x_dec C.1 hd) C.2.2.2.2.2.2.2.2.2.1
theorem e_return (k : Nat) (hd : (mIns M)[k]? = some (pc, .return_, 1)) (hr : mRet M = none) (hc : kc ≤ mc) (hs : ks ≤ ms) : x_E M mc ms pc ls [] X kc ks (.inl none) X := by
  intro p l e s m args below meth c H locs arr G base C w S hl
  refine x_widen hc hs (vx_ret ?_)
  exact W.vret C.2.1 C.2.2.1 (C.2.2.2.1.trans hr) (fun t ht _ => x_fin (below := below) w S t ht) S.2.2 (x_dec C.1 hd) C.2.2.2.2.2.2.2.2.2.1
/-! calls -/
variable {p : Program} {l : Launch} {e : Env} {s : State} {m : MethodId} {args : Array Value} {below : List Frame} {meth : Method} {c : Code} {H : Heap} {locs : List Loc} {arr : Array Slot} {G : xG} {base : Nat}
theorem x_blind {av : List Value} : FrameBlind (x_Pc base G av X) := by
  intro a U g mk h
  obtain ⟨h1, h2, h3⟩ := h
  exact ⟨h1, h2, h3.moved (State.WarmedH.refl U) (Nat.le_refl _) (fun _ _ _ => rfl)⟩
theorem x_pre {av : List Value} (C : x_Cx M p l s m args meth c G base) (w : x_W base G X H) (S : va_S (x_A base) s.heap H locs) : PreS s H (x_Pc base G av X) (av.map (x_v base)) :=
  ⟨x_blind, fun U hU hW => ⟨rfl, by rw [hU]; exact w, C.2.2.2.2.2.2.2.1.moved hW (by rw [hU]; exact S.1) (fun q h1 h2 => by rw [hU]; exact S.2.1 q h1 h2)⟩⟩
/-- behind a call that has answered -/
theorem x_back {v : Option Value} {X' : xS} {mc' ms' : Nat} {a : Array Value} {st0 rest : List Value} (hr : vx_Run p l e (x_rm M mc ms) s m args below meth c H locs kc ks mc' ms' (F0 m pc arr st0) (rest.map (x_v base)) (x_Qc base G (.inl v) X' a) (x_XC base G (.inl v) X') (x_A base)) (C : x_Cx M p l s m args meth c G base) (S : va_S (x_A base) s.heap H locs) (hl : lv_has arr (mL M) (x_ls base 0 ls))
    (kk : x_E M mc ms (pc + 3) ls (v.toList ++ rest) X' (kc + mc') (ks + ms') o Y) : W p l e (x_rm M mc ms) s m args below meth c H locs kc ks (vx_MQ below (x_Qc base G o Y) (x_XC base G o Y) args s mc ms (x_A base)) (F0 m pc arr st0) := by
  intro T hT X0
  rcases hr T hT X0 with ⟨v', st₀, t, T', L, h0, X', hL, e1, e2, ⟨⟨v2, hv2, hv⟩, hw, hF⟩, st⟩ | ⟨q, st₀, t, T', L, E, ce, h0, X', hL, e1, e2, ⟨hx, -⟩, -⟩
  · cases hv2
    cases hv
    obtain ⟨k1, k2, k3⟩ := vx_keep h0 e1 S (fun q _ h => h) (fun q h => h) hL hF
    obtain ⟨t2, a1, b1⟩ := kk p l e s m args below meth c T'.heap (locs ++ L) arr G base C (by rw [e1]; exact hw) k3 hl T' rfl X'
    refine ⟨t2, st t2 ?_, b1⟩
    have es : (Option.map (x_v base) v).toList ++ rest.map (x_v base) = (v.toList ++ rest).map (x_v base) := by cases v <;> simp
    rw [es]
    exact a1
  · cases hx
/-- behind a call that has thrown: it goes on to the caller -/
theorem x_backX {E0 : String} {X' : xS} {mc' ms' : Nat} {a : Array Value} {st0 rest : List Value} (hr : vx_Run p l e (x_rm M mc ms) s m args below meth c H locs kc ks mc' ms' (F0 m pc arr st0) (rest.map (x_v base)) (x_Qc base G (.inr E0) X' a) (x_XC base G (.inr E0) X') (x_A base)) (C : x_Cx M p l s m args meth c G base) (S : va_S (x_A base) s.heap H locs) (hc : kc + mc' ≤ mc) (hs : ks + ms' ≤ ms) :
    W p l e (x_rm M mc ms) s m args below meth c H locs kc ks (vx_MQ below (x_Qc base G (.inr E0) X') (x_XC base G (.inr E0) X') args s mc ms (x_A base)) (F0 m pc arr st0) := by
  intro T hT X0
  rcases hr T hT X0 with ⟨v', st₀, t, T', L, h0, X', hL, e1, e2, ⟨⟨v2, hv2, hv⟩, -⟩, -⟩ | ⟨q, st₀, t, T', L, E, ce, h0, X', hL, e1, e2, ⟨hx, hw, hF⟩, hce, hcv, hcl, st⟩
  · cases hv2
  · cases hx
    obtain ⟨k1, k2, k3⟩ := vx_keep h0 e1 S (fun q _ h => h) (fun q h => h) hL hF
    obtain ⟨t2, a1, b1⟩ := vx_out (Qc := x_Qc base G (.inr E0) _) (XC := x_XC base G (.inr E0) _) (args := args) (free := x_A base) (mc := mc) (ms := ms) (pc := pc) (ls := arr) (rest := rest.map (x_v base)) (fun x hx => (C.2.2.2.2.2.2.2.2.1 x hx).elim) C.2.2.2.2.2.2.2.2.2.1 (by rw [e1]; exact hce) hcv hcl (fun t' ht' _ => ⟨rfl, by rw [ht', e1]; exact hw, k3.F ht'⟩) k3.2.2 hc hs T' rfl X'
    exact ⟨t2, st.trans a1, b1⟩
/-- the room of a call -/
def x_Rm (M M' : x_MT) : Prop := mFr M' + 1 ≤ mFr M ∧ 8 + (mL M' + 11) + mLo M' ≤ mLo M
theorem x_callB {M' : x_MT} {idx n mc' ms' : Nat} (C : x_Cx M p l s m args meth c G base) (ok' : x_MOk M') (hl : Cond.methodLink (mOwn M) idx (mY M') ∈ tb0) (hn : (parseMethodDescriptor (mY M').desc).map (fun d => d.parameters.length) = some n) (hR : x_Rm M M') :
    CallB (x_rm M mc ms) s args (mOwn M) idx (mY M') (mCode M') (mL M') (mRet M') (x_ws M') (x_rm M' mc' ms') mc' ms' n := by
  have hts := C.2.2.2.2.2.2.1
  refine ⟨rfl, rfl, hR.1, hR.2, pay_in hts (fun w hw => ?_), List.mem_cons_self, hts _ ok'.2.1, hts _ ok'.2.2.2.2.1, ok'.2.2.2.2.2, fun sig h => ?_, hts _ hl⟩
  · rcases List.mem_cons.mp hw with rfl | h
    · exact ⟨ok'.2.1, (tb0_good _ ok'.2.1).2⟩
    · exact tb0_good w h
  · rw [h] at hn
    exact (Option.some.inj hn).symm
theorem x_fix (C : x_Cx M p l s m args meth c G base) : CallFix p m c (mCode M) (mL M) s args tb0 (mOwn M) := ⟨C.2.1, C.2.2.1, C.2.2.2.2.1, C.2.2.2.2.2.1, C.2.2.2.2.2.2.1⟩
theorem x_cats (base : Nat) (rest : List Value) : (rest.map (x_v base)).map (fun v => v.category) = rest.map (fun v => v.category) := by
  rw [List.map_map]
  exact List.map_congr_left fun v _ => x_v_cat base v
theorem x_lvsize (hl : lv_has arr (mL M) (x_ls base 0 ls)) : arr.size = mL M := hl.1
theorem x_runV {M' : x_MT} {idx n b ci mc' ms' : Nat} {r : vw_C} {fs : List (Option (Option Nat))} {av rest : List Value} {o' : xO} {X' : xS} (C : x_Cx M p l s m args meth c G base) (w : x_W base G X H) (S : va_S (x_A base) s.heap H locs) (hl : lv_has arr (mL M) (x_ls base 0 ls)) (hd : decode (mCode M) pc = .ok (.invokevirtual idx, 3)) (ok' : x_MOk M') (cv : x_CV (mOwn M) M' idx n) (hR : x_Rm M M')
    (hb : b < xN X) (hs : xF X b = .inr (.inr (ci, fs))) (hc : vwCl[ci]? = some r) (hrn : r.1 = mOwn M') (hn : av.length = n) (hrest : (rest.map fun v => v.category).sum ≤ 8) (hcc : kc + mc' ≤ mc) (hss : ks + ms' ≤ ms) (sp : x_Sp M' mc' ms' (.ref b :: av) X o' X') :
    vx_Run p l e (x_rm M mc ms) s m args below meth c H locs kc ks mc' ms' (F0 m pc arr ((av.reverse ++ .ref b :: rest).map (x_v base))) (rest.map (x_v base)) (x_Qc base G o' X' (Value.ref (base + b) :: av.map (x_v base)).toArray) (x_XC base G o' X') (x_A base) := by
  have hts := C.2.2.2.2.2.2.1
  have he : (x_wl base G X)[b]? = some (base + b, .inr (ci, x_obj base fs (xM X b))) := by rw [x_wl_at hb, hs]; rfl
  have hrec := va_recv C.2.2.2.2.2.2.2.1.1 w.1 hc he
  rw [hrn] at hrec
  obtain ⟨q1, q2⟩ := x_pre (av := .ref b :: av) C w S
  refine vx_runV (As := av.map (x_v base)) (x_fix C) (sp l G base C.2.2.2.2.2.2.2.2.2.2.2) (C := mOwn M') ⟨x_callB C ok' cv.1 cv.2.2.2 hR, hts _ cv.2.1, hts _ cv.2.2.1⟩ ⟨q1, hrec, q2⟩ rfl (by rw [List.length_map]; exact hn) hl.1 (by simp [x_v]) (lv_room (by rw [x_cats]; exact hrest)) hd ⟨hcc, hss⟩
theorem x_runS {M' : x_MT} {idx n mc' ms' : Nat} {av rest : List Value} {o' : xO} {X' : xS} (C : x_Cx M p l s m args meth c G base) (w : x_W base G X H) (S : va_S (x_A base) s.heap H locs) (hl : lv_has arr (mL M) (x_ls base 0 ls)) (hd : decode (mCode M) pc = .ok (.invokestatic idx, 3)) (ok' : x_MOk M') (cv : x_CS (mOwn M) M' idx n) (hR : x_Rm M M')
    (hn : av.length = n) (hrest : (rest.map fun v => v.category).sum ≤ 8) (hcc : kc + mc' ≤ mc) (hss : ks + ms' ≤ ms) (sp : x_Sp M' mc' ms' av X o' X') :
    vx_Run p l e (x_rm M mc ms) s m args below meth c H locs kc ks mc' ms' (F0 m pc arr ((av.reverse ++ rest).map (x_v base))) (rest.map (x_v base)) (x_Qc base G o' X' (av.map (x_v base)).toArray) (x_XC base G o' X') (x_A base) := by
  have hts := C.2.2.2.2.2.2.1
  refine vx_runS (As := av.map (x_v base)) (x_fix C) (sp l G base C.2.2.2.2.2.2.2.2.2.2.2) ⟨x_callB C ok' cv.1 cv.2.2 hR, hts _ cv.2.1⟩ (x_pre C w S) rfl (by rw [List.length_map]; exact hn) hl.1 (by simp) (lv_room (by rw [x_cats]; exact hrest)) hd ⟨hcc, hss⟩
end XR
end
section
/-! ===== the calls as rules of the judgement ===== -/
def x_rv : Option Nat → Value
  | none => .null
  | some b => .ref b
theorem x_rv_v (base : Nat) (r : Option Nat) : x_v base (x_rv r) = x_rf base r := by cases r <;> rfl
/-- a contract that answers, as the kit's plain contract -/
theorem x_Sp.met {M : x_MT} {mc ms : Nat} {av : List Value} {X Y : xS} {v : Option Value} (h : x_Sp M mc ms av X (.inl v) Y) (l : Launch) (G : xG) (base : Nat) (hst : l.stackTraces = false) :
    Met l (mY M) (x_ws M) (x_rm M mc ms) (x_Pc base G av X) (x_Qc base G (.inl v) Y) mc ms (x_A base) := by
  refine MetFree.mono (h l G base hst) (fun _ _ h => h) (fun _ _ _ _ _ h => h) (fun a s o t _ hq => ?_)
  rcases hq with hq | ⟨q, -, E, ce, L, ⟨hx, -⟩, -⟩
  · exact hq
  · cases hx
section XC2
variable {M : x_MT} {mc ms pc kc ks : Nat} {ls : List (Option Value)} {st : List Value} {X Y : xS} {o : xO}
theorem e_callV (k nx : Nat) {M' : x_MT} {idx n b ci mc' ms' : Nat} {r : vw_C} {fs : List (Option (Option Nat))} {av rest : List Value} {v : Option Value} {X' : xS} (sp : x_Sp M' mc' ms' (.ref b :: av) X (.inl v) X') (ok' : x_MOk M') (cv : x_CV (mOwn M) M' idx n) (hR : x_Rm M M') (hd : (mIns M)[k]? = some (pc, .invokevirtual idx, 3)) (hn : pc + 3 = nx)
    (hb : b < xN X) (hs : xF X b = .inr (.inr (ci, fs))) (hc : vwCl[ci]? = some r) (hrn : r.1 = mOwn M') (hst : st = av.reverse ++ .ref b :: rest) (hnn : av.length = n) (hrest : (rest.map fun v => v.category).sum ≤ 8) (hcc : kc + mc' ≤ mc) (hss : ks + ms' ≤ ms)
    (kk : x_E M mc ms nx ls (v.toList ++ rest) X' (kc + mc') (ks + ms') o Y) : x_E M mc ms pc ls st X kc ks o Y := by
  subst hn
  subst hst
  intro p l e s m args below meth c H locs arr G base C w S hl
  exact x_back (x_runV C w S hl (x_dec C.1 hd) ok' cv hR hb hs hc hrn hnn hrest hcc hss sp) C S hl kk
theorem e_callVT (k : Nat) {M' : x_MT} {idx n b ci mc' ms' : Nat} {r : vw_C} {fs : List (Option (Option Nat))} {av rest : List Value} {E0 : String} {X' : xS} (sp : x_Sp M' mc' ms' (.ref b :: av) X (.inr E0) X') (ok' : x_MOk M') (cv : x_CV (mOwn M) M' idx n) (hR : x_Rm M M') (hd : (mIns M)[k]? = some (pc, .invokevirtual idx, 3))
    (hb : b < xN X) (hs : xF X b = .inr (.inr (ci, fs))) (hc : vwCl[ci]? = some r) (hrn : r.1 = mOwn M') (hst : st = av.reverse ++ .ref b :: rest) (hnn : av.length = n) (hrest : (rest.map fun v => v.category).sum ≤ 8) (hcc : kc + mc' ≤ mc) (hss : ks + ms' ≤ ms) : x_E M mc ms pc ls st X kc ks (.inr E0) X' := by
  subst hst
  intro p l e s m args below meth c H locs arr G base C w S hl
  exact x_backX (x_runV C w S hl (x_dec C.1 hd) ok' cv hR hb hs hc hrn hnn hrest hcc hss sp) C S hcc hss
theorem e_callS (k nx : Nat) {M' : x_MT} {idx n mc' ms' : Nat} {av rest : List Value} {v : Option Value} {X' : xS} (sp : x_Sp M' mc' ms' av X (.inl v) X') (ok' : x_MOk M') (cv : x_CS (mOwn M) M' idx n) (hR : x_Rm M M') (hd : (mIns M)[k]? = some (pc, .invokestatic idx, 3)) (hn : pc + 3 = nx)
    (hst : st = av.reverse ++ rest) (hnn : av.length = n) (hrest : (rest.map fun v => v.category).sum ≤ 8) (hcc : kc + mc' ≤ mc) (hss : ks + ms' ≤ ms)
    (kk : x_E M mc ms nx ls (v.toList ++ rest) X' (kc + mc') (ks + ms') o Y) : x_E M mc ms pc ls st X kc ks o Y := by
  subst hn
  subst hst
  intro p l e s m args below meth c H locs arr G base C w S hl
  exact x_back (x_runS C w S hl (x_dec C.1 hd) ok' cv hR hnn hrest hcc hss sp) C S hl kk
theorem x_toRun {p : Program} {l : Launch} {e : Env} {R : Room} {s : State} {m : MethodId} {args : Array Value} {below : List Frame} {meth : Method} {c : Code} {H : Heap} {locs : List Loc} {cells slots mc ms : Nat} {g : JFrame} {rest : List Value} {Qa : State → Outcome → State → Prop} {XC : String → State → State → Prop} {free : Addr → Prop} (h : va_Run p l e R s m args below meth c H locs cells slots mc ms g rest Qa free) : vx_Run p l e R s m args below meth c H locs cells slots mc ms g rest Qa XC free :=
  fun T hT X => Or.inl (h T hT X)
theorem e_callI (k nx : Nat) {M' : x_MT} {idx n b mc' ms' : Nat} {av rest : List Value} {X' : xS} (sp : x_Sp M' mc' ms' (.ref b :: av) X (.inl none) X') (ok' : x_MOk M') (cv : x_CI (mOwn M) M' idx n) (hR : x_Rm M M') (hd : (mIns M)[k]? = some (pc, .invokespecial idx, 3)) (hn : pc + 3 = nx)
    (hst : st = av.reverse ++ .ref b :: rest) (hnn : av.length = n) (hrest : (rest.map fun v => v.category).sum ≤ 8) (hcc : kc + mc' ≤ mc) (hss : ks + ms' ≤ ms)
    (kk : x_E M mc ms nx ls rest X' (kc + mc') (ks + ms') o Y) : x_E M mc ms pc ls st X kc ks o Y := by
  subst hn
  subst hst
  intro p l e s m args below meth c H locs arr G base C w S hl
  have hts := C.2.2.2.2.2.2.1
  obtain ⟨c1, c2, c3, c4, c5⟩ := cv
  have hcb := x_callB (mc := mc) (ms := ms) (mc' := mc') (ms' := ms') C ok' c1 c5 hR
  rw [c4] at hcb
  exact x_back (v := none) (x_toRun (va_runI (As := av.map (x_v base)) (b := base + b) (rest := rest.map (x_v base)) (x_fix C) (sp.met l G base C.2.2.2.2.2.2.2.2.2.2.2) ⟨hcb, c3, hts _ c2⟩ (x_pre (av := .ref b :: av) C w S) rfl (by rw [List.length_map]; exact hnn) hl.1 (by simp [x_v]) (lv_room (by rw [x_cats]; exact hrest)) (x_dec C.1 hd) ⟨hcc, hss⟩)) C S hl kk
theorem x_callN {p : Program} {l : Launch} {s : State} {m : MethodId} {args : Array Value} {meth : Method} {c : Code} {G : xG} {base : Nat} {M' : x_MT} {idx n mc' ms' : Nat} (C : x_Cx M p l s m args meth c G base) (ok' : x_MOk M') (hl : Cond.methodLinkNest (mOwn M) idx (mY M') "Shardmoor" ∈ x_nw) (hn : (parseMethodDescriptor (mY M').desc).map (fun d => d.parameters.length) = some n) (hR : x_Rm M M') :
    va_CN (x_rm M mc ms) s args (mOwn M) idx (mY M') "Shardmoor" (mCode M') (mL M') (mRet M') (x_ws M') (x_rm M' mc' ms') mc' ms' n := by
  have hts := C.2.2.2.2.2.2.1
  refine ⟨⟨rfl, rfl, hR.1, hR.2, pay_in hts (fun w hw => ?_), List.mem_cons_self⟩, hts _ ok'.2.1, hts _ ok'.2.2.2.2.1, ok'.2.2.2.2.2, fun sig h => ?_, va_Nw.use rfl (C.2.2.2.2.2.2.2.1.2.1 _ hl)⟩
  · rcases List.mem_cons.mp hw with rfl | h
    · exact ⟨ok'.2.1, (tb0_good _ ok'.2.1).2⟩
    · exact tb0_good w h
  · rw [h] at hn
    exact (Option.some.inj hn).symm
theorem e_callIN (k nx : Nat) {M' : x_MT} {idx n b mc' ms' : Nat} {av rest : List Value} {X' : xS} (sp : x_Sp M' mc' ms' (.ref b :: av) X (.inl none) X') (ok' : x_MOk M') (cv : x_CIN (mOwn M) M' idx n) (hR : x_Rm M M') (hd : (mIns M)[k]? = some (pc, .invokespecial idx, 3)) (hn : pc + 3 = nx)
    (hst : st = av.reverse ++ .ref b :: rest) (hnn : av.length = n) (hrest : (rest.map fun v => v.category).sum ≤ 8) (hcc : kc + mc' ≤ mc) (hss : ks + ms' ≤ ms)
    (kk : x_E M mc ms nx ls rest X' (kc + mc') (ks + ms') o Y) : x_E M mc ms pc ls st X kc ks o Y := by
  subst hn
  subst hst
  intro p l e s m args below meth c H locs arr G base C w S hl
  have hts := C.2.2.2.2.2.2.1
  obtain ⟨c1, c2, c3, c4, c5⟩ := cv
  have hcb := x_callN (mc := mc) (ms := ms) (mc' := mc') (ms' := ms') C ok' c1 c5 hR
  rw [c4] at hcb
  exact x_back (v := none) (x_toRun (va_runIN (As := av.map (x_v base)) (b := base + b) (rest := rest.map (x_v base)) (x_fix C) (sp.met l G base C.2.2.2.2.2.2.2.2.2.2.2) ⟨hcb, c3, hts _ c2⟩ (x_pre (av := .ref b :: av) C w S) rfl (by rw [List.length_map]; exact hnn) hl.1 (by simp [x_v]) (lv_room (by rw [x_cats]; exact hrest)) (x_dec C.1 hd) ⟨hcc, hss⟩)) C S hl kk
theorem e_callSN (k nx : Nat) {M' : x_MT} {idx n mc' ms' : Nat} {av rest : List Value} {v : Option Value} {X' : xS} (sp : x_Sp M' mc' ms' av X (.inl v) X') (ok' : x_MOk M') (cv : x_CSN (mOwn M) M' idx n) (hR : x_Rm M M') (hd : (mIns M)[k]? = some (pc, .invokestatic idx, 3)) (hn : pc + 3 = nx)
    (hst : st = av.reverse ++ rest) (hnn : av.length = n) (hrest : (rest.map fun v => v.category).sum ≤ 8) (hcc : kc + mc' ≤ mc) (hss : ks + ms' ≤ ms)
    (kk : x_E M mc ms nx ls (v.toList ++ rest) X' (kc + mc') (ks + ms') o Y) : x_E M mc ms pc ls st X kc ks o Y := by
  subst hn
  subst hst
  intro p l e s m args below meth c H locs arr G base C w S hl
  have hts := C.2.2.2.2.2.2.1
  obtain ⟨c1, c2, c5⟩ := cv
  exact x_back (x_toRun (va_runSN (As := av.map (x_v base)) (rest := rest.map (x_v base)) (x_fix C) (sp.met l G base C.2.2.2.2.2.2.2.2.2.2.2) ⟨x_callN C ok' c1 c5 hR, hts _ c2, trivial⟩ (x_pre C w S) rfl (by rw [List.length_map]; exact hnn) hl.1 (by simp) (lv_room (by rw [x_cats]; exact hrest)) (x_dec C.1 hd) ⟨hcc, hss⟩)) C S hl kk
/-! ===== cells ===== -/
theorem x_obj_at {base : Nat} {fs : List (Option (Option Nat))} {m : Int → Int} {j : Nat} {f : Option (Option Nat)} (h : fs[j]? = some f) : (x_obj base fs m)[j]? = some (x_fld base m j f) := by
  have hj := (List.getElem?_eq_some_iff.mp h).1
  simp [x_obj, hj, List.getD_eq_getElem?_getD, h]
  rw [(List.getElem?_eq_some_iff.mp h).2]
theorem e_get {k nx ci j a idx : Nat} {fs : List (Option (Option Nat))} {f : Option (Option Nat)} {ty : FieldType} {fin : Bool} {v : Value} (hk : x_CK ci) (hf : x_FL (mOwn M) idx ci j ty fin) (hd : (mIns M)[k]? = some (pc, .getfield idx, 3)) (hn : pc + 3 = nx) (ha : a < xN X) (hs : xF X a = .inr (.inr (ci, fs))) (hj : fs[j]? = some f) (hv : ∀ base, x_fld base (xM X a) j f = x_v base v)
    (kk : x_E M mc ms nx ls (v :: st) X kc ks o Y) : x_E M mc ms pc ls (.ref a :: st) X kc ks o Y := by
  subst hn
  intro p l e s m args below meth c H locs arr G base C w S hl
  obtain ⟨⟨R, T, N⟩, k1, k2, k3, k4, k5⟩ := hk
  obtain ⟨r', f1, f2, f3, -⟩ := hf
  cases k1.symm.trans f1
  have he : (x_wl base G X)[a]? = some (base + a, .inr (ci, x_obj base fs (xM X a))) := by rw [x_wl_at ha, hs]; rfl
  have f3' : Cond.fieldLink (mOwn M) idx (T j).1 (T j).2.1 (T j).2.2.1 ∈ tb0 := by rw [k5 j f2]; exact f3
  refine va_get (v := x_v base v) C.2.1 C.2.2.1 C.2.2.2.2.2.2.1 k2 C.2.2.2.2.2.1 C.2.2.2.2.2.2.2.1.1 w.1 a he f1 j f2 (C.2.2.2.2.2.2.1 _ f3') (fun _ h => h) (by rw [x_obj_at hj, hv base]) (x_dec C.1 hd) ?_
  exact kk p l e s m args below meth c H locs arr G base C w S hl
theorem e_getI (k nx : Nat) {ci j a idx : Nat} {fs : List (Option (Option Nat))} {ty : FieldType} {fin : Bool} (hk : x_CK ci) (hf : x_FL (mOwn M) idx ci j ty fin) (hd : (mIns M)[k]? = some (pc, .getfield idx, 3)) (hn : pc + 3 = nx) (ha : a < xN X) (hs : xF X a = .inr (.inr (ci, fs))) (hj : fs[j]? = some none)
    (kk : x_E M mc ms nx ls (.int (ii (xM X a j)) :: st) X kc ks o Y) : x_E M mc ms pc ls (.ref a :: st) X kc ks o Y := e_get hk hf hd hn ha hs hj (fun _ => rfl) kk
theorem e_getR (k nx : Nat) {ci j a idx : Nat} {fs : List (Option (Option Nat))} {ty : FieldType} {fin : Bool} {b : Nat} (hk : x_CK ci) (hf : x_FL (mOwn M) idx ci j ty fin) (hd : (mIns M)[k]? = some (pc, .getfield idx, 3)) (hn : pc + 3 = nx) (ha : a < xN X) (hs : xF X a = .inr (.inr (ci, fs))) (hj : fs[j]? = some (some (some b)))
    (kk : x_E M mc ms nx ls (.ref b :: st) X kc ks o Y) : x_E M mc ms pc ls (.ref a :: st) X kc ks o Y := e_get hk hf hd hn ha hs hj (fun _ => rfl) kk
theorem e_getIN (k nx : Nat) {ci j a idx : Nat} {fs : List (Option (Option Nat))} (hk : x_CK ci) (hf : x_FN (mOwn M) idx ci j) (hd : (mIns M)[k]? = some (pc, .getfield idx, 3)) (hn : pc + 3 = nx) (ha : a < xN X) (hs : xF X a = .inr (.inr (ci, fs))) (hj : fs[j]? = some none)
    (kk : x_E M mc ms nx ls (.int (ii (xM X a j)) :: st) X kc ks o Y) : x_E M mc ms pc ls (.ref a :: st) X kc ks o Y := by
  subst hn
  intro p l e s m args below meth c H locs arr G base C w S hl
  obtain ⟨⟨R, T, N⟩, k1, k2, k3, k4, k5⟩ := hk
  obtain ⟨r', f1, f2, f3⟩ := hf
  cases k1.symm.trans f1
  have he : (x_wl base G X)[a]? = some (base + a, .inr (ci, x_obj base fs (xM X a))) := by rw [x_wl_at ha, hs]; rfl
  have f3' : Cond.fieldLinkNest (mOwn M) idx (T j).1 (T j).2.1 (T j).2.2.1 "Shardmoor" ∈ x_nw := by rw [k5 j f2]; exact f3
  refine va_getN (v := .int (ii (xM X a j))) C.2.1 C.2.2.1 C.2.2.2.2.2.2.1 k2 C.2.2.2.2.2.1 C.2.2.2.2.2.2.2.1.1 w.1 a he f1 j f2 (va_Nw.use rfl (C.2.2.2.2.2.2.2.1.2.1 _ f3')) (fun _ h => h) (by rw [x_obj_at hj]; rfl) (x_dec C.1 hd) ?_
  exact kk p l e s m args below meth c H locs arr G base C w S hl
theorem x_obj_set {base : Nat} {fs : List (Option (Option Nat))} {m : Int → Int} {j : Nat} (hj : fs[j]? = some none) (v : Int) : (x_obj base fs m).set j (.int (ii v)) = x_obj base fs (fun i => if i = j then v else m i) := by
  apply List.ext_getElem?
  intro q
  have hl : j < fs.length := (List.getElem?_eq_some_iff.mp hj).1
  by_cases hq : q < fs.length
  · have h2 : (x_obj base fs (fun i => if i = j then v else m i))[q]? = some (x_fld base (fun i => if i = j then v else m i) q fs[q]) := x_obj_at (List.getElem?_eq_getElem hq)
    have h1 : (x_obj base fs m)[q]? = some (x_fld base m q fs[q]) := x_obj_at (List.getElem?_eq_getElem hq)
    rw [h2]
    by_cases hqj : q = j
    · subst hqj
      rw [List.getElem?_set_self (by simpa [x_obj] using hq)]
      have : fs[q] = none := (List.getElem?_eq_some_iff.mp hj).2
      rw [this]
      simp [x_fld]
    · rw [List.getElem?_set_ne (Ne.symm hqj), h1]
      cases fs[q] with
      | none => simp [x_fld]; rw [if_neg (by omega)]
      | some r => rfl
  · rw [List.getElem?_eq_none_iff.mpr (by simp [x_obj]; omega), List.getElem?_eq_none_iff.mpr (by simp [x_obj]; omega)]
theorem x_setM {base : Nat} {G : xG} {a : Nat} {j v : Int} {e : va_E} (ha : a < xN X) (he : e = x_cell base G (xF X a) (fun i => if i = j then v else xM X a i)) : (x_wl base G X).set a (base + a, e) = x_wl base G (xSet X (xu (xM X) a j v)) := by
  rw [x_wl_set (Y := xSet X (xu (xM X) a j v)) ha rfl (fun b hb => ?_), he]
  · have h9 : xM (xSet X (xu (xM X) a j v)) a = fun i => if i = j then v else xM X a i := by
      funext i
      show xu (xM X) a j v a i = _
      simp [xu]
    rw [h9]
  · show x_cell base G (xF X b) (xu (xM X) a j v b) = _
    congr 1
    funext i
    exact xu_ne _ (Or.inl hb)
theorem x_size {base : Nat} {G : xG} {σ : xSig} {H H1 : Heap} (w : x_W base G X H) (hP : va_P G.1 vwCl (x_wl base G (xSet X σ)) H1) (hz : H1.size = H.size) : x_W base G (xSet X σ) H1 :=
  ⟨hP, fun h => hz.trans (w.2 h)⟩
end XC2
end
section
/-! ===== writing, arrays, throwing ===== -/
def xfs (F : Nat → xShp) (a : Nat) (s : xShp) : Nat → xShp := fun b => if b = a then s else F b
def xcp (σ : xSig) (a : Nat) (sp dp n : Int) : xSig := fun b i => if b = a ∧ dp ≤ i ∧ i < dp + n then σ a (sp + (i - dp)) else σ b i
section XM2
variable {M : x_MT} {mc ms pc kc ks : Nat} {ls : List (Option Value)} {st : List Value} {X Y : xS} {o : xO}
theorem e_put (k nx : Nat) {ci j a idx : Nat} {fs : List (Option (Option Nat))} {ty : FieldType} {v : Value} {X2 : xS} (hk : x_CK ci) (hf : x_FL (mOwn M) idx ci j ty false) (hd : (mIns M)[k]? = some (pc, .putfield idx, 3)) (hn : pc + 3 = nx) (ha : a < xN X) (hs : xF X a = .inr (.inr (ci, fs))) (hj : j < fs.length)
    (hnar : ∀ base, narrow ty (x_v base v) = x_v base v) (hfit : ∀ base, fits ty (x_v base v) = true) (hX : ∀ base G, (x_wl base G X).set a (base + a, .inr (ci, (x_obj base fs (xM X a)).set j (x_v base v))) = x_wl base G X2) (hN : xN X2 = xN X) (hB : xB X2 = xB X)
    (kk : x_E M mc ms nx ls st X2 kc ks o Y) : x_E M mc ms pc ls (v :: .ref a :: st) X kc ks o Y := by
  subst hn
  intro p l e s m args below meth c H locs arr G base C w S hl
  obtain ⟨⟨R, T, N⟩, k1, k2, ⟨ty0, hty⟩, hnm, k5⟩ := hk
  obtain ⟨r', f1, f2, f3, hfin, hpt⟩ := hf
  cases k1.symm.trans f1
  have hts := C.2.2.2.2.2.2.1
  have hK := C.2.2.2.2.2.2.2.1.1
  have hap := va_apart (own := mOwn M) hts k2 ty0 hty hnm hK f1
  have he : (x_wl base G X)[a]? = some (base + a, .inr (ci, x_obj base fs (xM X a))) := by rw [x_wl_at ha, hs]; rfl
  obtain ⟨r, h1, cell, q1, q2, q3, q4⟩ := w.1 a _ he
  have hr : r = (R, T, N) := Option.some.inj (h1.symm.trans f1)
  subst hr
  obtain ⟨hS, hfc, kC, hkC, hkind⟩ := hK.1 ci _ f1
  obtain ⟨cf, kf, fi, f, hi, hsl⟩ := hS j f2
  have hlay := hts _ (k2 _ (u_in_lay f2))
  unfold u_lay at hlay
  rw [if_neg (by rw [hfin]; decide)] at hlay
  have hst := (u_facts hfc hkC (u_lays hts k2 f2) hi).1
  have h6 := u_store hfc hkC hkind hlay hi hpt (hnar base) (hfit base)
  have f3' : Cond.fieldLink (mOwn M) idx (T j).1 (T j).2.1 (T j).2.2.1 ∈ tb0 := by rw [k5 j f2]; exact f3
  refine W.putK C.2.1 C.2.2.1 (f := f) ⟨C.2.2.2.2.2.1, hts _ f3', ⟨_, _, _, hi⟩, hst⟩ (by rw [q2]; exact h6) q1 q3 (by rw [hsl]; exact k2_hasslot (q4 j f2)) rfl rfl (x_dec C.1 hd) fun H' e1 e2 e3 => ?_
  rw [hsl] at e1 ⊢
  have hP2 := va_P.set w.1 x_D he (e := .inr (ci, (x_obj base fs (xM X a)).set j (x_v base v))) ⟨_, f1, t_OB.to (V := updV (vp_V (x_obj base fs (xM X a))) j (x_v base v)) ⟨_, e1, q2, q3, t_set q4 hap f2 (x_v base v)⟩ (fun i _ => vp_updV_set (by simpa [x_obj] using hj) (x_v base v) i)⟩ e3
  rw [hX] at hP2
  exact kk p l e s m args below meth c H' _ arr G base C ⟨hP2, fun h => by rw [hN, e2]; exact w.2 (hB ▸ h)⟩ (S.put e2 e3 (Nat.le_add_right base a)) hl
theorem e_putF (k nx : Nat) {ci j a idx : Nat} {fs : List (Option (Option Nat))} {ty : FieldType} {v : Value} {X2 : xS} (hk : x_CK ci) (hf : x_FL (mOwn M) idx ci j ty true) (hd : (mIns M)[k]? = some (pc, .putfield idx, 3)) (hn : pc + 3 = nx) (hinit : (mY M).name = "<init>") (hcls : ∀ r : vw_C, vwCl[ci]? = some r → r.1 = mOwn M) (ha : a < xN X) (hs : xF X a = .inr (.inr (ci, fs))) (hj : j < fs.length)
    (hnar : ∀ base, narrow ty (x_v base v) = x_v base v) (hfit : ∀ base, fits ty (x_v base v) = true) (hX : ∀ base G, (x_wl base G X).set a (base + a, .inr (ci, (x_obj base fs (xM X a)).set j (x_v base v))) = x_wl base G X2) (hN : xN X2 = xN X) (hB : xB X2 = xB X)
    (kk : x_E M mc ms nx ls st X2 kc ks o Y) : x_E M mc ms pc ls (v :: .ref a :: st) X kc ks o Y := by
  subst hn
  intro p l e s m args below meth c H locs arr G base C w S hl
  obtain ⟨⟨R, T, N⟩, k1, k2, ⟨ty0, hty⟩, hnm, k5⟩ := hk
  obtain ⟨r', f1, f2, f3, hfin, hpt⟩ := hf
  cases k1.symm.trans f1
  have hts := C.2.2.2.2.2.2.1
  have hK := C.2.2.2.2.2.2.2.1.1
  have hown := C.2.2.2.2.2.1
  have hap := va_apart (own := mOwn M) hts k2 ty0 hty hnm hK f1
  have he : (x_wl base G X)[a]? = some (base + a, .inr (ci, x_obj base fs (xM X a))) := by rw [x_wl_at ha, hs]; rfl
  obtain ⟨r, h1, cell, q1, q2, q3, q4⟩ := w.1 a _ he
  have hr : r = (R, T, N) := Option.some.inj (h1.symm.trans f1)
  subst hr
  obtain ⟨hS, hfc, kC, hkC, hkind⟩ := hK.1 ci _ f1
  obtain ⟨cf, kf, fi, f, hi, hsl⟩ := hS j f2
  have hlay := hts _ (k2 _ (u_in_lay f2))
  unfold u_lay at hlay
  rw [if_pos hfin] at hlay
  have hst := (u_facts hfc hkC (u_lays hts k2 f2) hi).1
  have hdecl : (T j).1 = mOwn M := (k5 j f2).trans (hcls _ f1)
  have hcf : m.cls = cf := by
    obtain ⟨_, _, c', _, _, _, -, -, hf', -, -, -, hown2, -⟩ := Cond.laysFinal_spec hlay
    have e1 : c' = cf := by have := hi.symm.trans hf'; simp at this; exact this.1.symm
    rw [hdecl] at hown2
    rw [← e1]; exact Option.some.inj (hown.symm.trans hown2)
  have h6 := u_fits hfc hkC hkind (Or.inr hlay) hi hpt (hnar base) (hfit base)
  have f3' : Cond.fieldLink (mOwn M) idx (T j).1 (T j).2.1 (T j).2.2.1 ∈ tb0 := by rw [k5 j f2]; exact f3
  refine W.putFinK C.2.1 C.2.2.1 hown (hts _ f3') hi hst hcf (C.2.2.2.2.2.2.2.2.2.2.1.trans hinit) (by rw [q2]; exact h6) q1 q3 (by rw [hsl]; exact k2_hasslot (q4 j f2)) rfl rfl (x_dec C.1 hd) fun H' e1 e2 e3 => ?_
  rw [hsl] at e1 ⊢
  have hP2 := va_P.set w.1 x_D he (e := .inr (ci, (x_obj base fs (xM X a)).set j (x_v base v))) ⟨_, f1, t_OB.to (V := updV (vp_V (x_obj base fs (xM X a))) j (x_v base v)) ⟨_, e1, q2, q3, t_set q4 hap f2 (x_v base v)⟩ (fun i _ => vp_updV_set (by simpa [x_obj] using hj) (x_v base v) i)⟩ e3
  rw [hX] at hP2
  exact kk p l e s m args below meth c H' _ arr G base C ⟨hP2, fun h => by rw [hN, e2]; exact w.2 (hB ▸ h)⟩ (S.put e2 e3 (Nat.le_add_right base a)) hl
theorem e_putI (k nx : Nat) {ci j a idx : Nat} {fs : List (Option (Option Nat))} {v : Int} (hk : x_CK ci) (hf : x_FL (mOwn M) idx ci j .int false) (hd : (mIns M)[k]? = some (pc, .putfield idx, 3)) (hn : pc + 3 = nx) (ha : a < xN X) (hs : xF X a = .inr (.inr (ci, fs))) (hj : fs[j]? = some none)
    (kk : x_E M mc ms nx ls st (xSet X (xu (xM X) a j v)) kc ks o Y) : x_E M mc ms pc ls (.int (ii v) :: .ref a :: st) X kc ks o Y :=
  e_put k nx hk hf hd hn ha hs (List.getElem?_eq_some_iff.mp hj).1 (fun _ => rfl) (fun _ => rfl) (fun base G => x_setM ha (by rw [hs]; exact congrArg (fun z => Sum.inr (ci, z)) (x_obj_set hj v))) rfl rfl kk
theorem e_putZ (k nx : Nat) {ci j a idx : Nat} {fs : List (Option (Option Nat))} {v : Int} (hk : x_CK ci) (hf : x_FL (mOwn M) idx ci j .boolean false) (hd : (mIns M)[k]? = some (pc, .putfield idx, 3)) (hn : pc + 3 = nx) (hv : v = 0 ∨ v = 1) (ha : a < xN X) (hs : xF X a = .inr (.inr (ci, fs))) (hj : fs[j]? = some none)
    (kk : x_E M mc ms nx ls st (xSet X (xu (xM X) a j v)) kc ks o Y) : x_E M mc ms pc ls (.int (ii v) :: .ref a :: st) X kc ks o Y :=
  e_put k nx hk hf hd hn ha hs (List.getElem?_eq_some_iff.mp hj).1 (fun _ => by rcases hv with rfl | rfl <;> rfl) (fun _ => by rcases hv with rfl | rfl <;> rfl) (fun base G => x_setM ha (by rw [hs]; exact congrArg (fun z => Sum.inr (ci, z)) (x_obj_set hj v))) rfl rfl kk
/-! arrays -/
theorem x_ix {x : Int} (h0 : 0 ≤ x) (h : x < 2147483648) : (((ii x).toNatClampNeg : Nat) : Int) = x := by
  rw [ii_clamp h0 h]
  omega
theorem e_alen (k nx : Nat) {kd a n : Nat} (hd : (mIns M)[k]? = some (pc, .arraylength, 1)) (hn : pc + 1 = nx) (ha : a < xN X) (hs : xF X a = .inl (kd, n)) (hkd : kd < 3)
    (kk : x_E M mc ms nx ls (.int (ii n) :: st) X kc ks o Y) : x_E M mc ms pc ls (.ref a :: st) X kc ks o Y := by
  subst hn
  intro p l e s m args below meth c H locs arr G base C w S hl
  have he : (x_wl base G X)[a]? = some (base + a, .inl (G.2 kd, x_arr kd n (xM X a))) := by rw [x_wl_at ha, hs]; rfl
  have hx1 : (x_arr kd n (xM X a)).1 = n := by unfold x_arr; split <;> rfl
  have hK := C.2.2.2.2.2.2.2.1.1
  have ht : ∃ ty, (x_tys G)[kd]? = some (G.2 kd, ty) := by
    rcases (by omega : kd = 0 ∨ kd = 1 ∨ kd = 2) with rfl | rfl | rfl <;> exact ⟨_, rfl⟩
  obtain ⟨ty, ht⟩ := ht
  refine va_alen C.2.1 C.2.2.1 hK w.1 a kd he ht (by rw [hx1]) (x_dec C.1 hd) ?_
  exact kk p l e s m args below meth c H locs arr G base C w S hl
theorem e_alenR (k nx : Nat) {kd a : Nat} {rs : List (Option Nat)} (hd : (mIns M)[k]? = some (pc, .arraylength, 1)) (hn : pc + 1 = nx) (ha : a < xN X) (hs : xF X a = .inr (.inl (kd, rs))) (hkd : kd = 3 ∨ kd = 4)
    (kk : x_E M mc ms nx ls (.int (ii (rs.length : Nat)) :: st) X kc ks o Y) : x_E M mc ms pc ls (.ref a :: st) X kc ks o Y := by
  subst hn
  intro p l e s m args below meth c H locs arr G base C w S hl
  have he : (x_wl base G X)[a]? = some (base + a, .inl (G.2 kd, x_rarr base rs)) := by rw [x_wl_at ha, hs]; rfl
  have hK := C.2.2.2.2.2.2.2.1.1
  have ht : ∃ ty, (x_tys G)[kd]? = some (G.2 kd, ty) := by
    rcases hkd with rfl | rfl <;> exact ⟨_, rfl⟩
  obtain ⟨ty, ht⟩ := ht
  refine va_alen C.2.1 C.2.2.1 hK w.1 a kd he ht rfl (x_dec C.1 hd) ?_
  exact kk p l e s m args below meth c H locs arr G base C w S hl
theorem e_iaload (k nx : Nat) {a n : Nat} {x : Int} (hd : (mIns M)[k]? = some (pc, .iaload, 1)) (hn : pc + 1 = nx) (ha : a < xN X) (hs : xF X a = .inl (0, n)) (h0 : 0 ≤ x) (h1 : x < n) (h2 : n < 2147483648)
    (kk : x_E M mc ms nx ls (.int (ii (xM X a x)) :: st) X kc ks o Y) : x_E M mc ms pc ls (.int (ii x) :: .ref a :: st) X kc ks o Y := by
  subst hn
  intro p l e s m args below meth c H locs arr G base C w S hl
  have he : (x_wl base G X)[a]? = some (base + a, .inl (G.2 0, n, .inl fun j => ii (xM X a j))) := by rw [x_wl_at ha, hs]; rfl
  refine va_iald C.2.1 C.2.2.1 C.2.2.2.2.2.2.2.1.1 w.1 a 0 he rfl (ii_in h0 h1 h2) (x_dec C.1 hd) ?_
  have := kk p l e s m args below meth c H locs arr G base C w S hl
  rw [x_ix h0 (by omega)]
  exact this
theorem e_baload (k nx : Nat) {a n : Nat} {x : Int} (hd : (mIns M)[k]? = some (pc, .baload, 1)) (hn : pc + 1 = nx) (ha : a < xN X) (hs : xF X a = .inl (1, n)) (h0 : 0 ≤ x) (h1 : x < n) (h2 : n < 2147483648)
    (kk : x_E M mc ms nx ls (.int (ii (xM X a x)) :: st) X kc ks o Y) : x_E M mc ms pc ls (.int (ii x) :: .ref a :: st) X kc ks o Y := by
  subst hn
  intro p l e s m args below meth c H locs arr G base C w S hl
  have he : (x_wl base G X)[a]? = some (base + a, .inl (G.2 1, n, .inl fun j => ii (xM X a j))) := by rw [x_wl_at ha, hs]; rfl
  refine va_zald C.2.1 C.2.2.1 C.2.2.2.2.2.2.2.1.1 w.1 a 1 he rfl (ii_in h0 h1 h2) (x_dec C.1 hd) ?_
  have := kk p l e s m args below meth c H locs arr G base C w S hl
  rw [x_ix h0 (by omega)]
  exact this
theorem e_laload (k nx : Nat) {a n : Nat} {x : Int} (hd : (mIns M)[k]? = some (pc, .laload, 1)) (hn : pc + 1 = nx) (ha : a < xN X) (hs : xF X a = .inl (2, n)) (h0 : 0 ≤ x) (h1 : x < n) (h2 : n < 2147483648)
    (kk : x_E M mc ms nx ls (.long (ll (xM X a x)) :: st) X kc ks o Y) : x_E M mc ms pc ls (.int (ii x) :: .ref a :: st) X kc ks o Y := by
  subst hn
  intro p l e s m args below meth c H locs arr G base C w S hl
  have he : (x_wl base G X)[a]? = some (base + a, .inl (G.2 2, n, .inr (.inl fun j => ll (xM X a j)))) := by rw [x_wl_at ha, hs]; rfl
  refine va_lald C.2.1 C.2.2.1 C.2.2.2.2.2.2.2.1.1 w.1 a 2 he rfl (ii_in h0 h1 h2) (x_dec C.1 hd) ?_
  have := kk p l e s m args below meth c H locs arr G base C w S hl
  rw [x_ix h0 (by omega)]
  exact this
theorem e_aaload (k nx : Nat) {a b kd : Nat} {rs : List (Option Nat)} {x : Int} (hd : (mIns M)[k]? = some (pc, .aaload, 1)) (hn : pc + 1 = nx) (ha : a < xN X) (hs : xF X a = .inr (.inl (kd, rs))) (hkd : kd = 3 ∨ kd = 4) (h0 : 0 ≤ x) (hr : rs[x.toNat]? = some (some b)) (h2 : rs.length < 2147483648)
    (kk : x_E M mc ms nx ls (.ref b :: st) X kc ks o Y) : x_E M mc ms pc ls (.int (ii x) :: .ref a :: st) X kc ks o Y := by
  subst hn
  intro p l e s m args below meth c H locs arr G base C w S hl
  have hlt := (List.getElem?_eq_some_iff.mp hr).1
  have he : (x_wl base G X)[a]? = some (base + a, .inl (G.2 kd, rs.length, .inr (.inr (.inr (.inr fun j => (rs.getD j none).map (fun b => base + b)))))) := by rw [x_wl_at ha, hs]; rfl
  have ht : ∃ C, (x_tys G)[kd]? = some (G.2 kd, .object C) := by
    rcases hkd with rfl | rfl <;> exact ⟨_, rfl⟩
  obtain ⟨CC, ht⟩ := ht
  refine va_aldq C.2.1 C.2.2.1 C.2.2.2.2.2.2.2.1.1 w.1 a kd he ht (ii_in h0 (by omega) h2) (x_dec C.1 hd) ?_
  have := kk p l e s m args below meth c H locs arr G base C w S hl
  rw [ii_clamp h0 (by omega), List.getD_eq_getElem?_getD, hr]
  exact this
theorem x_updI (m : Int → Int) (j : Nat) (v : Int) : updV (fun i : Nat => Value.int (ii (m (i : Int)))) j (.int (ii v)) = fun i : Nat => Value.int (ii ((fun z : Int => if z = (j : Int) then v else m z) (i : Int))) := by
  funext i
  unfold updV
  by_cases h : i = j
  · subst h; simp
  · rw [if_neg h]
    show _ = Value.int (ii (if (i : Int) = (j : Int) then v else m i))
    rw [if_neg (by omega)]
theorem x_updL (m : Int → Int) (j : Nat) (v : Int) : updV (fun i : Nat => Value.long (ll (m (i : Int)))) j (.long (ll v)) = fun i : Nat => Value.long (ll ((fun z : Int => if z = (j : Int) then v else m z) (i : Int))) := by
  funext i
  unfold updV
  by_cases h : i = j
  · subst h; simp
  · rw [if_neg h]
    show _ = Value.long (ll (if (i : Int) = (j : Int) then v else m i))
    rw [if_neg (by omega)]
theorem e_iastore (k nx : Nat) {a n : Nat} {x v : Int} (hd : (mIns M)[k]? = some (pc, .iastore, 1)) (hn : pc + 1 = nx) (ha : a < xN X) (hs : xF X a = .inl (0, n)) (h0 : 0 ≤ x) (h1 : x < n) (h2 : n < 2147483648)
    (kk : x_E M mc ms nx ls st (xSet X (xu (xM X) a x v)) kc ks o Y) : x_E M mc ms pc ls (.int (ii v) :: .int (ii x) :: .ref a :: st) X kc ks o Y := by
  subst hn
  intro p l e s m args below meth c H locs arr G base C w S hl
  have hK := C.2.2.2.2.2.2.2.1.1
  have he : (x_wl base G X)[a]? = some (base + a, .inl (G.2 0, n, .inl fun j => ii (xM X a j))) := by rw [x_wl_at ha, hs]; rfl
  have hcell : H[base + a]? = some (vp_cell (G.2 0) (n, .inl fun j => ii (xM X a j))) := w.1 a _ he
  refine W.iast C.2.1 C.2.2.1 hcell ((hK.2 0 _ rfl).1 n (fun j => .int (ii (xM X a j)))) (fun q => by cases q) (by show ¬ ((ii x) < 0 ∨ (arrV _ _ _).slots.size ≤ _); rw [arrV_size]; exact ii_in h0 h1 h2) rfl rfl (x_dec C.1 hd) fun H1 e9 z oq => ?_
  have hat : va_at G.1 vwCl (base + a, x_cell base G (xF X a) (fun i => if i = x then v else xM X a i)) H1 := by
    rw [hs]
    show H1[base + a]? = some (vp_cell _ (n, .inl _))
    rw [e9, vp_cell_i, vp_cell_i, arrV_store, x_updI, x_ix h0 (by omega)]
  have hP2 := va_P.set w.1 x_D he hat oq
  rw [x_setM ha rfl] at hP2
  exact kk p l e s m args below meth c H1 _ arr G base C ⟨hP2, fun h => z.trans (w.2 h)⟩ (S.put z oq (Nat.le_add_right base a)) hl
theorem e_bastore (k nx : Nat) {a n : Nat} {x v : Int} (hd : (mIns M)[k]? = some (pc, .bastore, 1)) (hn : pc + 1 = nx) (hv : v = 0 ∨ v = 1) (ha : a < xN X) (hs : xF X a = .inl (1, n)) (h0 : 0 ≤ x) (h1 : x < n) (h2 : n < 2147483648)
    (kk : x_E M mc ms nx ls st (xSet X (xu (xM X) a x v)) kc ks o Y) : x_E M mc ms pc ls (.int (ii v) :: .int (ii x) :: .ref a :: st) X kc ks o Y := by
  subst hn
  intro p l e s m args below meth c H locs arr G base C w S hl
  have hK := C.2.2.2.2.2.2.2.1.1
  have he : (x_wl base G X)[a]? = some (base + a, .inl (G.2 1, n, .inl fun j => ii (xM X a j))) := by rw [x_wl_at ha, hs]; rfl
  have hcell : H[base + a]? = some (vp_cell (G.2 1) (n, .inl fun j => ii (xM X a j))) := w.1 a _ he
  have hnar : narrow .boolean (.int (ii v)) = .int (ii v) := by rcases hv with rfl | rfl <;> rfl
  refine W.zast C.2.1 C.2.2.1 hcell ((hK.2 1 _ rfl).1 n (fun j => .int (ii (xM X a j)))) (fun q => by cases q) (by show ¬ ((ii x) < 0 ∨ (arrV _ _ _).slots.size ≤ _); rw [arrV_size]; exact ii_in h0 h1 h2) rfl rfl (x_dec C.1 hd) fun H1 e9 z oq => ?_
  have hat : va_at G.1 vwCl (base + a, x_cell base G (xF X a) (fun i => if i = x then v else xM X a i)) H1 := by
    rw [hs]
    show H1[base + a]? = some (vp_cell _ (n, .inl _))
    rw [e9, hnar, vp_cell_i, vp_cell_i, arrV_store, x_updI, x_ix h0 (by omega)]
  have hP2 := va_P.set w.1 x_D he hat oq
  rw [x_setM ha rfl] at hP2
  exact kk p l e s m args below meth c H1 _ arr G base C ⟨hP2, fun h => z.trans (w.2 h)⟩ (S.put z oq (Nat.le_add_right base a)) hl
theorem e_lastore (k nx : Nat) {a n : Nat} {x v : Int} (hd : (mIns M)[k]? = some (pc, .lastore, 1)) (hn : pc + 1 = nx) (ha : a < xN X) (hs : xF X a = .inl (2, n)) (h0 : 0 ≤ x) (h1 : x < n) (h2 : n < 2147483648)
    (kk : x_E M mc ms nx ls st (xSet X (xu (xM X) a x v)) kc ks o Y) : x_E M mc ms pc ls (.long (ll v) :: .int (ii x) :: .ref a :: st) X kc ks o Y := by
  subst hn
  intro p l e s m args below meth c H locs arr G base C w S hl
  have hK := C.2.2.2.2.2.2.2.1.1
  have he : (x_wl base G X)[a]? = some (base + a, .inl (G.2 2, n, .inr (.inl fun j => ll (xM X a j)))) := by rw [x_wl_at ha, hs]; rfl
  have hcell : H[base + a]? = some (vp_cell (G.2 2) (n, .inr (.inl fun j => ll (xM X a j)))) := w.1 a _ he
  refine W.last C.2.1 C.2.2.1 hcell ((hK.2 2 _ rfl).1 n (fun j => .long (ll (xM X a j)))) (fun q => by cases q) (by show ¬ ((ii x) < 0 ∨ (arrV _ _ _).slots.size ≤ _); rw [arrV_size]; exact ii_in h0 h1 h2) rfl rfl (x_dec C.1 hd) fun H1 e9 z oq => ?_
  have hat : va_at G.1 vwCl (base + a, x_cell base G (xF X a) (fun i => if i = x then v else xM X a i)) H1 := by
    rw [hs]
    show H1[base + a]? = some (vp_cell _ (n, .inr (.inl _)))
    rw [e9, vp_cell_l, vp_cell_l, arrV_store, x_updL, x_ix h0 (by omega)]
  have hP2 := va_P.set w.1 x_D he hat oq
  rw [x_setM ha rfl] at hP2
  exact kk p l e s m args below meth c H1 _ arr G base C ⟨hP2, fun h => z.trans (w.2 h)⟩ (S.put z oq (Nat.le_add_right base a)) hl
/-- Math.max -/
theorem e_max (k nx : Nat) {idx : Nat} {x y : Int} (hd : (mIns M)[k]? = some (pc, .invokestatic idx, 3)) (hn : pc + 3 = nx) (hw : Cond.methodLink (mOwn M) idx Lib.Math.max.name ∈ tb0 ∧ Cond.static Lib.Math.max.name ∈ tb0 ∧ Cond.initialized "java/lang/Math" ∈ tb0 ∧ Cond.code Lib.Math.max.name Lib.Math.max.code 2 (some .int) ∈ tb0) (hfr : 1 ≤ mFr M) (hlo : 21 ≤ mLo M) (hrest : (st.map fun v => v.category).sum ≤ 8) (hc : kc ≤ mc) (hs : ks ≤ ms) (hrx : xr x) (hry : xr y)
    (kk : x_E M mc ms nx ls (.int (ii (if x < y then y else x)) :: st) X kc ks o Y) : x_E M mc ms pc ls (.int (ii y) :: .int (ii x) :: st) X kc ks o Y := by
  subst hn
  intro p l e s m args below meth c H locs arr G base C w S hl
  have hts := C.2.2.2.2.2.2.1
  refine va_mmax (x := ii x) (y := ii y) C.2.1 C.2.2.1 (C.2.2.2.2.1.trans hl.1.symm) C.2.2.2.2.2.1 (hts _ hw.1) (hts _ hw.2.1) (hts _ hw.2.2.1) (hts _ hw.2.2.2) hfr (by rw [x_cats]; show _ + 13 ≤ mLo M; omega) hc hs (x_dec C.1 hd) ?_
  have h9 : (if ii x < ii y then ii y else ii x) = ii (if x < y then y else x) := by
    by_cases h : x < y
    · rw [if_pos h, if_pos ((ii_lt hrx hry).mpr h)]
    · rw [if_neg h, if_neg (fun q => h ((ii_lt hrx hry).mp q))]
  rw [h9]
  exact kk p l e s m args below meth c H locs arr G base C w S hl
/-- System.arraycopy within one array of ints -/
theorem e_acopy (k nx : Nat) {idx a n : Nat} {sp dp m9 : Int} (hd : (mIns M)[k]? = some (pc, .invokestatic idx, 3)) (hn : pc + 3 = nx) (hw : Cond.methodLink (mOwn M) idx arraycopyName ∈ tb0 ∧ Cond.native arraycopyName ∈ tb0 ∧ Cond.static arraycopyName ∈ tb0 ∧ Cond.initialized "java/lang/System" ∈ tb0) (hfr : 1 ≤ mFr M) (hlo : 26 ≤ mLo M) (hrest : (st.map fun v => v.category).sum ≤ 8)
    (hB : xB X = false) (ha : a < xN X) (hs : xF X a = .inl (0, n)) (h1 : 0 ≤ sp) (h2 : 0 ≤ dp) (h3 : 0 ≤ m9) (h4 : sp + m9 ≤ n) (h5 : dp + m9 ≤ n) (h6 : n < 2147483648)
    (kk : x_E M mc ms nx ls st (xSet X (xcp (xM X) a sp dp m9)) kc ks o Y) : x_E M mc ms pc ls (.int (ii m9) :: .int (ii dp) :: .ref a :: .int (ii sp) :: .ref a :: st) X kc ks o Y := by
  subst hn
  intro p l e s m args below meth c H locs arr G base C w S hl
  have hts := C.2.2.2.2.2.2.1
  have he : (x_wl base G X)[a]? = some (base + a, .inl (G.2 0, n, .inl fun j => ii (xM X a j))) := by rw [x_wl_at ha, hs]; rfl
  have ng : ∀ z : Int, 0 ≤ z → z < 2147483648 → ¬ ii z < 0 := fun z z0 z1 q => by
    have := (ii_lt ⟨by omega, z1⟩ xr_0).mp q
    omega
  refine va_copyi C.2.1 C.2.2.1 (C.2.2.2.2.1.trans hl.1.symm) C.2.2.2.2.2.1 (hts _ hw.1) (hts _ hw.2.1) (hts _ hw.2.2.1) (hts _ hw.2.2.2) C.2.2.2.2.2.2.2.1.1 w.1 x_D S a a 0 0 he he rfl rfl rfl (sp := ii sp) (dp := ii dp) (n := ii m9) (ng _ h1 (by omega)) (ng _ h2 (by omega)) (ng _ h3 (by omega)) (by rw [ii_clamp h1 (by omega), ii_clamp h3 (by omega)]; omega) (by rw [ii_clamp h2 (by omega), ii_clamp h3 (by omega)]; omega) (fun _ _ => rfl) hfr (by rw [x_cats]; show _ + (7 + 11) ≤ mLo M; omega) (x_dec C.1 hd) fun H1 locs1 hP hD hS => ?_
  refine kk p l e s m args below meth c H1 locs1 arr G base C ⟨?_, fun h => by rw [hB] at h; cases h⟩ hS hl
  have hset : (x_wl base G X).set a (base + a, .inl (G.2 0, n, .inl (va_cpy (fun j : Nat => ii (xM X a j)) (fun j : Nat => ii (xM X a j)) (ii sp).toNatClampNeg (ii dp).toNatClampNeg (ii m9).toNatClampNeg))) = x_wl base G (xSet X (xcp (xM X) a sp dp m9)) := by
    rw [x_wl_set (Y := xSet X (xcp (xM X) a sp dp m9)) ha rfl (fun b hb => ?_)]
    · have e9 : x_cell base G (xF (xSet X (xcp (xM X) a sp dp m9)) a) (xM (xSet X (xcp (xM X) a sp dp m9)) a) = .inl (G.2 0, n, .inl fun j => ii (xcp (xM X) a sp dp m9 a j)) := by
        show x_cell base G (xF X a) _ = _
        rw [hs]; rfl
      rw [e9]
      congr 6
      funext j
      unfold va_cpy xcp
      rw [ii_clamp h1 (by omega), ii_clamp h2 (by omega), ii_clamp h3 (by omega)]
      by_cases hj : dp.toNat ≤ j ∧ j < dp.toNat + m9.toNat
      · rw [if_pos hj, if_pos ⟨rfl, by omega, by omega⟩]
        have h9 : ((sp.toNat + (j - dp.toNat) : Nat) : Int) = sp + ((j : Int) - dp) := by omega
        show ii (xM X a ((sp.toNat + (j - dp.toNat) : Nat) : Int)) = _
        rw [h9]
      · rw [if_neg hj, if_neg (fun q => hj ⟨by omega, by omega⟩)]
    · show x_cell base G (xF X b) (xcp (xM X) a sp dp m9 b) = _
      congr 1
      funext i
      unfold xcp
      rw [if_neg (fun q => hb q.1)]
  rw [← hset]
  exact hP
/-- throw new E("text") -/
theorem e_throw (k : Nat) {ik is ic : Nat} {E text : String} (hth : x_TH (mOwn M) ik ic E) (d0 : (mIns M)[k]? = some (pc, .new ik, 3)) (d1 : (mIns M)[k + 1]? = some (pc + 3, .dup, 1)) (d2 : (mIns M)[k + 2]? = some (pc + 4, .ldc is, 2)) (d3 : (mIns M)[k + 3]? = some (pc + 6, .invokespecial ic, 3)) (d4 : (mIns M)[k + 4]? = some (pc + 9, .athrow, 1))
    (hstr : (mOwn M, is, text) ∈ x_strs) (hfr : 6 ≤ mFr M) (hlo : 90 ≤ mLo M) (hrest : (st.map fun v => v.category).sum ≤ 8) (hc : kc + 1 ≤ mc) (hs : ks + 6 ≤ ms) : x_E M mc ms pc ls st X kc ks (.inr E) (xN X, xF X, xM X, false) := by
  intro p l e s m args below meth c H locs arr G base C w S hl
  have hts := C.2.2.2.2.2.2.1
  obtain ⟨t1, t2, t3, t4, t5, t6⟩ := hth
  obtain ⟨-, n2, n3, n4, n5, -⟩ := C.2.2.2.2.2.2.2.1
  obtain ⟨sa, hsa⟩ := n3 _ hstr
  refine vx_throwS C.2.1 C.2.2.1 C.2.2.2.2.2.2.2.2.2.2.2 (names := x_nms) (A := x_A base) (rest := st.map (x_v base)) C.2.2.2.2.2.1 t1 t2 (hts _ t3) (hts _ t4) hsa (fun w hw => ?_) t6 n4 n5 S (hl.1.trans C.2.2.2.2.1.symm) (x_dec C.1 d0) (x_dec C.1 d1) (x_dec C.1 d2) (x_dec C.1 d3) (x_dec C.1 d4) (fun x hx => (C.2.2.2.2.2.2.2.2.1 x hx).elim) (by show 2 + 3 < mFr M; omega) (by rw [x_cats]; show _ + (13 * 3 + 43) ≤ mLo M; omega) (by show kc + 1 ≤ mc; omega) (by show ks + 6 ≤ ms; omega) C.2.2.2.2.2.2.2.2.2.1 (fun t hA hz ho => ⟨rfl, ⟨?_, fun h => by cases h⟩, ?_⟩) S.2.2 hc hs
  · rcases t5 w hw with h | h
    · exact hts _ h
    · have hon : w.onTables = true := by
        have hg := (List.mem_filter.mp h).2
        cases w <;> first | rfl | exact absurd (show false = true from hg) Bool.false_ne_true
      exact va_Nw.use hon (n2 _ h)
  · exact w.1.kept fun q x hq => ho _ ((w.1 q x hq).lt)
  · refine ⟨Nat.le_trans S.1 hz, fun q h1 h2 => ?_⟩
    rw [ho q (Nat.lt_of_lt_of_le h1 S.1)]
    exact S.2.1 q h1 h2
theorem e_throwW (k : Nat) {ik is ic : Nat} {E text : String} (hth : x_TH (mOwn M) ik ic E) (d0 : (mIns M)[k]? = some (pc, .new ik, 3)) (d1 : (mIns M)[k + 1]? = some (pc + 3, .dup, 1)) (d2 : (mIns M)[k + 2]? = some (pc + 4, .ldc_w is, 3)) (d3 : (mIns M)[k + 3]? = some (pc + 7, .invokespecial ic, 3)) (d4 : (mIns M)[k + 4]? = some (pc + 10, .athrow, 1))
    (hstr : (mOwn M, is, text) ∈ x_strs) (hfr : 6 ≤ mFr M) (hlo : 90 ≤ mLo M) (hrest : (st.map fun v => v.category).sum ≤ 8) (hc : kc + 1 ≤ mc) (hs : ks + 6 ≤ ms) : x_E M mc ms pc ls st X kc ks (.inr E) (xN X, xF X, xM X, false) := by
  intro p l e s m args below meth c H locs arr G base C w S hl
  have hts := C.2.2.2.2.2.2.1
  obtain ⟨t1, t2, t3, t4, t5, t6⟩ := hth
  obtain ⟨-, n2, n3, n4, n5, -⟩ := C.2.2.2.2.2.2.2.1
  obtain ⟨sa, hsa⟩ := n3 _ hstr
  refine vx_throwSW C.2.1 C.2.2.1 C.2.2.2.2.2.2.2.2.2.2.2 (names := x_nms) (A := x_A base) (rest := st.map (x_v base)) C.2.2.2.2.2.1 t1 t2 (hts _ t3) (hts _ t4) hsa (fun w hw => ?_) t6 n4 n5 S (hl.1.trans C.2.2.2.2.1.symm) (x_dec C.1 d0) (x_dec C.1 d1) (x_dec C.1 d2) (x_dec C.1 d3) (x_dec C.1 d4) (fun x hx => (C.2.2.2.2.2.2.2.2.1 x hx).elim) (by show 2 + 3 < mFr M; omega) (by rw [x_cats]; show _ + (13 * 3 + 43) ≤ mLo M; omega) (by show kc + 1 ≤ mc; omega) (by show ks + 6 ≤ ms; omega) C.2.2.2.2.2.2.2.2.2.1 (fun t hA hz ho => ⟨rfl, ⟨?_, fun h => by cases h⟩, ?_⟩) S.2.2 hc hs
  · rcases t5 w hw with h | h
    · exact hts _ h
    · have hon : w.onTables = true := by
        have hg := (List.mem_filter.mp h).2
        cases w <;> first | rfl | exact absurd (show false = true from hg) Bool.false_ne_true
      exact va_Nw.use hon (n2 _ h)
  · exact w.1.kept fun q x hq => ho _ ((w.1 q x hq).lt)
  · refine ⟨Nat.le_trans S.1 hz, fun q h1 h2 => ?_⟩
    rw [ho q (Nat.lt_of_lt_of_le h1 S.1)]
    exact S.2.1 q h1 h2
end XM2
end
section
/-! ===== the cells of the law: the class 0 to 280, the model 281 to 312, the law's own row 313 ===== -/
def SHL : List xShp := [.inr (.inr (11, [some (some 1), some (some 25), some (some 231), some (some 239), some (some 243), some (some 248), some (some 256), some (some 273), none, none])), .inr (.inr (5, [some (some 2), some (some 3), none])), .inr (.inl (3, [some 5, some 7, some 9, some 11, some 13, some 15, some 17, some 19, some 21, some 23])), .inr (.inr (10, [some (some 4), none])), .inl (0, 0), .inr (.inr (10, [some (some 6), none])), .inl (0, 72), .inr (.inr (10, [some (some 8), none])), .inl (0, 72), .inr (.inr (10, [some (some 10), none])), .inl (0, 72), .inr (.inr (10, [some (some 12), none])), .inl (0, 72), .inr (.inr (10, [some (some 14), none])), .inl (0, 72), .inr (.inr (10, [some (some 16), none])), .inl (0, 72), .inr (.inr (10, [some (some 18), none])), .inl (0, 72), .inr (.inr (10, [some (some 20), none])), .inl (0, 72), .inr (.inr (10, [some (some 22), none])), .inl (0, 72), .inr (.inr (10, [some (some 24), none])), .inl (0, 72), .inr (.inr (8, [some (some 26), some (some 27), some (some 28), some (some 29), none])), .inr (.inl (3, [some 31, some 33, some 35, some 37, some 39, some 41, some 43, some 45, some 47, some 49, some 51, some 53, some 55, some 57, some 59, some 61, some 63, some 65, some 67, some 69, some 71, some 73, some 75, some 77, some 79, some 81, some 83, some 85, some 87, some 89, some 91, some 93, some 95, some 97, some 99, some 101, some 103, some 105, some 107, some 109, some 111, some 113, some 115, some 117, some 119, some 121, some 123, some 125, some 127, some 129, some 131, some 133, some 135, some 137, some 139, some 141, some 143, some 145, some 147, some 149, some 151, some 153, some 155, some 157, some 159, some 161, some 163, some 165, some 167, some 169, some 171, some 173, some 175, some 177, some 179, some 181, some 183, some 185, some 187, some 189, some 191, some 193, some 195, some 197, some 199, some 201, some 203, some 205, some 207, some 209, some 211, some 213, some 215, some 217, some 219, some 221, some 223, some 225, some 227, some 229])), .inl (1, 100), .inl (0, 8), .inr (.inr (10, [some (some 30), none])), .inl (0, 0), .inr (.inr (10, [some (some 32), none])), .inl (0, 72), .inr (.inr (10, [some (some 34), none])), .inl (0, 72), .inr (.inr (10, [some (some 36), none])), .inl (0, 72), .inr (.inr (10, [some (some 38), none])), .inl (0, 72), .inr (.inr (10, [some (some 40), none])), .inl (0, 72), .inr (.inr (10, [some (some 42), none])), .inl (0, 72), .inr (.inr (10, [some (some 44), none])), .inl (0, 72), .inr (.inr (10, [some (some 46), none])), .inl (0, 72), .inr (.inr (10, [some (some 48), none])), .inl (0, 72), .inr (.inr (10, [some (some 50), none])), .inl (0, 72), .inr (.inr (10, [some (some 52), none])), .inl (0, 72), .inr (.inr (10, [some (some 54), none])), .inl (0, 72), .inr (.inr (10, [some (some 56), none])), .inl (0, 72), .inr (.inr (10, [some (some 58), none])), .inl (0, 72), .inr (.inr (10, [some (some 60), none])), .inl (0, 72), .inr (.inr (10, [some (some 62), none])), .inl (0, 72), .inr (.inr (10, [some (some 64), none])), .inl (0, 72), .inr (.inr (10, [some (some 66), none])), .inl (0, 72), .inr (.inr (10, [some (some 68), none])), .inl (0, 72), .inr (.inr (10, [some (some 70), none])), .inl (0, 72), .inr (.inr (10, [some (some 72), none])), .inl (0, 72), .inr (.inr (10, [some (some 74), none])), .inl (0, 72), .inr (.inr (10, [some (some 76), none])), .inl (0, 72), .inr (.inr (10, [some (some 78), none])), .inl (0, 72), .inr (.inr (10, [some (some 80), none])), .inl (0, 72), .inr (.inr (10, [some (some 82), none])), .inl (0, 72), .inr (.inr (10, [some (some 84), none])), .inl (0, 72), .inr (.inr (10, [some (some 86), none])), .inl (0, 72), .inr (.inr (10, [some (some 88), none])), .inl (0, 72), .inr (.inr (10, [some (some 90), none])), .inl (0, 72), .inr (.inr (10, [some (some 92), none])), .inl (0, 72), .inr (.inr (10, [some (some 94), none])), .inl (0, 72), .inr (.inr (10, [some (some 96), none])), .inl (0, 72), .inr (.inr (10, [some (some 98), none])), .inl (0, 72), .inr (.inr (10, [some (some 100), none])), .inl (0, 72), .inr (.inr (10, [some (some 102), none])), .inl (0, 72), .inr (.inr (10, [some (some 104), none])), .inl (0, 72), .inr (.inr (10, [some (some 106), none])), .inl (0, 72), .inr (.inr (10, [some (some 108), none])), .inl (0, 72), .inr (.inr (10, [some (some 110), none])), .inl (0, 72), .inr (.inr (10, [some (some 112), none])), .inl (0, 72), .inr (.inr (10, [some (some 114), none])), .inl (0, 72), .inr (.inr (10, [some (some 116), none])), .inl (0, 72), .inr (.inr (10, [some (some 118), none])), .inl (0, 72), .inr (.inr (10, [some (some 120), none])), .inl (0, 72), .inr (.inr (10, [some (some 122), none])), .inl (0, 72), .inr (.inr (10, [some (some 124), none])), .inl (0, 72), .inr (.inr (10, [some (some 126), none])), .inl (0, 72), .inr (.inr (10, [some (some 128), none])), .inl (0, 72), .inr (.inr (10, [some (some 130), none])), .inl (0, 72), .inr (.inr (10, [some (some 132), none])), .inl (0, 72), .inr (.inr (10, [some (some 134), none])), .inl (0, 72), .inr (.inr (10, [some (some 136), none])), .inl (0, 72), .inr (.inr (10, [some (some 138), none])), .inl (0, 72), .inr (.inr (10, [some (some 140), none])), .inl (0, 72), .inr (.inr (10, [some (some 142), none])), .inl (0, 72), .inr (.inr (10, [some (some 144), none])), .inl (0, 72), .inr (.inr (10, [some (some 146), none])), .inl (0, 72), .inr (.inr (10, [some (some 148), none])), .inl (0, 72), .inr (.inr (10, [some (some 150), none])), .inl (0, 72), .inr (.inr (10, [some (some 152), none])), .inl (0, 72), .inr (.inr (10, [some (some 154), none])), .inl (0, 72), .inr (.inr (10, [some (some 156), none])), .inl (0, 72), .inr (.inr (10, [some (some 158), none])), .inl (0, 72), .inr (.inr (10, [some (some 160), none])), .inl (0, 72), .inr (.inr (10, [some (some 162), none])), .inl (0, 72), .inr (.inr (10, [some (some 164), none])), .inl (0, 72), .inr (.inr (10, [some (some 166), none])), .inl (0, 72), .inr (.inr (10, [some (some 168), none])), .inl (0, 72), .inr (.inr (10, [some (some 170), none])), .inl (0, 72), .inr (.inr (10, [some (some 172), none])), .inl (0, 72), .inr (.inr (10, [some (some 174), none])), .inl (0, 72), .inr (.inr (10, [some (some 176), none])), .inl (0, 72), .inr (.inr (10, [some (some 178), none])), .inl (0, 72), .inr (.inr (10, [some (some 180), none])), .inl (0, 72), .inr (.inr (10, [some (some 182), none])), .inl (0, 72), .inr (.inr (10, [some (some 184), none])), .inl (0, 72), .inr (.inr (10, [some (some 186), none])), .inl (0, 72), .inr (.inr (10, [some (some 188), none])), .inl (0, 72), .inr (.inr (10, [some (some 190), none])), .inl (0, 72), .inr (.inr (10, [some (some 192), none])), .inl (0, 72), .inr (.inr (10, [some (some 194), none])), .inl (0, 72), .inr (.inr (10, [some (some 196), none])), .inl (0, 72), .inr (.inr (10, [some (some 198), none])), .inl (0, 72), .inr (.inr (10, [some (some 200), none])), .inl (0, 72), .inr (.inr (10, [some (some 202), none])), .inl (0, 72), .inr (.inr (10, [some (some 204), none])), .inl (0, 72), .inr (.inr (10, [some (some 206), none])), .inl (0, 72), .inr (.inr (10, [some (some 208), none])), .inl (0, 72), .inr (.inr (10, [some (some 210), none])), .inl (0, 72), .inr (.inr (10, [some (some 212), none])), .inl (0, 72), .inr (.inr (10, [some (some 214), none])), .inl (0, 72), .inr (.inr (10, [some (some 216), none])), .inl (0, 72), .inr (.inr (10, [some (some 218), none])), .inl (0, 72), .inr (.inr (10, [some (some 220), none])), .inl (0, 72), .inr (.inr (10, [some (some 222), none])), .inl (0, 72), .inr (.inr (10, [some (some 224), none])), .inl (0, 72), .inr (.inr (10, [some (some 226), none])), .inl (0, 72), .inr (.inr (10, [some (some 228), none])), .inl (0, 72), .inr (.inr (10, [some (some 230), none])), .inl (0, 72), .inr (.inr (0, [some (some 232), some (some 233), some (some 234), some (some 235), some (some 236), some (some 237), some (some 238), none, none, none, none, none, none])), .inl (0, 12), .inl (0, 12), .inl (0, 3), .inl (1, 100), .inl (0, 2), .inl (0, 2), .inl (0, 100), .inr (.inr (9, [some (some 240), some (some 241), some (some 242), none])), .inl (0, 1024), .inl (0, 1024), .inl (0, 1024), .inr (.inr (1, [some (some 244), some (some 246)])), .inr (.inr (10, [some (some 245), none])), .inl (0, 152), .inr (.inr (10, [some (some 247), none])), .inl (0, 72), .inr (.inr (4, [some (some 249), some (some 250), some (some 251), some (some 252), some (some 253), some (some 254), none])), .inl (0, 3), .inl (1, 3), .inl (0, 512), .inl (0, 512), .inl (0, 512), .inr (.inr (6, [some (some 255), none])), .inl (0, 24), .inr (.inr (7, [some (some 257), some (some 258), some (some 261), some (some 263), none, none, none, none, none, none])), .inr (.inl (4, [some 264, some 267, some 270])), .inr (.inr (2, [some (some 259), none, none])), .inr (.inr (10, [some (some 260), none])), .inl (0, 72), .inr (.inr (6, [some (some 262), none])), .inl (0, 24), .inl (0, 60), .inr (.inr (2, [some (some 265), none, none])), .inr (.inr (10, [some (some 266), none])), .inl (0, 72), .inr (.inr (2, [some (some 268), none, none])), .inr (.inr (10, [some (some 269), none])), .inl (0, 72), .inr (.inr (2, [some (some 271), none, none])), .inr (.inr (10, [some (some 272), none])), .inl (0, 72), .inr (.inr (3, [some (some 274), some (some 275), some (some 276), some (some 277), some (some 278), some (some 279), none])), .inl (2, 1440), .inl (0, 1440), .inl (2, 1440), .inl (0, 1440), .inl (0, 1440), .inr (.inr (6, [some (some 280), none])), .inl (0, 24), .inr (.inr (12, [some (some 282), some (some 283), none, none, some (some 284), none, some (some 285), none, some (some 286), some (some 287), some (some 288), some (some 289), some (some 290), some (some 291), none, some (some 292), some (some 293), some (some 294), none, some (some 295), some (some 296), none, some (some 297), some (some 298), none, none, none, some (some 299), some (some 300), none, none, none, some (some 301), some (some 302), some (some 303), some (some 304), some (some 305), none, none, none, some (some 306), none, some (some 307), some (some 308), some (some 309), some (some 310), none, none, some (some 311), some (some 312)])), .inl (0, 11300), .inl (1, 100), .inl (0, 400), .inl (0, 400), .inl (0, 8), .inl (0, 3), .inl (1, 3), .inl (1, 3), .inl (0, 3), .inl (0, 3), .inl (2, 3000), .inl (0, 3000), .inl (0, 3000), .inl (0, 4), .inl (0, 60), .inl (0, 12), .inl (0, 12), .inl (1, 100), .inl (0, 3), .inl (0, 2), .inl (0, 2), .inl (0, 20000), .inl (0, 20000), .inl (0, 20000), .inl (0, 200), .inl (0, 3000), .inl (0, 3000), .inl (2, 3000), .inl (2, 3000), .inl (0, 1), .inl (0, 100), .inl (2, 1)]
def SH : Nat → xShp := fun a => SHL.getD a (.inl (0, 0))
abbrev N0 : Nat := 314
abbrev St (σ : xSig) : xS := (N0, SH, σ, false)
def bi (b : Bool) : Int := bif b then 1 else 0
theorem bi_01 (b : Bool) : bi b = 0 ∨ bi b = 1 := by cases b <;> simp [bi]
abbrev iv (x : Int) : xO := .inl (some (.int (ii x)))
abbrev zv (b : Bool) : xO := .inl (some (.int (ii (bi b))))
abbrev rv (a : Nat) : xO := .inl (some (.ref a))
abbrev vv : xO := .inl none
/-- a contract that reads -/
abbrev Rd (M : x_MT) (av : List Value) (σ : xSig) (o : xO) : Prop := x_Sp M 0 0 av (St σ) o (St σ)
section XB
variable {M : x_MT} {mc ms pc kc ks : Nat} {ls : List (Option Value)} {st : List Value} {X Y : xS} {o : xO}
theorem e_ifb_eq (k tg nx : Nat) {b : Bool} {off : Int} (hd : (mIns M)[k]? = some (pc, .ifCond .eq off, 3)) (ht : (pc : Int) + off = (tg : Int)) (hn : pc + 3 = nx) (kt : b = false → x_E M mc ms tg ls st X kc ks o Y) (kf : b = true → x_E M mc ms nx ls st X kc ks o Y) : x_E M mc ms pc ls (.int (ii (bi b)) :: st) X kc ks o Y := by
  refine e_if_eq k tg nx hd ht hn (by rcases bi_01 b with h | h <;> rw [h] <;> unfold xr <;> omega) (fun h => kt ?_) (fun h => kf ?_)
  · cases b
    · rfl
    · exact absurd h (by decide)
  · cases b
    · exact absurd rfl h
    · rfl
theorem e_ifb_ne (k tg nx : Nat) {b : Bool} {off : Int} (hd : (mIns M)[k]? = some (pc, .ifCond .ne off, 3)) (ht : (pc : Int) + off = (tg : Int)) (hn : pc + 3 = nx) (kt : b = true → x_E M mc ms tg ls st X kc ks o Y) (kf : b = false → x_E M mc ms nx ls st X kc ks o Y) : x_E M mc ms pc ls (.int (ii (bi b)) :: st) X kc ks o Y := by
  refine e_if_ne k tg nx hd ht hn (by rcases bi_01 b with h | h <;> rw [h] <;> unfold xr <;> omega) (fun h => kt ?_) (fun h => kf ?_)
  · cases b
    · exact absurd rfl h
    · rfl
  · cases b
    · rfl
    · exact absurd h (by decide)
end XB
/-- a is an object of Value, its row of signs behind it -/
def isVal (a cap : Nat) : Prop := a < N0 ∧ a + 1 < N0 ∧ SH a = .inr (.inr (10, [some (some (a + 1)), none])) ∧ SH (a + 1) = .inl (0, cap)
def shO : xShp → Option (Nat × List (Option (Option Nat)))
  | .inr (.inr q) => some q
  | _ => none
def shA : xShp → Option (Nat × Nat)
  | .inl q => some q
  | _ => none
theorem shO_of {s : xShp} {q : Nat × List (Option (Option Nat))} (h : shO s = some q) : s = .inr (.inr q) := by
  cases s with
  | inl x => cases h
  | inr x => cases x with
    | inl y => cases h
    | inr y => exact congrArg (fun z => Sum.inr (Sum.inr z)) (Option.some.inj h)
theorem shA_of {s : xShp} {q : Nat × Nat} (h : shA s = some q) : s = .inl q := by
  cases s with
  | inl x => exact congrArg Sum.inl (Option.some.inj h)
  | inr x => cases h
theorem isVal_of {a cap : Nat} (h : a < 314 ∧ a + 1 < 314 ∧ shO (SH a) = some (10, [some (some (a + 1)), none]) ∧ shA (SH (a + 1)) = some (0, cap)) : isVal a cap := ⟨h.1, h.2.1, shO_of h.2.2.1, shA_of h.2.2.2⟩
theorem isVal_s (i : Nat) (h : i < 100) : isVal (31 + 2 * i) 72 := isVal_of ((by decide +kernel : ∀ i, i < 100 → (31 + 2 * i < 314 ∧ 31 + 2 * i + 1 < 314 ∧ shO (SH (31 + 2 * i)) = some (10, [some (some (31 + 2 * i + 1)), none]) ∧ shA (SH (31 + 2 * i + 1)) = some (0, 72))) i h)
theorem isVal_p (i : Nat) (h : i < 10) : isVal (5 + 2 * i) 72 := isVal_of ((by decide +kernel : ∀ i, i < 10 → (5 + 2 * i < 314 ∧ 5 + 2 * i + 1 < 314 ∧ shO (SH (5 + 2 * i)) = some (10, [some (some (5 + 2 * i + 1)), none]) ∧ shA (SH (5 + 2 * i + 1)) = some (0, 72))) i h)
theorem isVal_f (i : Nat) (h : i < 3) : isVal (265 + 3 * i) 72 := isVal_of ((by decide +kernel : ∀ i, i < 3 → (265 + 3 * i < 314 ∧ 265 + 3 * i + 1 < 314 ∧ shO (SH (265 + 3 * i)) = some (10, [some (some (265 + 3 * i + 1)), none]) ∧ shA (SH (265 + 3 * i + 1)) = some (0, 72))) i h)
theorem isVal_d : isVal 244 152 ∧ isVal 246 72 ∧ isVal 259 72 ∧ isVal 3 0 ∧ isVal 29 0 := ⟨isVal_of (by decide +kernel), isVal_of (by decide +kernel), isVal_of (by decide +kernel), isVal_of (by decide +kernel), isVal_of (by decide +kernel)⟩
end
section
/-! ===== the cells' rules over the law's cells, as they are used ===== -/
section XG
variable {M : x_MT} {mc ms pc kc ks : Nat} {ls : List (Option Value)} {st : List Value} {σ : xSig} {Y : xS} {o : xO}
theorem g_getI (k nx : Nat) {ci j a idx : Nat} {fs : List (Option (Option Nat))} {ty : FieldType} {fin : Bool} {v : Int} (jz : Int) (hk : x_CK ci) (hf : x_FL (mOwn M) idx ci j ty fin) (hd : (mIns M)[k]? = some (pc, .getfield idx, 3)) (hn : pc + 3 = nx) (ha : a < N0) (hs : SH a = .inr (.inr (ci, fs))) (hj : fs[j]? = some none) (hz : (j : Int) = jz) (hv : σ a jz = v)
    (kk : x_E M mc ms nx ls (.int (ii v) :: st) (St σ) kc ks o Y) : x_E M mc ms pc ls (.ref a :: st) (St σ) kc ks o Y := by
  subst hz
  subst hv
  exact e_getI (X := St σ) k nx hk hf hd hn ha hs hj kk
theorem g_getIN (k nx : Nat) {ci j a idx : Nat} {fs : List (Option (Option Nat))} {v : Int} (jz : Int) (hk : x_CK ci) (hf : x_FN (mOwn M) idx ci j) (hd : (mIns M)[k]? = some (pc, .getfield idx, 3)) (hn : pc + 3 = nx) (ha : a < N0) (hs : SH a = .inr (.inr (ci, fs))) (hj : fs[j]? = some none) (hz : (j : Int) = jz) (hv : σ a jz = v)
    (kk : x_E M mc ms nx ls (.int (ii v) :: st) (St σ) kc ks o Y) : x_E M mc ms pc ls (.ref a :: st) (St σ) kc ks o Y := by
  subst hz
  subst hv
  exact e_getIN (X := St σ) k nx hk hf hd hn ha hs hj kk
theorem g_getR (k nx : Nat) {ci j a idx : Nat} {fs : List (Option (Option Nat))} {ty : FieldType} {fin : Bool} {b : Nat} (hk : x_CK ci) (hf : x_FL (mOwn M) idx ci j ty fin) (hd : (mIns M)[k]? = some (pc, .getfield idx, 3)) (hn : pc + 3 = nx) (ha : a < N0) (hs : SH a = .inr (.inr (ci, fs))) (hj : fs[j]? = some (some (some b)))
    (kk : x_E M mc ms nx ls (.ref b :: st) (St σ) kc ks o Y) : x_E M mc ms pc ls (.ref a :: st) (St σ) kc ks o Y := e_getR (X := St σ) k nx hk hf hd hn ha hs hj kk
theorem g_putI (k nx : Nat) {ci j a idx : Nat} {fs : List (Option (Option Nat))} {v : Int} (jz : Int) (hk : x_CK ci) (hf : x_FL (mOwn M) idx ci j .int false) (hd : (mIns M)[k]? = some (pc, .putfield idx, 3)) (hn : pc + 3 = nx) (ha : a < N0) (hs : SH a = .inr (.inr (ci, fs))) (hj : fs[j]? = some none) (hz : (j : Int) = jz)
    (kk : x_E M mc ms nx ls st (St (xu σ a jz v)) kc ks o Y) : x_E M mc ms pc ls (.int (ii v) :: .ref a :: st) (St σ) kc ks o Y := by
  subst hz
  exact e_putI (X := St σ) k nx hk hf hd hn ha hs hj kk
theorem g_putZ (k nx : Nat) {ci j a idx : Nat} {fs : List (Option (Option Nat))} {v : Int} (jz : Int) (hk : x_CK ci) (hf : x_FL (mOwn M) idx ci j .boolean false) (hd : (mIns M)[k]? = some (pc, .putfield idx, 3)) (hn : pc + 3 = nx) (hv : v = 0 ∨ v = 1) (ha : a < N0) (hs : SH a = .inr (.inr (ci, fs))) (hj : fs[j]? = some none) (hz : (j : Int) = jz)
    (kk : x_E M mc ms nx ls st (St (xu σ a jz v)) kc ks o Y) : x_E M mc ms pc ls (.int (ii v) :: .ref a :: st) (St σ) kc ks o Y := by
  subst hz
  exact e_putZ (X := St σ) k nx hk hf hd hn hv ha hs hj kk
theorem g_alen (k nx : Nat) {kd a n : Nat} (hd : (mIns M)[k]? = some (pc, .arraylength, 1)) (hn : pc + 1 = nx) (ha : a < N0) (hs : SH a = .inl (kd, n)) (hkd : kd < 3)
    (kk : x_E M mc ms nx ls (.int (ii n) :: st) (St σ) kc ks o Y) : x_E M mc ms pc ls (.ref a :: st) (St σ) kc ks o Y := e_alen (X := St σ) k nx hd hn ha hs hkd kk
theorem g_alenR (k nx : Nat) {kd a : Nat} {rs : List (Option Nat)} (hd : (mIns M)[k]? = some (pc, .arraylength, 1)) (hn : pc + 1 = nx) (ha : a < N0) (hs : SH a = .inr (.inl (kd, rs))) (hkd : kd = 3 ∨ kd = 4)
    (kk : x_E M mc ms nx ls (.int (ii (rs.length : Nat)) :: st) (St σ) kc ks o Y) : x_E M mc ms pc ls (.ref a :: st) (St σ) kc ks o Y := e_alenR (X := St σ) k nx hd hn ha hs hkd kk
theorem g_iaload (k nx : Nat) {a n : Nat} {x v : Int} (hd : (mIns M)[k]? = some (pc, .iaload, 1)) (hn : pc + 1 = nx) (ha : a < N0) (hs : SH a = .inl (0, n)) (h0 : 0 ≤ x) (h1 : x < n) (h2 : n < 2147483648) (hv : σ a x = v)
    (kk : x_E M mc ms nx ls (.int (ii v) :: st) (St σ) kc ks o Y) : x_E M mc ms pc ls (.int (ii x) :: .ref a :: st) (St σ) kc ks o Y := by
  subst hv
  exact e_iaload (X := St σ) k nx hd hn ha hs h0 h1 h2 kk
theorem g_baload (k nx : Nat) {a n : Nat} {x v : Int} (hd : (mIns M)[k]? = some (pc, .baload, 1)) (hn : pc + 1 = nx) (ha : a < N0) (hs : SH a = .inl (1, n)) (h0 : 0 ≤ x) (h1 : x < n) (h2 : n < 2147483648) (hv : σ a x = v)
    (kk : x_E M mc ms nx ls (.int (ii v) :: st) (St σ) kc ks o Y) : x_E M mc ms pc ls (.int (ii x) :: .ref a :: st) (St σ) kc ks o Y := by
  subst hv
  exact e_baload (X := St σ) k nx hd hn ha hs h0 h1 h2 kk
theorem g_laload (k nx : Nat) {a n : Nat} {x v : Int} (hd : (mIns M)[k]? = some (pc, .laload, 1)) (hn : pc + 1 = nx) (ha : a < N0) (hs : SH a = .inl (2, n)) (h0 : 0 ≤ x) (h1 : x < n) (h2 : n < 2147483648) (hv : σ a x = v)
    (kk : x_E M mc ms nx ls (.long (ll v) :: st) (St σ) kc ks o Y) : x_E M mc ms pc ls (.int (ii x) :: .ref a :: st) (St σ) kc ks o Y := by
  subst hv
  exact e_laload (X := St σ) k nx hd hn ha hs h0 h1 h2 kk
theorem g_aaload (k nx : Nat) {a b kd : Nat} {rs : List (Option Nat)} {x : Int} (hd : (mIns M)[k]? = some (pc, .aaload, 1)) (hn : pc + 1 = nx) (ha : a < N0) (hs : SH a = .inr (.inl (kd, rs))) (hkd : kd = 3 ∨ kd = 4) (h0 : 0 ≤ x) (hr : rs[x.toNat]? = some (some b)) (h2 : rs.length < 2147483648)
    (kk : x_E M mc ms nx ls (.ref b :: st) (St σ) kc ks o Y) : x_E M mc ms pc ls (.int (ii x) :: .ref a :: st) (St σ) kc ks o Y := e_aaload (X := St σ) k nx hd hn ha hs hkd h0 hr h2 kk
theorem g_iastore (k nx : Nat) {a n : Nat} {x v : Int} (hd : (mIns M)[k]? = some (pc, .iastore, 1)) (hn : pc + 1 = nx) (ha : a < N0) (hs : SH a = .inl (0, n)) (h0 : 0 ≤ x) (h1 : x < n) (h2 : n < 2147483648)
    (kk : x_E M mc ms nx ls st (St (xu σ a x v)) kc ks o Y) : x_E M mc ms pc ls (.int (ii v) :: .int (ii x) :: .ref a :: st) (St σ) kc ks o Y := e_iastore (X := St σ) k nx hd hn ha hs h0 h1 h2 kk
theorem g_bastore (k nx : Nat) {a n : Nat} {x v : Int} (hd : (mIns M)[k]? = some (pc, .bastore, 1)) (hn : pc + 1 = nx) (hv : v = 0 ∨ v = 1) (ha : a < N0) (hs : SH a = .inl (1, n)) (h0 : 0 ≤ x) (h1 : x < n) (h2 : n < 2147483648)
    (kk : x_E M mc ms nx ls st (St (xu σ a x v)) kc ks o Y) : x_E M mc ms pc ls (.int (ii v) :: .int (ii x) :: .ref a :: st) (St σ) kc ks o Y := e_bastore (X := St σ) k nx hd hn hv ha hs h0 h1 h2 kk
theorem g_lastore (k nx : Nat) {a n : Nat} {x v : Int} (hd : (mIns M)[k]? = some (pc, .lastore, 1)) (hn : pc + 1 = nx) (ha : a < N0) (hs : SH a = .inl (2, n)) (h0 : 0 ≤ x) (h1 : x < n) (h2 : n < 2147483648)
    (kk : x_E M mc ms nx ls st (St (xu σ a x v)) kc ks o Y) : x_E M mc ms pc ls (.long (ll v) :: .int (ii x) :: .ref a :: st) (St σ) kc ks o Y := e_lastore (X := St σ) k nx hd hn ha hs h0 h1 h2 kk
theorem g_callV (k nx : Nat) {M' : x_MT} {idx n b ci mc' ms' : Nat} {r : vw_C} {fs : List (Option (Option Nat))} {av rest : List Value} {v : Option Value} {σ' : xSig} (sp : x_Sp M' mc' ms' (.ref b :: av) (St σ) (.inl v) (St σ')) (ok' : x_MOk M') (cv : x_CV (mOwn M) M' idx n) (hR : x_Rm M M') (hd : (mIns M)[k]? = some (pc, .invokevirtual idx, 3)) (hn : pc + 3 = nx)
    (hb : b < N0) (hs : SH b = .inr (.inr (ci, fs))) (hc : vwCl[ci]? = some r) (hrn : r.1 = mOwn M') (hst : st = av.reverse ++ .ref b :: rest) (hnn : av.length = n) (hrest : (rest.map fun v => v.category).sum ≤ 8) (hcc : kc + mc' ≤ mc) (hss : ks + ms' ≤ ms)
    (kk : x_E M mc ms nx ls (v.toList ++ rest) (St σ') (kc + mc') (ks + ms') o Y) : x_E M mc ms pc ls st (St σ) kc ks o Y := e_callV (X := St σ) k nx sp ok' cv hR hd hn hb hs hc hrn hst hnn hrest hcc hss kk
theorem g_callS (k nx : Nat) {M' : x_MT} {idx n mc' ms' : Nat} {av rest : List Value} {v : Option Value} {σ' : xSig} (sp : x_Sp M' mc' ms' av (St σ) (.inl v) (St σ')) (ok' : x_MOk M') (cv : x_CS (mOwn M) M' idx n) (hR : x_Rm M M') (hd : (mIns M)[k]? = some (pc, .invokestatic idx, 3)) (hn : pc + 3 = nx)
    (hst : st = av.reverse ++ rest) (hnn : av.length = n) (hrest : (rest.map fun v => v.category).sum ≤ 8) (hcc : kc + mc' ≤ mc) (hss : ks + ms' ≤ ms)
    (kk : x_E M mc ms nx ls (v.toList ++ rest) (St σ') (kc + mc') (ks + ms') o Y) : x_E M mc ms pc ls st (St σ) kc ks o Y := e_callS (X := St σ) k nx sp ok' cv hR hd hn hst hnn hrest hcc hss kk
theorem g_acopy (k nx : Nat) {idx a n : Nat} {sp dp m9 : Int} (hd : (mIns M)[k]? = some (pc, .invokestatic idx, 3)) (hn : pc + 3 = nx) (hw : Cond.methodLink (mOwn M) idx arraycopyName ∈ tb0 ∧ Cond.native arraycopyName ∈ tb0 ∧ Cond.static arraycopyName ∈ tb0 ∧ Cond.initialized "java/lang/System" ∈ tb0) (hfr : 1 ≤ mFr M) (hlo : 26 ≤ mLo M) (hrest : (st.map fun v => v.category).sum ≤ 8)
    (ha : a < N0) (hs : SH a = .inl (0, n)) (h1 : 0 ≤ sp) (h2 : 0 ≤ dp) (h3 : 0 ≤ m9) (h4 : sp + m9 ≤ n) (h5 : dp + m9 ≤ n) (h6 : n < 2147483648)
    (kk : x_E M mc ms nx ls st (St (xcp σ a sp dp m9)) kc ks o Y) : x_E M mc ms pc ls (.int (ii m9) :: .int (ii dp) :: .ref a :: .int (ii sp) :: .ref a :: st) (St σ) kc ks o Y := e_acopy (X := St σ) k nx hd hn hw hfr hlo hrest rfl ha hs h1 h2 h3 h4 h5 h6 kk
end XG
end
section
/-! ===== constants out of the pool ===== -/
section XK
variable {M : x_MT} {mc ms pc kc ks : Nat} {ls : List (Option Value)} {st : List Value} {X Y : xS} {o : xO}
theorem e_ldc2_w (k nx : Nat) {idx : Nat} {v : Int} {w : Int64} (hw : Cond.constantLong (mOwn M) idx w ∈ tb0) (hv : w = ll v) (hd : (mIns M)[k]? = some (pc, .ldc2_w idx, 3)) (hn : pc + 3 = nx) (kk : x_E M mc ms nx ls (.long (ll v) :: st) X kc ks o Y) : x_E M mc ms pc ls st X kc ks o Y := by
  subst hn
  subst hv
  intro p l e s m args below meth c H locs arr G base C w S hl
  exact lv_ldc2 C.2.1 C.2.2.1 C.2.2.2.2.2.1 (C.2.2.2.2.2.2.1 _ hw) (x_dec C.1 hd) (kk p l e s m args below meth c H locs arr G base C w S hl)
theorem e_ldc (k nx : Nat) {idx : Nat} {v : Int} {w : Int32} (hw : Cond.constant (mOwn M) idx w ∈ tb0) (hv : w = ii v) (hd : (mIns M)[k]? = some (pc, .ldc idx, 2)) (hn : pc + 2 = nx) (kk : x_E M mc ms nx ls (.int (ii v) :: st) X kc ks o Y) : x_E M mc ms pc ls st X kc ks o Y := by
  subst hn
  subst hv
  intro p l e s m args below meth c H locs arr G base C w S hl
  exact lv_ldc C.2.1 C.2.2.1 C.2.2.2.2.2.1 (C.2.2.2.2.2.2.1 _ hw) (x_dec C.1 hd) (kk p l e s m args below meth c H locs arr G base C w S hl)
theorem e_ldc_w (k nx : Nat) {idx : Nat} {v : Int} {w : Int32} (hw : Cond.constant (mOwn M) idx w ∈ tb0) (hv : w = ii v) (hd : (mIns M)[k]? = some (pc, .ldc_w idx, 3)) (hn : pc + 3 = nx) (kk : x_E M mc ms nx ls (.int (ii v) :: st) X kc ks o Y) : x_E M mc ms pc ls st X kc ks o Y := by
  subst hn
  subst hv
  intro p l e s m args below meth c H locs arr G base C w S hl
  exact lv_ldcw C.2.1 C.2.2.1 C.2.2.2.2.2.1 (C.2.2.2.2.2.2.1 _ hw) (x_dec C.1 hd) (kk p l e s m args below meth c H locs arr G base C w S hl)
theorem e_ifnonnull (k tg : Nat) {a : Nat} {off : Int} (hd : (mIns M)[k]? = some (pc, .ifnonnull off, 3)) (ht : (pc : Int) + off = (tg : Int)) (kk : x_E M mc ms tg ls st X kc ks o Y) : x_E M mc ms pc ls (.ref a :: st) X kc ks o Y := by
  intro p l e s m args below meth c H locs arr G base C w S hl
  exact lv_ifnonnull C.2.1 C.2.2.1 (x_dec C.1 hd) ht (kk p l e s m args below meth c H locs arr G base C w S hl)
theorem e_acmp_eq (k tg nx : Nat) {a b : Nat} {off : Int} (hd : (mIns M)[k]? = some (pc, .if_acmp .eq off, 3)) (ht : (pc : Int) + off = (tg : Int)) (hn : pc + 3 = nx) (kt : a = b → x_E M mc ms tg ls st X kc ks o Y) (kf : a ≠ b → x_E M mc ms nx ls st X kc ks o Y) : x_E M mc ms pc ls (.ref b :: .ref a :: st) X kc ks o Y := by
  subst hn
  intro p l e s m args below meth c H locs arr G base C w S hl
  refine lv_acmp_eq (rx := some (base + a)) (ry := some (base + b)) C.2.1 C.2.2.1 (x_dec C.1 hd) ht (fun h => kt ?_ p l e s m args below meth c H locs arr G base C w S hl) (fun h => kf ?_ p l e s m args below meth c H locs arr G base C w S hl)
  · have := Option.some.inj h
    omega
  · intro q
    exact h (by rw [q])
theorem e_table (k tg : Nat) {x dflt lo hi off : Int} {offs : Array Int} {len : Nat} (hd : (mIns M)[k]? = some (pc, .tableswitch dflt lo hi offs, len)) (hx : xr x) (h1 : lo ≤ x) (h2 : x ≤ hi) (ho : offs[(x - lo).toNat]? = some off) (ht : (pc : Int) + off = (tg : Int)) (kk : x_E M mc ms tg ls st X kc ks o Y) : x_E M mc ms pc ls (.int (ii x) :: st) X kc ks o Y := by
  intro p l e s m args below meth c H locs arr G base C w S hl
  have e9 := ii_toInt hx
  exact lv_tableIn C.2.1 C.2.2.1 (x_dec C.1 hd) (by rw [e9]; omega) (by rw [e9]; omega) (by rw [e9]; exact ho) ht (kk p l e s m args below meth c H locs arr G base C w S hl)
theorem e_tableO (k tg : Nat) {x dflt lo hi : Int} {offs : Array Int} {len : Nat} (hd : (mIns M)[k]? = some (pc, .tableswitch dflt lo hi offs, len)) (hx : xr x) (h1 : x < lo ∨ hi < x) (ht : (pc : Int) + dflt = (tg : Int)) (kk : x_E M mc ms tg ls st X kc ks o Y) : x_E M mc ms pc ls (.int (ii x) :: st) X kc ks o Y := by
  intro p l e s m args below meth c H locs arr G base C w S hl
  have e9 := ii_toInt hx
  exact lv_tableOut C.2.1 C.2.2.1 (x_dec C.1 hd) (by rw [e9]; exact h1) ht (kk p l e s m args below meth c H locs arr G base C w S hl)
def x_dm : List Bool → List (Option Value) → List (Option Value)
  | true :: m, v :: l => v :: x_dm m l
  | false :: m, _ :: l => none :: x_dm m l
  | _, _ => []
theorem x_dm_get : ∀ (m : List Bool) (l : List (Option Value)) (k : Nat) (u : Value), (x_dm m l)[k]? = some (some u) → l[k]? = some (some u) := by
  intro m
  induction m with
  | nil => intro l k u h; simp [x_dm] at h
  | cons b m ih =>
    intro l k u h
    cases l with
    | nil => cases b <;> simp [x_dm] at h
    | cons v l =>
      cases b <;> cases k with
      | zero => simp [x_dm] at h ⊢ <;> exact h
      | succ k => simp [x_dm] at h ⊢; exact ih l k u h
/-- fewer locals, by a mask -/
theorem e_dropm {ls' : List (Option Value)} (m : List Bool) (he : x_dm m ls = ls') (kk : x_E M mc ms pc ls' st X kc ks o Y) : x_E M mc ms pc ls st X kc ks o Y := by
  subst he
  exact e_drop _ (fun k u h => x_dm_get m ls k u h) kk
end XK
theorem kcX0_82 : Cond.constant RX0 82 (104729) ∈ tb0 := tb4_of 22 rfl rfl
theorem kcX10_36 : Cond.constantLong RX10 36 (7) ∈ tb0 := tb5_of 168 rfl rfl
theorem kcX10_42 : Cond.constantLong RX10 42 (31) ∈ tb0 := tb5_of 173 rfl rfl
theorem kcX12_125 : Cond.constantLong RX12 125 (-1) ∈ tb0 := tb7_of 179 rfl rfl
theorem kcX12_213 : Cond.constant RX12 213 (104729) ∈ tb0 := tb7_of 238 rfl rfl
theorem kcX12_297 : Cond.constantLong RX12 297 (400) ∈ tb0 := tb8_of 79 rfl rfl
theorem kcX12_299 : Cond.constantLong RX12 299 (5) ∈ tb0 := tb8_of 80 rfl rfl
theorem kcX12_135 : Cond.constantLong RX12 135 (7) ∈ tb0 := tb8_of 141 rfl rfl
theorem kcX12_137 : Cond.constantLong RX12 137 (31) ∈ tb0 := tb8_of 142 rfl rfl
theorem kcX12_348 : Cond.constant RX12 348 (2147483647) ∈ tb0 := tb9_of 0 rfl rfl
theorem mxX0_77 : Cond.methodLink RX0 77 Lib.Math.max.name ∈ tb0 ∧ Cond.static Lib.Math.max.name ∈ tb0 ∧ Cond.initialized "java/lang/Math" ∈ tb0 ∧ Cond.code Lib.Math.max.name Lib.Math.max.code 2 (some .int) ∈ tb0 := ⟨tb4_of 21 rfl rfl, tb2_of 221 rfl rfl, tb1_of 20 rfl rfl, tb2_of 222 rfl rfl⟩
theorem mxX9_25 : Cond.methodLink RX9 25 Lib.Math.max.name ∈ tb0 ∧ Cond.static Lib.Math.max.name ∈ tb0 ∧ Cond.initialized "java/lang/Math" ∈ tb0 ∧ Cond.code Lib.Math.max.name Lib.Math.max.code 2 (some .int) ∈ tb0 := ⟨tb2_of 220 rfl rfl, tb2_of 221 rfl rfl, tb1_of 20 rfl rfl, tb2_of 222 rfl rfl⟩
theorem acX10_71 : Cond.methodLink RX10 71 arraycopyName ∈ tb0 ∧ Cond.native arraycopyName ∈ tb0 ∧ Cond.static arraycopyName ∈ tb0 ∧ Cond.initialized "java/lang/System" ∈ tb0 := ⟨tb3_of 96 rfl rfl, tb3_of 98 rfl rfl, tb3_of 97 rfl rfl, tb1_of 18 rfl rfl⟩
end
section
/-! ===== rows of signs ===== -/
def tok (t : List Int) (i : Int) : Int := if 0 ≤ i then t.getD i.toNat 0 else 0
def trn (x : Int) : Int := if 4000 ≤ x then 1 else if x = 0 then -1 else 0
def dsum : List Int → Int
  | [] => 0
  | x :: r => trn x + dsum r
theorem dsum_app (a b : List Int) : dsum (a ++ b) = dsum a + dsum b := by
  induction a with
  | nil => simp [dsum]
  | cons x r ih => simp only [List.cons_append, dsum, ih]; omega
theorem trn_in (x : Int) : trn x = 1 ∨ trn x = -1 ∨ trn x = 0 := by
  unfold trn
  split
  · exact Or.inl rfl
  · split
    · exact Or.inr (Or.inl rfl)
    · exact Or.inr (Or.inr rfl)
/-- one value, whole: the depth is back at 0 at its end, and not before -/
def Cv (v : List Int) : Prop := dsum v = 0 ∧ 0 < v.length ∧ ∀ k : Nat, 0 < k → k < v.length → 1 ≤ dsum (v.take k)
theorem tok_nat (t : List Int) (i : Nat) : tok t i = t.getD i 0 := by
  unfold tok
  rw [if_pos (Int.natCast_nonneg i)]
  rfl
theorem tok_neg {t : List Int} {i : Int} (h : i < 0) : tok t i = 0 := by
  unfold tok
  rw [if_neg (by omega)]
theorem tok_big {t : List Int} {i : Int} (h : (t.length : Int) ≤ i) : tok t i = 0 := by
  unfold tok
  rw [if_pos (by omega), List.getD_eq_getElem?_getD, List.getElem?_eq_none_iff.mpr (by omega)]
  rfl
theorem tok_mid (pre v suf : List Int) (k : Nat) (h : k < v.length) : tok (pre ++ v ++ suf) ((pre.length : Int) + k) = v.getD k 0 := by
  have e : ((pre.length : Int) + k) = ((pre.length + k : Nat) : Int) := by omega
  rw [e, tok_nat, List.getD_eq_getElem?_getD, List.getD_eq_getElem?_getD, List.append_assoc, List.getElem?_append_right (by omega), List.getElem?_append_left (by omega)]
  congr 2
  omega
theorem dsum_take (v : List Int) (k : Nat) (h : k < v.length) : dsum (v.take (k + 1)) = dsum (v.take k) + trn (v.getD k 0) := by
  rw [List.take_succ, dsum_app, List.getD_eq_getElem?_getD, List.getElem?_eq_getElem h]
  simp [dsum]
theorem dsum_bnd (v : List Int) : -(v.length : Int) ≤ dsum v ∧ dsum v ≤ v.length := by
  induction v with
  | nil => simp [dsum]
  | cons x r ih =>
    simp only [dsum, List.length_cons]
    rcases trn_in x with h | h | h <;> rw [h] <;> omega
/-- the object of Value at a holds the row t -/
def VH (σ : xSig) (a cap : Nat) (t : List Int) : Prop := isVal a cap ∧ σ a 1 = t.length ∧ t.length ≤ cap ∧ cap ≤ 200 ∧ (∀ i : Nat, i < t.length → σ (a + 1) i = t.getD i 0) ∧ ∀ i : Int, 0 ≤ σ (a + 1) i ∧ σ (a + 1) i < 6000
theorem VH.tk {σ : xSig} {a cap : Nat} {t : List Int} (h : VH σ a cap t) {i : Int} (h0 : 0 ≤ i) (h1 : i < t.length) : σ (a + 1) i = tok t i := by
  have e : i = ((i.toNat : Nat) : Int) := by omega
  rw [e, tok_nat]
  exact h.2.2.2.2.1 _ (by omega)
theorem VH.bnd {σ : xSig} {a cap : Nat} {t : List Int} (h : VH σ a cap t) (i : Int) : 0 ≤ tok t i ∧ tok t i < 6000 := by
  by_cases h0 : 0 ≤ i
  · by_cases h1 : i < t.length
    · rw [← h.tk h0 h1]
      exact h.2.2.2.2.2 i
    · rw [tok_big (by omega)]
      omega
  · rw [tok_neg (by omega)]
    omega
theorem tok_hd (p : List Int) (x : Int) (r : List Int) : tok (p ++ x :: r) p.length = x := by
  rw [tok_nat, List.getD_eq_getElem?_getD, List.getElem?_append_right (Nat.le_refl _), Nat.sub_self]
  rfl
theorem len_s (p : List Int) (x : Int) : ((p ++ [x]).length : Int) = (p.length : Int) + 1 := by simp
theorem app_s (p : List Int) (x : Int) (r : List Int) : p ++ x :: r = (p ++ [x]) ++ r := by simp
/-- how many signs the first value has, at depth d -/
def vsc : List Int → Int → Nat
  | [], _ => 0
  | x :: r, d => if d + trn x ≤ 0 then 1 else 1 + vsc r (d + trn x)
theorem vsc_le : ∀ (r : List Int) (d : Int), vsc r d ≤ r.length := by
  intro r
  induction r with
  | nil => intro d; simp [vsc]
  | cons x r ih =>
    intro d
    unfold vsc
    split
    · simp
    · have := ih (d + trn x)
      simp only [List.length_cons]
      omega
theorem vsc_cv_aux : ∀ (r u suf : List Int) (d : Int), (∀ k : Nat, k < r.length → 0 < k → 1 ≤ d + dsum (r.take k)) → d + dsum r = 0 → 0 < r.length → vsc (r ++ suf) d = r.length := by
  intro r
  induction r with
  | nil => intro u suf d _ _ h; simp at h
  | cons x r ih =>
    intro u suf d h1 h2 h3
    simp only [List.cons_append, vsc]
    cases r with
    | nil =>
      simp only [dsum] at h2
      rw [if_pos (by omega)]
      rfl
    | cons y r =>
      have h4 := h1 1 (by simp) (by omega)
      simp only [List.take_succ_cons, List.take_zero, dsum] at h4
      rw [if_neg (by omega), ih u suf (d + trn x) (fun k hk hk0 => ?_) (by simp only [dsum] at h2 ⊢; omega) (by simp)]
      · simp only [List.length_cons]; omega
      · have h5 := h1 (k + 1) (by simp only [List.length_cons] at hk ⊢; omega) (by omega)
        simp only [List.take_succ_cons, dsum] at h5
        omega
theorem vsc_cv {v : List Int} (h : Cv v) (suf : List Int) : vsc (v ++ suf) 0 = v.length :=
  vsc_cv_aux v [] suf 0 (fun k h1 h2 => by have := h.2.2 k h2 h1; omega) (by have := h.1; omega) h.2.1
def knd (x : Int) : Int := if 5000 ≤ x then 4 else if 4000 ≤ x then 3 else if 3000 ≤ x then 2 else if 1001 ≤ x then 1 else 0
theorem knd_bnd (x : Int) : 0 ≤ knd x ∧ knd x ≤ 4 := by
  unfold knd
  split
  · omega
  · split
    · omega
    · split
      · omega
      · split <;> omega
/-- how many parts a stretch has -/
def cnt : List Int → Int
  | [] => 0
  | x :: r => (if 9 ≤ x then 1 else 0) + cnt r
theorem cnt_app (a b : List Int) : cnt (a ++ b) = cnt a + cnt b := by
  induction a with
  | nil => simp [cnt]
  | cons x r ih => simp only [List.cons_append, cnt, ih]; omega
theorem cnt_bnd (a : List Int) : 0 ≤ cnt a ∧ cnt a ≤ a.length := by
  induction a with
  | nil => simp [cnt]
  | cons x r ih => simp only [cnt, List.length_cons]; split <;> omega
/-- the width of the first value, from depth d -/
def wsc : List Int → Int → Int
  | [], _ => 0
  | x :: r, d => (if d = 1 ∧ 9 ≤ x then 1 else 0) + (if d + trn x ≤ 0 then 0 else wsc r (d + trn x))
theorem wsc_bnd : ∀ (r : List Int) (d : Int), 0 ≤ wsc r d ∧ wsc r d ≤ r.length := by
  intro r
  induction r with
  | nil => intro d; simp [wsc]
  | cons x r ih =>
    intro d
    have := ih (d + trn x)
    simp only [wsc, List.length_cons]
    split <;> split <;> omega
/-- where the field f stands, or belongs, in an object's signs behind its own, at depth d -/
def ssc : List Int → Int → Int → Nat
  | [], _, _ => 0
  | x :: r, f, d => if d = 0 ∧ (x = 0 ∨ x < 9 ∧ 1 + f ≤ x) then 0 else 1 + ssc r f (d + trn x)
theorem ssc_le : ∀ (r : List Int) (f d : Int), ssc r f d ≤ r.length := by
  intro r
  induction r with
  | nil => intro f d; simp [ssc]
  | cons x r ih =>
    intro f d
    unfold ssc
    split
    · simp
    · have := ih f (d + trn x)
      simp only [List.length_cons]
      omega
/-- the order of two rows, sign by sign -/
def lexc : List Int → List Int → Int
  | x :: a, y :: b => if x < y then -1 else if y < x then 1 else lexc a b
  | _, _ => 0
theorem cv_vsc_cnt (r : List Int) (d : Int) : vsc r d ≤ r.length := vsc_le r d
/-- how one sign goes into a print; w: the width of the value that begins there -/
def pon (h x w : Int) : Int := if x = 0 then h else if x < 9 then 31 * h + (x - 1) else if knd x = 1 then 31 * (31 * h + (knd x + 1)) + (x - 2000) else if knd x = 2 then 31 * (31 * h + (knd x + 1)) + (x - 3000) else if knd x = 0 then 31 * h + (knd x + 1) else 31 * (31 * h + (knd x + 1)) + w
/-- the print of the first value, from depth d -/
def psc : List Int → Int → Int → Int
  | [], _, h => h
  | x :: r, d, h => if d + trn x ≤ 0 then pon h x (wsc (x :: r) 0) else psc r (d + trn x) (pon h x (wsc (x :: r) 0))
end
section
/-! ===== Value: reading ===== -/
theorem sp_turnOf {σ : xSig} {x : Int} (hx : 0 ≤ x ∧ x < 6000) : Rd MX10_turnOf [.int (ii x)] σ (iv (trn x)) := by
  refine e_entry okX10_turnOf (Nat.le_of_ble_eq_true rfl) (ls := [some _]) rfl ?_
  refine e_iload_n 0 1 rfl rfl rfl rfl ?_
  refine e_sipush 1 4 rfl rfl rfl ?_
  refine e_icmp_lt 2 9 7 rfl rfl rfl (by unfold xr at *; omega) (by unfold xr at *; omega) (fun h => ?_) (fun h => ?_)
  · skip
    refine e_iload_n 5 10 rfl rfl rfl rfl ?_
    refine e_if_ne 6 17 13 rfl rfl rfl (by unfold xr at *; omega) (fun h2 => ?_) (fun h2 => ?_)
    · skip
      rw [show trn x = 0 by unfold trn; rw [if_neg (by omega), if_neg h2]]
      refine e_iconst 9 18 rfl rfl ?_
      exact e_ireturn 10 rfl rfl (Nat.le_of_ble_eq_true rfl) (Nat.le_of_ble_eq_true rfl)
    · skip
      rw [show trn x = -1 by unfold trn; rw [if_neg (by omega), if_pos h2]]
      refine e_iconst 7 14 rfl rfl ?_
      refine e_goto 8 18 rfl rfl ?_
      exact e_ireturn 10 rfl rfl (Nat.le_of_ble_eq_true rfl) (Nat.le_of_ble_eq_true rfl)
  · skip
    rw [show trn x = 1 by unfold trn; rw [if_pos h]]
    refine e_iconst 3 8 rfl rfl ?_
    exact e_ireturn 4 rfl rfl (Nat.le_of_ble_eq_true rfl) (Nat.le_of_ble_eq_true rfl)
theorem sp_signAt {σ : xSig} {a cap : Nat} {t : List Int} (hV : VH σ a cap t) {i : Int} (hi : xr i) : Rd MX10_signAt [.ref a, .int (ii i)] σ (iv (tok t i)) := by
  have hlen := hV.2.1
  have h1 := hV.2.2.1
  have h2 := hV.2.2.2.1
  unfold xr at hi
  refine e_entry okX10_signAt (Nat.le_of_ble_eq_true rfl) (ls := [some _, some _]) rfl ?_
  refine e_iload_n 0 1 rfl rfl rfl rfl ?_
  refine e_if_lt 1 30 4 rfl rfl rfl (by unfold xr at *; omega) (fun h3 => ?_) (fun h3 => ?_)
  · skip
    rw [tok_neg h3]
    refine e_iconst 16 31 rfl rfl ?_
    exact e_ireturn 17 rfl rfl (Nat.le_of_ble_eq_true rfl) (Nat.le_of_ble_eq_true rfl)
  · skip
    refine e_iload_n 2 5 rfl rfl rfl rfl ?_
    refine e_aload_n 3 6 rfl rfl rfl rfl ?_
    refine g_getI 4 9 1 ckX10 flX10_9 rfl rfl hV.1.1 hV.1.2.2.1 rfl rfl hlen ?_
    refine e_icmp_ge 5 30 12 rfl rfl rfl (by unfold xr at *; omega) (by unfold xr at *; omega) (fun h4 => ?_) (fun h4 => ?_)
    · skip
      rw [tok_big h4]
      refine e_iconst 16 31 rfl rfl ?_
      exact e_ireturn 17 rfl rfl (Nat.le_of_ble_eq_true rfl) (Nat.le_of_ble_eq_true rfl)
    · skip
      refine e_iload_n 6 13 rfl rfl rfl rfl ?_
      refine e_aload_n 7 14 rfl rfl rfl rfl ?_
      refine g_getR 8 17 ckX10 flX10_15 rfl rfl hV.1.1 hV.1.2.2.1 rfl ?_
      refine g_alen 9 18 rfl rfl hV.1.2.1 hV.1.2.2.2 (Nat.le_of_ble_eq_true rfl) ?_
      refine e_icmp_ge 10 30 21 rfl rfl rfl (by unfold xr at *; omega) (by unfold xr at *; omega) (fun h9 => absurd h9 (by omega)) (fun _ => ?_)
      refine e_aload_n 11 22 rfl rfl rfl rfl ?_
      refine g_getR 12 25 ckX10 flX10_15 rfl rfl hV.1.1 hV.1.2.2.1 rfl ?_
      refine e_iload_n 13 26 rfl rfl rfl rfl ?_
      refine g_iaload 14 27 rfl rfl hV.1.2.1 hV.1.2.2.2 (by omega) (by omega) (by omega) (hV.tk (by omega) h4) ?_
      refine e_goto 15 31 rfl rfl ?_
      exact e_ireturn 17 rfl rfl (Nat.le_of_ble_eq_true rfl) (Nat.le_of_ble_eq_true rfl)
theorem sp_kindAt {σ : xSig} {a cap : Nat} {t : List Int} (hV : VH σ a cap t) {i : Int} (hi : xr i) : Rd MX10_kindAt [.ref a, .int (ii i)] σ (iv (knd (tok t i))) := by
  have hb := hV.bnd i
  refine e_entry okX10_kindAt (Nat.le_of_ble_eq_true rfl) (ls := [some _, some _, none]) rfl ?_
  refine e_aload_n 0 1 rfl rfl rfl rfl ?_
  refine e_iload_n 1 2 rfl rfl rfl rfl ?_
  refine g_callV 2 5 (sp_signAt hV hi) okX10_signAt cvX10_19 ⟨(Nat.le_of_ble_eq_true rfl), (Nat.le_of_ble_eq_true rfl)⟩ rfl rfl hV.1.1 hV.1.2.2.1 rfl rfl rfl rfl (Nat.le_of_ble_eq_true rfl) (Nat.le_of_ble_eq_true rfl) (Nat.le_of_ble_eq_true rfl) ?_
  refine e_istore_n 3 6 (ls' := [some _, some _, some _]) rfl rfl rfl (Nat.le_of_ble_eq_true rfl) rfl ?_
  refine e_iload_n 4 7 rfl rfl rfl rfl ?_
  refine e_sipush 5 10 rfl rfl rfl ?_
  refine e_icmp_lt 6 15 13 rfl rfl rfl (by unfold xr at *; omega) (by unfold xr at *; omega) (fun h => ?_) (fun h => ?_)
  · skip
    refine e_iload_n 9 16 rfl rfl rfl rfl ?_
    refine e_sipush 10 19 rfl rfl rfl ?_
    refine e_icmp_lt 11 24 22 rfl rfl rfl (by unfold xr at *; omega) (by unfold xr at *; omega) (fun h2 => ?_) (fun h2 => ?_)
    · skip
      refine e_iload_n 14 25 rfl rfl rfl rfl ?_
      refine e_sipush 15 28 rfl rfl rfl ?_
      refine e_icmp_lt 16 33 31 rfl rfl rfl (by unfold xr at *; omega) (by unfold xr at *; omega) (fun h3 => ?_) (fun h3 => ?_)
      · skip
        refine e_iload_n 19 34 rfl rfl rfl rfl ?_
        refine e_sipush 20 37 rfl rfl rfl ?_
        refine e_icmp_lt 21 44 40 rfl rfl rfl (by unfold xr at *; omega) (by unfold xr at *; omega) (fun h4 => ?_) (fun h4 => ?_)
        · skip
          rw [show knd (tok t i) = 0 by unfold knd; rw [if_neg (by omega), if_neg (by omega), if_neg (by omega), if_neg (by omega)]]
          refine e_iconst 24 45 rfl rfl ?_
          exact e_ireturn 25 rfl rfl (Nat.le_of_ble_eq_true rfl) (Nat.le_of_ble_eq_true rfl)
        · skip
          rw [show knd (tok t i) = 1 by unfold knd; rw [if_neg (by omega), if_neg (by omega), if_neg (by omega), if_pos (by omega)]]
          refine e_iconst 22 41 rfl rfl ?_
          refine e_goto 23 45 rfl rfl ?_
          exact e_ireturn 25 rfl rfl (Nat.le_of_ble_eq_true rfl) (Nat.le_of_ble_eq_true rfl)
      · skip
        rw [show knd (tok t i) = 2 by unfold knd; rw [if_neg (by omega), if_neg (by omega), if_pos (by omega)]]
        refine e_iconst 17 32 rfl rfl ?_
        exact e_ireturn 18 rfl rfl (Nat.le_of_ble_eq_true rfl) (Nat.le_of_ble_eq_true rfl)
    · skip
      rw [show knd (tok t i) = 3 by unfold knd; rw [if_neg (by omega), if_pos (by omega)]]
      refine e_iconst 12 23 rfl rfl ?_
      exact e_ireturn 13 rfl rfl (Nat.le_of_ble_eq_true rfl) (Nat.le_of_ble_eq_true rfl)
  · skip
    rw [show knd (tok t i) = 4 by unfold knd; rw [if_pos (by omega)]]
    refine e_iconst 7 14 rfl rfl ?_
    exact e_ireturn 8 rfl rfl (Nat.le_of_ble_eq_true rfl) (Nat.le_of_ble_eq_true rfl)
theorem sp_numberAt {σ : xSig} {a cap : Nat} {t : List Int} (hV : VH σ a cap t) {i : Int} (hi : xr i) : Rd MX10_numberAt [.ref a, .int (ii i)] σ (iv (tok t i - 2000)) := by
  refine e_entry okX10_numberAt (Nat.le_of_ble_eq_true rfl) (ls := [some _, some _]) rfl ?_
  refine e_aload_n 0 1 rfl rfl rfl rfl ?_
  refine e_iload_n 1 2 rfl rfl rfl rfl ?_
  refine g_callV 2 5 (sp_signAt hV hi) okX10_signAt cvX10_19 ⟨(Nat.le_of_ble_eq_true rfl), (Nat.le_of_ble_eq_true rfl)⟩ rfl rfl hV.1.1 hV.1.2.2.1 rfl rfl rfl rfl (Nat.le_of_ble_eq_true rfl) (Nat.le_of_ble_eq_true rfl) (Nat.le_of_ble_eq_true rfl) ?_
  refine e_sipush 3 8 rfl rfl rfl ?_
  refine e_isub 4 9 rfl rfl ?_
  exact e_ireturn 5 rfl rfl (Nat.le_of_ble_eq_true rfl) (Nat.le_of_ble_eq_true rfl)
theorem sp_wordAt {σ : xSig} {a cap : Nat} {t : List Int} (hV : VH σ a cap t) {i : Int} (hi : xr i) : Rd MX10_wordAt [.ref a, .int (ii i)] σ (iv (tok t i - 3000)) := by
  refine e_entry okX10_wordAt (Nat.le_of_ble_eq_true rfl) (ls := [some _, some _]) rfl ?_
  refine e_aload_n 0 1 rfl rfl rfl rfl ?_
  refine e_iload_n 1 2 rfl rfl rfl rfl ?_
  refine g_callV 2 5 (sp_signAt hV hi) okX10_signAt cvX10_19 ⟨(Nat.le_of_ble_eq_true rfl), (Nat.le_of_ble_eq_true rfl)⟩ rfl rfl hV.1.1 hV.1.2.2.1 rfl rfl rfl rfl (Nat.le_of_ble_eq_true rfl) (Nat.le_of_ble_eq_true rfl) (Nat.le_of_ble_eq_true rfl) ?_
  refine e_sipush 3 8 rfl rfl rfl ?_
  refine e_isub 4 9 rfl rfl ?_
  exact e_ireturn 5 rfl rfl (Nat.le_of_ble_eq_true rfl) (Nat.le_of_ble_eq_true rfl)
theorem sp_endOf {σ : xSig} {a cap : Nat} {t : List Int} (hV : VH σ a cap t) (p0 r0 : List Int) (h0 : t = p0 ++ r0) : Rd MX10_endOf [.ref a, .int (ii p0.length)] σ (iv (p0.length + vsc r0 0)) := by
  have hlen := hV.2.1
  have hcap := hV.2.2.1
  have h200 := hV.2.2.2.1
  have loop : ∀ (r p : List Int) (d : Int), t = p ++ r → -(p.length : Int) ≤ d → d ≤ p.length → x_E MX10_endOf 0 0 4 [some (.ref a), some (.int (ii p0.length)), some (.int (ii d)), some (.int (ii p.length))] [] (St σ) 0 0 (iv (p.length + vsc r d)) (St σ) := by
    intro r
    induction r with
    | nil =>
      intro p d ht hd1 hd2
      have hl : t.length = p.length := by rw [ht]; simp
      refine e_iload_n 4 5 rfl rfl rfl rfl ?_
      refine e_aload_n 5 6 rfl rfl rfl rfl ?_
      refine g_getI 6 9 1 ckX10 flX10_9 rfl rfl hV.1.1 hV.1.2.2.1 rfl rfl hlen ?_
      refine e_icmp_ge 7 37 12 rfl rfl rfl (by unfold xr at *; omega) (by unfold xr at *; omega) (fun _ => ?_) (fun h9 => absurd h9 (by omega))
      refine e_aload_n 23 38 rfl rfl rfl rfl ?_
      refine g_getI 24 41 1 ckX10 flX10_9 rfl rfl hV.1.1 hV.1.2.2.1 rfl rfl hlen ?_
      rw [show (p.length : Int) + (vsc [] d : Nat) = (t.length : Int) by rw [hl]; simp [vsc]]
      exact e_ireturn 25 rfl rfl (Nat.le_of_ble_eq_true rfl) (Nat.le_of_ble_eq_true rfl)
    | cons x r ih =>
      intro p d ht hd1 hd2
      have hl : t.length = p.length + r.length + 1 := by rw [ht]; simp; omega
      have hx : tok t p.length = x := by rw [ht]; exact tok_hd p x r
      have hxb := hV.bnd p.length
      rw [hx] at hxb
      refine e_iload_n 4 5 rfl rfl rfl rfl ?_
      refine e_aload_n 5 6 rfl rfl rfl rfl ?_
      refine g_getI 6 9 1 ckX10 flX10_9 rfl rfl hV.1.1 hV.1.2.2.1 rfl rfl hlen ?_
      refine e_icmp_ge 7 37 12 rfl rfl rfl (by unfold xr at *; omega) (by unfold xr at *; omega) (fun h9 => absurd h9 (by omega)) (fun _ => ?_)
      refine e_iload_n 8 13 rfl rfl rfl rfl ?_
      refine e_aload_n 9 14 rfl rfl rfl rfl ?_
      refine e_iload_n 10 15 rfl rfl rfl rfl ?_
      refine g_callV 11 18 (sp_signAt hV (i := p.length) (by unfold xr; omega)) okX10_signAt cvX10_19 ⟨(Nat.le_of_ble_eq_true rfl), (Nat.le_of_ble_eq_true rfl)⟩ rfl rfl hV.1.1 hV.1.2.2.1 rfl rfl rfl rfl (Nat.le_of_ble_eq_true rfl) (Nat.le_of_ble_eq_true rfl) (Nat.le_of_ble_eq_true rfl) ?_
      rw [hx]
      refine g_callS 12 21 (sp_turnOf hxb) okX10_turnOf csX10_23 ⟨(Nat.le_of_ble_eq_true rfl), (Nat.le_of_ble_eq_true rfl)⟩ rfl rfl rfl rfl (Nat.le_of_ble_eq_true rfl) (Nat.le_of_ble_eq_true rfl) (Nat.le_of_ble_eq_true rfl) ?_
      have htr := trn_in x
      refine e_iadd 13 22 rfl rfl ?_
      refine e_istore_n 14 23 (ls' := [some _, some _, some _, some _]) rfl rfl rfl (Nat.le_of_ble_eq_true rfl) rfl ?_
      refine e_iload_n 15 24 rfl rfl rfl rfl ?_
      refine e_if_gt 16 31 27 rfl rfl rfl (by unfold xr at *; omega) (fun h => ?_) (fun h => ?_)
      · skip
        refine e_iinc 21 34 (ls' := [some _, some _, some _, some _]) rfl rfl (Nat.le_of_ble_eq_true rfl) rfl rfl ?_
        refine e_goto 22 4 rfl rfl ?_
        have hn := ih (p ++ [x]) (d + trn x) (by rw [ht, app_s]) (by rw [len_s]; omega) (by rw [len_s]; omega)
        rw [len_s] at hn
        rw [show (p.length : Int) + (vsc (x :: r) d : Nat) = (p.length : Int) + 1 + (vsc r (d + trn x) : Nat) by simp only [vsc]; rw [if_neg (by omega)]; omega]
        exact hn
      · skip
        rw [show (p.length : Int) + (vsc (x :: r) d : Nat) = (p.length : Int) + 1 by simp only [vsc]; rw [if_pos (by omega)]; rfl]
        refine e_iload_n 17 28 rfl rfl rfl rfl ?_
        refine e_iconst 18 29 rfl rfl ?_
        refine e_iadd 19 30 rfl rfl ?_
        exact e_ireturn 20 rfl rfl (Nat.le_of_ble_eq_true rfl) (Nat.le_of_ble_eq_true rfl)
  refine e_entry okX10_endOf (Nat.le_of_ble_eq_true rfl) (ls := [some _, some _, none, none]) rfl ?_
  refine e_iconst 0 1 rfl rfl ?_
  refine e_istore_n 1 2 (ls' := [some _, some _, some _, none]) rfl rfl rfl (Nat.le_of_ble_eq_true rfl) rfl ?_
  refine e_iload_n 2 3 rfl rfl rfl rfl ?_
  refine e_istore_n 3 4 (ls' := [some _, some _, some _, some _]) rfl rfl rfl (Nat.le_of_ble_eq_true rfl) rfl ?_
  exact loop r0 p0 0 h0 (by omega) (by omega)
theorem sp_partsAt {σ : xSig} {a cap : Nat} {t : List Int} (hV : VH σ a cap t) (p0 r0 : List Int) (h0 : t = p0 ++ r0) : Rd MX10_partsAt [.ref a, .int (ii p0.length)] σ (iv (cnt (r0.take (vsc r0 0)))) := by
  have hlen := hV.2.1
  have hcap := hV.2.2.1
  have h200 := hV.2.2.2.1
  have hl0 : t.length = p0.length + r0.length := by rw [h0]; simp
  have hle := vsc_le r0 0
  have loop : ∀ (n : Nat) (m : List Int) (r : List Int), r0 = m ++ r → m.length + n = vsc r0 0 → x_E MX10_partsAt 0 0 19 [some (.ref a), some (.int (ii p0.length)), some (.int (ii (cnt m))), some (.int (ii (p0.length + vsc r0 0))), some (.int (ii (p0.length + m.length)))] [] (St σ) 0 0 (iv (cnt (r0.take (vsc r0 0)))) (St σ) := by
    intro n
    induction n with
    | zero =>
      intro m r hr hn
      refine e_iload 12 21 rfl rfl rfl ?_
      refine e_iload_n 13 22 rfl rfl rfl rfl ?_
      refine e_icmp_ge 14 45 25 rfl rfl rfl (by unfold xr at *; omega) (by unfold xr at *; omega) (fun _ => ?_) (fun h9 => absurd h9 (by omega))
      refine e_iload_n 23 46 rfl rfl rfl rfl ?_
      rw [show r0.take (vsc r0 0) = m by rw [hr] at hn ⊢; rw [← hn, Nat.add_zero]; simp]
      exact e_ireturn 24 rfl rfl (Nat.le_of_ble_eq_true rfl) (Nat.le_of_ble_eq_true rfl)
    | succ n ih =>
      intro m r hr hn
      cases r with
      | nil => rw [hr] at hle hn; simp at hle hn; omega
      | cons x r =>
        have hc := cnt_bnd m
        have hml : m.length < r0.length := by rw [hr]; simp
        have hx : tok t ((p0.length : Int) + m.length) = x := by
          rw [h0, hr, ← List.append_assoc, show (p0.length : Int) + m.length = ((p0 ++ m).length : Int) by simp]
          exact tok_hd _ x r
        have hxb := hV.bnd ((p0.length : Int) + m.length)
        rw [hx] at hxb
        have hnext := ih (m ++ [x]) r (by rw [hr, app_s]) (by simp; omega)
        have e1 : cnt (m ++ [x]) = cnt m + (if 9 ≤ x then 1 else 0) := by rw [cnt_app]; simp [cnt]
        rw [len_s, e1, ← Int.add_assoc] at hnext
        refine e_iload 12 21 rfl rfl rfl ?_
        refine e_iload_n 13 22 rfl rfl rfl rfl ?_
        refine e_icmp_ge 14 45 25 rfl rfl rfl (by unfold xr at *; omega) (by unfold xr at *; omega) (fun h9 => absurd h9 (by omega)) (fun _ => ?_)
        refine e_aload_n 15 26 rfl rfl rfl rfl ?_
        refine e_iload 16 28 rfl rfl rfl ?_
        refine g_callV 17 31 (sp_signAt hV (i := (p0.length : Int) + m.length) (by unfold xr; omega)) okX10_signAt cvX10_19 ⟨(Nat.le_of_ble_eq_true rfl), (Nat.le_of_ble_eq_true rfl)⟩ rfl rfl hV.1.1 hV.1.2.2.1 rfl rfl rfl rfl (Nat.le_of_ble_eq_true rfl) (Nat.le_of_ble_eq_true rfl) (Nat.le_of_ble_eq_true rfl) ?_
        rw [hx]
        refine e_bipush 18 33 rfl rfl rfl ?_
        refine e_icmp_lt 19 39 36 rfl rfl rfl (by unfold xr at *; omega) (by unfold xr at *; omega) (fun h => ?_) (fun h => ?_)
        · skip
          rw [if_neg (by omega), Int.add_zero] at hnext
          refine e_iinc 21 42 (ls' := [some _, some _, some _, some _, some _]) rfl rfl (Nat.le_of_ble_eq_true rfl) rfl rfl ?_
          refine e_goto 22 19 rfl rfl ?_
          exact hnext
        · skip
          rw [if_pos (by omega)] at hnext
          refine e_iinc 20 39 (ls' := [some _, some _, some _, some _, some _]) rfl rfl (Nat.le_of_ble_eq_true rfl) rfl rfl ?_
          refine e_iinc 21 42 (ls' := [some _, some _, some _, some _, some _]) rfl rfl (Nat.le_of_ble_eq_true rfl) rfl rfl ?_
          refine e_goto 22 19 rfl rfl ?_
          exact hnext
  refine e_entry okX10_partsAt (Nat.le_of_ble_eq_true rfl) (ls := [some _, some _, none, none, none]) rfl ?_
  refine e_iconst 0 1 rfl rfl ?_
  refine e_istore_n 1 2 (ls' := [some _, some _, some _, none, none]) rfl rfl rfl (Nat.le_of_ble_eq_true rfl) rfl ?_
  refine e_iload_n 2 3 rfl rfl rfl rfl ?_
  refine e_if_ge 3 10 6 rfl rfl rfl (by unfold xr at *; omega) (fun _ => ?_) (fun h9 => absurd h9 (by omega))
  refine e_aload_n 6 11 rfl rfl rfl rfl ?_
  refine e_iload_n 7 12 rfl rfl rfl rfl ?_
  refine g_callV 8 15 (sp_endOf hV p0 r0 h0) okX10_endOf cvX10_29 ⟨(Nat.le_of_ble_eq_true rfl), (Nat.le_of_ble_eq_true rfl)⟩ rfl rfl hV.1.1 hV.1.2.2.1 rfl rfl rfl rfl (Nat.le_of_ble_eq_true rfl) (Nat.le_of_ble_eq_true rfl) (Nat.le_of_ble_eq_true rfl) ?_
  refine e_istore_n 9 16 (ls' := [some _, some _, some _, some _, none]) rfl rfl rfl (Nat.le_of_ble_eq_true rfl) rfl ?_
  refine e_iload_n 10 17 rfl rfl rfl rfl ?_
  refine e_istore 11 19 (ls' := [some _, some _, some _, some _, some _]) rfl rfl (Nat.le_of_ble_eq_true rfl) rfl ?_
  have h9 := loop (vsc r0 0) [] r0 rfl (by simp)
  simp only [List.length_nil, cnt, Int.natCast_zero, Int.add_zero] at h9
  exact h9
theorem sp_partsAtN {σ : xSig} {a cap : Nat} {t : List Int} (hV : VH σ a cap t) {i : Int} (hi : xr i) (hn : i < 0) : Rd MX10_partsAt [.ref a, .int (ii i)] σ (iv 0) := by
  unfold xr at hi
  refine e_entry okX10_partsAt (Nat.le_of_ble_eq_true rfl) (ls := [some _, some _, none, none, none]) rfl ?_
  refine e_iconst 0 1 rfl rfl ?_
  refine e_istore_n 1 2 (ls' := [some _, some _, some _, none, none]) rfl rfl rfl (Nat.le_of_ble_eq_true rfl) rfl ?_
  refine e_iload_n 2 3 rfl rfl rfl rfl ?_
  refine e_if_ge 3 10 6 rfl rfl rfl (by unfold xr at *; omega) (fun h9 => absurd h9 (by omega)) (fun _ => ?_)
  refine e_iload_n 4 7 rfl rfl rfl rfl ?_
  refine e_goto 5 15 rfl rfl ?_
  refine e_istore_n 9 16 (ls' := [some _, some _, some _, some _, none]) rfl rfl rfl (Nat.le_of_ble_eq_true rfl) rfl ?_
  refine e_iload_n 10 17 rfl rfl rfl rfl ?_
  refine e_istore 11 19 (ls' := [some _, some _, some _, some _, some _]) rfl rfl (Nat.le_of_ble_eq_true rfl) rfl ?_
  refine e_iload 12 21 rfl rfl rfl ?_
  refine e_iload_n 13 22 rfl rfl rfl rfl ?_
  refine e_icmp_ge 14 45 25 rfl rfl rfl (by unfold xr at *; omega) (by unfold xr at *; omega) (fun _ => ?_) (fun h9 => absurd h9 (by omega))
  refine e_iload_n 23 46 rfl rfl rfl rfl ?_
  exact e_ireturn 24 rfl rfl (Nat.le_of_ble_eq_true rfl) (Nat.le_of_ble_eq_true rfl)
theorem sp_parts {σ : xSig} {a cap : Nat} {t : List Int} (hV : VH σ a cap t) : Rd MX10_parts [.ref a] σ (iv (cnt (t.take (vsc t 0)))) := by
  refine e_entry okX10_parts (Nat.le_of_ble_eq_true rfl) (ls := [some _]) rfl ?_
  refine e_aload_n 0 1 rfl rfl rfl rfl ?_
  refine e_iconst 1 2 rfl rfl ?_
  refine g_callV 2 5 (sp_partsAt hV [] t rfl) okX10_partsAt cvX10_26 ⟨(Nat.le_of_ble_eq_true rfl), (Nat.le_of_ble_eq_true rfl)⟩ rfl rfl hV.1.1 hV.1.2.2.1 rfl rfl rfl rfl (Nat.le_of_ble_eq_true rfl) (Nat.le_of_ble_eq_true rfl) (Nat.le_of_ble_eq_true rfl) ?_
  exact e_ireturn 3 rfl rfl (Nat.le_of_ble_eq_true rfl) (Nat.le_of_ble_eq_true rfl)
theorem sp_widthAt {σ : xSig} {a cap : Nat} {t : List Int} (hV : VH σ a cap t) (p0 r0 : List Int) (h0 : t = p0 ++ r0) : Rd MX10_widthAt [.ref a, .int (ii p0.length)] σ (iv (wsc r0 0)) := by
  have hlen := hV.2.1
  have hcap := hV.2.2.1
  have h200 := hV.2.2.2.1
  have loop : ∀ (r p : List Int) (d w : Int), t = p ++ r → -(p.length : Int) ≤ d → d ≤ p.length → 0 ≤ w → w ≤ p.length → x_E MX10_widthAt 0 0 7 [some (.ref a), some (.int (ii p0.length)), some (.int (ii d)), some (.int (ii w)), some (.int (ii p.length)), none] [] (St σ) 0 0 (iv (w + wsc r d)) (St σ) := by
    intro r
    induction r with
    | nil =>
      intro p d w ht hd1 hd2 hw1 hw2
      have hl : t.length = p.length := by rw [ht]; simp
      refine e_iload 6 9 rfl rfl rfl ?_
      refine e_aload_n 7 10 rfl rfl rfl rfl ?_
      refine g_getI 8 13 1 ckX10 flX10_9 rfl rfl hV.1.1 hV.1.2.2.1 rfl rfl hlen ?_
      refine e_icmp_ge 9 59 16 rfl rfl rfl (by unfold xr at *; omega) (by unfold xr at *; omega) (fun _ => ?_) (fun h9 => absurd h9 (by omega))
      refine e_iload_n 32 60 rfl rfl rfl rfl ?_
      rw [show w + wsc [] d = w by simp [wsc]]
      exact e_ireturn 33 rfl rfl (Nat.le_of_ble_eq_true rfl) (Nat.le_of_ble_eq_true rfl)
    | cons x r ih =>
      intro p d w ht hd1 hd2 hw1 hw2
      have hl : t.length = p.length + r.length + 1 := by rw [ht]; simp; omega
      have hx : tok t p.length = x := by rw [ht]; exact tok_hd p x r
      have hxb := hV.bnd p.length
      rw [hx] at hxb
      have htr := trn_in x
      have key : ∀ (w' : Int), w' = w + (if d = 1 ∧ 9 ≤ x then 1 else 0) → x_E MX10_widthAt 0 0 39 [some (.ref a), some (.int (ii p0.length)), some (.int (ii d)), some (.int (ii w')), some (.int (ii p.length)), some (.int (ii x))] [] (St σ) 0 0 (iv (w + wsc (x :: r) d)) (St σ) := by
        intro w' hw'
        have hwb : w' = w ∨ w' = w + 1 := by rw [hw']; split <;> omega
        refine e_iload_n 21 40 rfl rfl rfl rfl ?_
        refine e_iload 22 42 rfl rfl rfl ?_
        refine g_callS 23 45 (sp_turnOf hxb) okX10_turnOf csX10_23 ⟨(Nat.le_of_ble_eq_true rfl), (Nat.le_of_ble_eq_true rfl)⟩ rfl rfl rfl rfl (Nat.le_of_ble_eq_true rfl) (Nat.le_of_ble_eq_true rfl) (Nat.le_of_ble_eq_true rfl) ?_
        refine e_iadd 24 46 rfl rfl ?_
        refine e_istore_n 25 47 (ls' := [some _, some _, some _, some _, some _, some _]) rfl rfl rfl (Nat.le_of_ble_eq_true rfl) rfl ?_
        refine e_iload_n 26 48 rfl rfl rfl rfl ?_
        refine e_if_gt 27 53 51 rfl rfl rfl (by unfold xr at *; omega) (fun h => ?_) (fun h => ?_)
        · skip
          have hn := ih (p ++ [x]) (d + trn x) w' (by rw [ht, app_s]) (by rw [len_s]; omega) (by rw [len_s]; omega) (by omega) (by rw [len_s]; omega)
          rw [len_s] at hn
          rw [show w + wsc (x :: r) d = w' + wsc r (d + trn x) by simp only [wsc]; rw [if_neg (by omega : ¬ d + trn x ≤ 0), hw']; omega]
          refine e_iinc 30 56 (ls' := [some _, some _, some _, some _, some _, some _]) rfl rfl (Nat.le_of_ble_eq_true rfl) rfl rfl ?_
          refine e_goto 31 7 rfl rfl ?_
          refine e_dropm [true, true, true, true, true, false] (ls' := [some _, some _, some _, some _, some _, none]) rfl ?_
          exact hn
        · skip
          rw [show w + wsc (x :: r) d = w' by simp only [wsc]; rw [if_pos (by omega : d + trn x ≤ 0), hw']; omega]
          refine e_iload_n 28 52 rfl rfl rfl rfl ?_
          exact e_ireturn 29 rfl rfl (Nat.le_of_ble_eq_true rfl) (Nat.le_of_ble_eq_true rfl)
      refine e_iload 6 9 rfl rfl rfl ?_
      refine e_aload_n 7 10 rfl rfl rfl rfl ?_
      refine g_getI 8 13 1 ckX10 flX10_9 rfl rfl hV.1.1 hV.1.2.2.1 rfl rfl hlen ?_
      refine e_icmp_ge 9 59 16 rfl rfl rfl (by unfold xr at *; omega) (by unfold xr at *; omega) (fun h9 => absurd h9 (by omega)) (fun _ => ?_)
      refine e_aload_n 10 17 rfl rfl rfl rfl ?_
      refine e_iload 11 19 rfl rfl rfl ?_
      refine g_callV 12 22 (sp_signAt hV (i := p.length) (by unfold xr; omega)) okX10_signAt cvX10_19 ⟨(Nat.le_of_ble_eq_true rfl), (Nat.le_of_ble_eq_true rfl)⟩ rfl rfl hV.1.1 hV.1.2.2.1 rfl rfl rfl rfl (Nat.le_of_ble_eq_true rfl) (Nat.le_of_ble_eq_true rfl) (Nat.le_of_ble_eq_true rfl) ?_
      rw [hx]
      refine e_istore 13 24 (ls' := [some _, some _, some _, some _, some _, some _]) rfl rfl (Nat.le_of_ble_eq_true rfl) rfl ?_
      refine e_iload_n 14 25 rfl rfl rfl rfl ?_
      refine e_iconst 15 26 rfl rfl ?_
      refine e_icmp_ne 16 39 29 rfl rfl rfl (by unfold xr at *; omega) (by unfold xr at *; omega) (fun h => ?_) (fun h => ?_)
      · skip
        exact key w (by rw [if_neg (fun q => h q.1)]; omega)
      · skip
        refine e_iload 17 31 rfl rfl rfl ?_
        refine e_bipush 18 33 rfl rfl rfl ?_
        refine e_icmp_lt 19 39 36 rfl rfl rfl (by unfold xr at *; omega) (by unfold xr at *; omega) (fun h2 => ?_) (fun h2 => ?_)
        · skip
          exact key w (by rw [if_neg (fun q => by omega)]; omega)
        · skip
          refine e_iinc 20 39 (ls' := [some _, some _, some _, some _, some _, some _]) rfl rfl (Nat.le_of_ble_eq_true rfl) rfl rfl ?_
          exact key (w + 1) (by rw [if_pos ⟨h, h2⟩])
  refine e_entry okX10_widthAt (Nat.le_of_ble_eq_true rfl) (ls := [some _, some _, none, none, none, none]) rfl ?_
  refine e_iconst 0 1 rfl rfl ?_
  refine e_istore_n 1 2 (ls' := [some _, some _, some _, none, none, none]) rfl rfl rfl (Nat.le_of_ble_eq_true rfl) rfl ?_
  refine e_iconst 2 3 rfl rfl ?_
  refine e_istore_n 3 4 (ls' := [some _, some _, some _, some _, none, none]) rfl rfl rfl (Nat.le_of_ble_eq_true rfl) rfl ?_
  refine e_iload_n 4 5 rfl rfl rfl rfl ?_
  refine e_istore 5 7 (ls' := [some _, some _, some _, some _, some _, none]) rfl rfl (Nat.le_of_ble_eq_true rfl) rfl ?_
  have h9 := loop r0 p0 0 0 h0 (by omega) (by omega) (by omega) (by omega)
  rw [Int.zero_add] at h9
  exact h9

theorem sp_slotOf {σ : xSig} {a cap : Nat} {t : List Int} (hV : VH σ a cap t) {f : Int} (hf : 0 ≤ f ∧ f < 8) (p0 r0 : List Int) (h0 : t = p0 ++ r0) (hp0 : 0 < p0.length) : Rd MX10_slotOf [.ref a, .int (ii (p0.length - 1)), .int (ii f)] σ (iv (p0.length + ssc r0 f 0)) := by
  have hlen := hV.2.1
  have hcap := hV.2.2.1
  have h200 := hV.2.2.2.1
  have loop : ∀ (r p : List Int) (d : Int), t = p ++ r → -(p.length : Int) ≤ d → d ≤ p.length → x_E MX10_slotOf 0 0 7 [some (.ref a), some (.int (ii (p0.length - 1))), some (.int (ii f)), some (.int (ii d)), some (.int (ii p.length)), none] [] (St σ) 0 0 (iv (p.length + ssc r f d)) (St σ) := by
    intro r
    induction r with
    | nil =>
      intro p d ht hd1 hd2
      have hl : t.length = p.length := by rw [ht]; simp
      refine e_iload 6 9 rfl rfl rfl ?_
      refine e_aload_n 7 10 rfl rfl rfl rfl ?_
      refine g_getI 8 13 1 ckX10 flX10_9 rfl rfl hV.1.1 hV.1.2.2.1 rfl rfl hlen ?_
      refine e_icmp_ge 9 65 16 rfl rfl rfl (by unfold xr at *; omega) (by unfold xr at *; omega) (fun _ => ?_) (fun h9 => absurd h9 (by omega))
      refine e_aload_n 35 66 rfl rfl rfl rfl ?_
      refine g_getI 36 69 1 ckX10 flX10_9 rfl rfl hV.1.1 hV.1.2.2.1 rfl rfl hlen ?_
      rw [show (p.length : Int) + (ssc [] f d : Nat) = (t.length : Int) by rw [hl]; simp [ssc]]
      exact e_ireturn 37 rfl rfl (Nat.le_of_ble_eq_true rfl) (Nat.le_of_ble_eq_true rfl)
    | cons x r ih =>
      intro p d ht hd1 hd2
      have hl : t.length = p.length + r.length + 1 := by rw [ht]; simp; omega
      have hx : tok t p.length = x := by rw [ht]; exact tok_hd p x r
      have hxb := hV.bnd p.length
      rw [hx] at hxb
      have htr := trn_in x
      have stop : (d = 0 ∧ (x = 0 ∨ x < 9 ∧ 1 + f ≤ x)) → x_E MX10_slotOf 0 0 48 [some (.ref a), some (.int (ii (p0.length - 1))), some (.int (ii f)), some (.int (ii d)), some (.int (ii p.length)), some (.int (ii x))] [] (St σ) 0 0 (iv (p.length + ssc (x :: r) f d)) (St σ) := by
        intro hc
        rw [show (p.length : Int) + (ssc (x :: r) f d : Nat) = (p.length : Int) by simp only [ssc]; rw [if_pos hc]; simp]
        refine e_iload 26 50 rfl rfl rfl ?_
        exact e_ireturn 27 rfl rfl (Nat.le_of_ble_eq_true rfl) (Nat.le_of_ble_eq_true rfl)
      have on : (¬ (d = 0 ∧ (x = 0 ∨ x < 9 ∧ 1 + f ≤ x))) → x_E MX10_slotOf 0 0 51 [some (.ref a), some (.int (ii (p0.length - 1))), some (.int (ii f)), some (.int (ii d)), some (.int (ii p.length)), some (.int (ii x))] [] (St σ) 0 0 (iv (p.length + ssc (x :: r) f d)) (St σ) := by
        intro hc
        have hn := ih (p ++ [x]) (d + trn x) (by rw [ht, app_s]) (by rw [len_s]; omega) (by rw [len_s]; omega)
        rw [len_s] at hn
        rw [show (p.length : Int) + (ssc (x :: r) f d : Nat) = (p.length : Int) + 1 + (ssc r f (d + trn x) : Nat) by simp only [ssc]; rw [if_neg hc]; omega]
        refine e_iload_n 28 52 rfl rfl rfl rfl ?_
        refine e_iload 29 54 rfl rfl rfl ?_
        refine g_callS 30 57 (sp_turnOf hxb) okX10_turnOf csX10_23 ⟨(Nat.le_of_ble_eq_true rfl), (Nat.le_of_ble_eq_true rfl)⟩ rfl rfl rfl rfl (Nat.le_of_ble_eq_true rfl) (Nat.le_of_ble_eq_true rfl) (Nat.le_of_ble_eq_true rfl) ?_
        refine e_iadd 31 58 rfl rfl ?_
        refine e_istore_n 32 59 (ls' := [some _, some _, some _, some _, some _, some _]) rfl rfl rfl (Nat.le_of_ble_eq_true rfl) rfl ?_
        refine e_iinc 33 62 (ls' := [some _, some _, some _, some _, some _, some _]) rfl rfl (Nat.le_of_ble_eq_true rfl) rfl rfl ?_
        refine e_goto 34 7 rfl rfl ?_
        refine e_dropm [true, true, true, true, true, false] (ls' := [some _, some _, some _, some _, some _, none]) rfl ?_
        exact hn
      refine e_iload 6 9 rfl rfl rfl ?_
      refine e_aload_n 7 10 rfl rfl rfl rfl ?_
      refine g_getI 8 13 1 ckX10 flX10_9 rfl rfl hV.1.1 hV.1.2.2.1 rfl rfl hlen ?_
      refine e_icmp_ge 9 65 16 rfl rfl rfl (by unfold xr at *; omega) (by unfold xr at *; omega) (fun h9 => absurd h9 (by omega)) (fun _ => ?_)
      refine e_aload_n 10 17 rfl rfl rfl rfl ?_
      refine e_iload 11 19 rfl rfl rfl ?_
      refine g_callV 12 22 (sp_signAt hV (i := p.length) (by unfold xr; omega)) okX10_signAt cvX10_19 ⟨(Nat.le_of_ble_eq_true rfl), (Nat.le_of_ble_eq_true rfl)⟩ rfl rfl hV.1.1 hV.1.2.2.1 rfl rfl rfl rfl (Nat.le_of_ble_eq_true rfl) (Nat.le_of_ble_eq_true rfl) (Nat.le_of_ble_eq_true rfl) ?_
      rw [hx]
      refine e_istore 13 24 (ls' := [some _, some _, some _, some _, some _, some _]) rfl rfl (Nat.le_of_ble_eq_true rfl) rfl ?_
      refine e_iload_n 14 25 rfl rfl rfl rfl ?_
      refine e_if_ne 15 51 28 rfl rfl rfl (by unfold xr at *; omega) (fun h => ?_) (fun h => ?_)
      · skip
        exact on (fun q => h q.1)
      · skip
        refine e_iload 16 30 rfl rfl rfl ?_
        refine e_if_eq 17 48 33 rfl rfl rfl (by unfold xr at *; omega) (fun h2 => ?_) (fun h2 => ?_)
        · skip
          exact stop ⟨h, Or.inl h2⟩
        · skip
          refine e_iload 18 35 rfl rfl rfl ?_
          refine e_bipush 19 37 rfl rfl rfl ?_
          refine e_icmp_ge 20 51 40 rfl rfl rfl (by unfold xr at *; omega) (by unfold xr at *; omega) (fun h3 => ?_) (fun h3 => ?_)
          · skip
            exact on (fun q => by omega)
          · skip
            refine e_iload 21 42 rfl rfl rfl ?_
            refine e_iconst 22 43 rfl rfl ?_
            refine e_iload_n 23 44 rfl rfl rfl rfl ?_
            refine e_iadd 24 45 rfl rfl ?_
            refine e_icmp_lt 25 51 48 rfl rfl rfl (by unfold xr at *; omega) (by unfold xr at *; omega) (fun h4 => ?_) (fun h4 => ?_)
            · skip
              exact on (fun q => by omega)
            · skip
              exact stop ⟨h, Or.inr ⟨by omega, by omega⟩⟩
  refine e_entry okX10_slotOf (Nat.le_of_ble_eq_true rfl) (ls := [some _, some _, some _, none, none, none]) rfl ?_
  have hl0 : p0.length ≤ t.length := by rw [h0]; simp
  refine e_iconst 0 1 rfl rfl ?_
  refine e_istore_n 1 2 (ls' := [some _, some _, some _, some _, none, none]) rfl rfl rfl (Nat.le_of_ble_eq_true rfl) rfl ?_
  refine e_iload_n 2 3 rfl rfl rfl rfl ?_
  refine e_iconst 3 4 rfl rfl ?_
  refine e_iadd 4 5 rfl rfl ?_
  refine e_istore 5 7 (ls' := [some _, some _, some _, some _, some _, none]) rfl rfl (Nat.le_of_ble_eq_true rfl) rfl ?_
  have h9 := loop r0 p0 0 h0 (by omega) (by omega)
  rw [show (p0.length : Int) - 1 + 1 = p0.length by omega]
  exact h9
theorem sp_slotOf0 {σ : xSig} {a cap : Nat} (hV : VH σ a cap []) {f : Int} (hf : 0 ≤ f ∧ f < 8) : Rd MX10_slotOf [.ref a, .int (ii 0), .int (ii f)] σ (iv 0) := by
  have hlen : σ a 1 = 0 := by have := hV.2.1; simpa using this
  refine e_entry okX10_slotOf (Nat.le_of_ble_eq_true rfl) (ls := [some _, some _, some _, none, none, none]) rfl ?_
  refine e_iconst 0 1 rfl rfl ?_
  refine e_istore_n 1 2 (ls' := [some _, some _, some _, some _, none, none]) rfl rfl rfl (Nat.le_of_ble_eq_true rfl) rfl ?_
  refine e_iload_n 2 3 rfl rfl rfl rfl ?_
  refine e_iconst 3 4 rfl rfl ?_
  refine e_iadd 4 5 rfl rfl ?_
  refine e_istore 5 7 (ls' := [some _, some _, some _, some _, some _, none]) rfl rfl (Nat.le_of_ble_eq_true rfl) rfl ?_
  refine e_iload 6 9 rfl rfl rfl ?_
  refine e_aload_n 7 10 rfl rfl rfl rfl ?_
  refine g_getI 8 13 1 ckX10 flX10_9 rfl rfl hV.1.1 hV.1.2.2.1 rfl rfl hlen ?_
  refine e_icmp_ge 9 65 16 rfl rfl rfl (by unfold xr at *; omega) (by unfold xr at *; omega) (fun _ => ?_) (fun h9 => absurd h9 (by omega))
  refine e_aload_n 35 66 rfl rfl rfl rfl ?_
  refine g_getI 36 69 1 ckX10 flX10_9 rfl rfl hV.1.1 hV.1.2.2.1 rfl rfl hlen ?_
  exact e_ireturn 37 rfl rfl (Nat.le_of_ble_eq_true rfl) (Nat.le_of_ble_eq_true rfl)
/-- where the value of a field is, in the object whose signs behind its own are r0; -1 if it is not there -/
def plc (p0 r0 : List Int) (f : Int) : Int := if tok r0 (ssc r0 f 0 : Nat) = 1 + f then p0.length + ssc r0 f 0 + 1 else -1
theorem sp_placeOf {σ : xSig} {a cap : Nat} {t : List Int} (hV : VH σ a cap t) {f : Int} (hf : 0 ≤ f ∧ f < 8) (p0 r0 : List Int) (h0 : t = p0 ++ r0) (hp0 : 0 < p0.length) : Rd MX10_placeOf [.ref a, .int (ii (p0.length - 1)), .int (ii f)] σ (iv (plc p0 r0 f)) := by
  have hlen := hV.2.1
  have hcap := hV.2.2.1
  have h200 := hV.2.2.2.1
  have hl0 : t.length = p0.length + r0.length := by rw [h0]; simp
  have hle := ssc_le r0 f 0
  have hx : tok t ((p0.length : Int) + (ssc r0 f 0 : Nat)) = tok r0 (ssc r0 f 0 : Nat) := by
    rw [show ((p0.length : Int) + (ssc r0 f 0 : Nat)) = ((p0.length + ssc r0 f 0 : Nat) : Int) by omega, tok_nat, tok_nat, List.getD_eq_getElem?_getD, List.getD_eq_getElem?_getD, h0, List.getElem?_append_right (by omega)]
    congr 2
    omega
  have hb := hV.bnd ((p0.length : Int) + (ssc r0 f 0 : Nat))
  rw [hx] at hb
  refine e_entry okX10_placeOf (Nat.le_of_ble_eq_true rfl) (ls := [some _, some _, some _, none]) rfl ?_
  refine e_aload_n 0 1 rfl rfl rfl rfl ?_
  refine e_iload_n 1 2 rfl rfl rfl rfl ?_
  refine e_iload_n 2 3 rfl rfl rfl rfl ?_
  refine g_callV 3 6 (sp_slotOf hV hf p0 r0 h0 hp0) okX10_slotOf cvX10_32 ⟨(Nat.le_of_ble_eq_true rfl), (Nat.le_of_ble_eq_true rfl)⟩ rfl rfl hV.1.1 hV.1.2.2.1 rfl rfl rfl rfl (Nat.le_of_ble_eq_true rfl) (Nat.le_of_ble_eq_true rfl) (Nat.le_of_ble_eq_true rfl) ?_
  refine e_istore_n 4 7 (ls' := [some _, some _, some _, some _]) rfl rfl rfl (Nat.le_of_ble_eq_true rfl) rfl ?_
  refine e_aload_n 5 8 rfl rfl rfl rfl ?_
  refine e_iload_n 6 9 rfl rfl rfl rfl ?_
  refine g_callV 7 12 (sp_signAt hV (i := (p0.length : Int) + (ssc r0 f 0 : Nat)) (by unfold xr; omega)) okX10_signAt cvX10_19 ⟨(Nat.le_of_ble_eq_true rfl), (Nat.le_of_ble_eq_true rfl)⟩ rfl rfl hV.1.1 hV.1.2.2.1 rfl rfl rfl rfl (Nat.le_of_ble_eq_true rfl) (Nat.le_of_ble_eq_true rfl) (Nat.le_of_ble_eq_true rfl) ?_
  rw [hx]
  refine e_iconst 8 13 rfl rfl ?_
  refine e_iload_n 9 14 rfl rfl rfl rfl ?_
  refine e_iadd 10 15 rfl rfl ?_
  unfold plc
  refine e_icmp_ne 11 24 18 rfl rfl rfl (by unfold xr at *; omega) (by unfold xr at *; omega) (fun h => ?_) (fun h => ?_)
  · skip
    rw [if_neg h]
    refine e_iconst 16 25 rfl rfl ?_
    exact e_ireturn 17 rfl rfl (Nat.le_of_ble_eq_true rfl) (Nat.le_of_ble_eq_true rfl)
  · skip
    rw [if_pos h]
    refine e_iload_n 12 19 rfl rfl rfl rfl ?_
    refine e_iconst 13 20 rfl rfl ?_
    refine e_iadd 14 21 rfl rfl ?_
    refine e_goto 15 25 rfl rfl ?_
    exact e_ireturn 17 rfl rfl (Nat.le_of_ble_eq_true rfl) (Nat.le_of_ble_eq_true rfl)
theorem sp_placeOf0 {σ : xSig} {a cap : Nat} (hV : VH σ a cap []) {f : Int} (hf : 0 ≤ f ∧ f < 8) : Rd MX10_placeOf [.ref a, .int (ii 0), .int (ii f)] σ (iv (-1)) := by
  refine e_entry okX10_placeOf (Nat.le_of_ble_eq_true rfl) (ls := [some _, some _, some _, none]) rfl ?_
  refine e_aload_n 0 1 rfl rfl rfl rfl ?_
  refine e_iload_n 1 2 rfl rfl rfl rfl ?_
  refine e_iload_n 2 3 rfl rfl rfl rfl ?_
  refine g_callV 3 6 (sp_slotOf0 hV hf) okX10_slotOf cvX10_32 ⟨(Nat.le_of_ble_eq_true rfl), (Nat.le_of_ble_eq_true rfl)⟩ rfl rfl hV.1.1 hV.1.2.2.1 rfl rfl rfl rfl (Nat.le_of_ble_eq_true rfl) (Nat.le_of_ble_eq_true rfl) (Nat.le_of_ble_eq_true rfl) ?_
  refine e_istore_n 4 7 (ls' := [some _, some _, some _, some _]) rfl rfl rfl (Nat.le_of_ble_eq_true rfl) rfl ?_
  refine e_aload_n 5 8 rfl rfl rfl rfl ?_
  refine e_iload_n 6 9 rfl rfl rfl rfl ?_
  refine g_callV 7 12 (sp_signAt hV (i := 0) (by unfold xr; omega)) okX10_signAt cvX10_19 ⟨(Nat.le_of_ble_eq_true rfl), (Nat.le_of_ble_eq_true rfl)⟩ rfl rfl hV.1.1 hV.1.2.2.1 rfl rfl rfl rfl (Nat.le_of_ble_eq_true rfl) (Nat.le_of_ble_eq_true rfl) (Nat.le_of_ble_eq_true rfl) ?_
  rw [tok_big (by simp)]
  refine e_iconst 8 13 rfl rfl ?_
  refine e_iload_n 9 14 rfl rfl rfl rfl ?_
  refine e_iadd 10 15 rfl rfl ?_
  refine e_icmp_ne 11 24 18 rfl rfl rfl (by unfold xr at *; omega) (by unfold xr at *; omega) (fun _ => ?_) (fun h9 => absurd h9 (by omega))
  refine e_iconst 16 25 rfl rfl ?_
  exact e_ireturn 17 rfl rfl (Nat.le_of_ble_eq_true rfl) (Nat.le_of_ble_eq_true rfl)
theorem sp_printOn {σ : xSig} {a cap : Nat} {t : List Int} (hV : VH σ a cap t) {h x : Int} (p0 r0 : List Int) (h0 : t = p0 ++ x :: r0) : Rd MX10_printOn [.ref a, .long (ll h), .int (ii x), .int (ii p0.length)] σ (.inl (some (.long (ll (pon h x (wsc (x :: r0) 0)))))) := by
  have hcap := hV.2.2.1
  have h200 := hV.2.2.2.1
  have hl0 : t.length = p0.length + r0.length + 1 := by rw [h0]; simp; omega
  have hx : tok t p0.length = x := by rw [h0]; exact tok_hd _ x r0
  have hb := hV.bnd p0.length
  rw [hx] at hb
  have hk := knd_bnd x
  have hw := wsc_bnd (x :: r0) 0
  simp only [List.length_cons] at hw
  have hi : xr (p0.length : Int) := by unfold xr; omega
  refine e_entry okX10_printOn (Nat.le_of_ble_eq_true rfl) (ls := [some _, some _, none, some _, some _, none, none, none]) rfl ?_
  refine e_iload_n 0 1 rfl rfl rfl rfl ?_
  unfold pon
  refine e_if_ne 1 6 4 rfl rfl rfl (by unfold xr at *; omega) (fun h1 => ?_) (fun h1 => ?_)
  · skip
    rw [if_neg h1]
    refine e_iload_n 4 7 rfl rfl rfl rfl ?_
    refine e_bipush 5 9 rfl rfl rfl ?_
    refine e_icmp_ge 6 23 12 rfl rfl rfl (by unfold xr at *; omega) (by unfold xr at *; omega) (fun h2 => ?_) (fun h2 => ?_)
    · skip
      rw [if_neg (by omega)]
      refine e_aload_n 16 24 rfl rfl rfl rfl ?_
      refine e_iload 17 26 rfl rfl rfl ?_
      refine g_callV 18 29 (sp_kindAt hV hi) okX10_kindAt cvX10_44 ⟨(Nat.le_of_ble_eq_true rfl), (Nat.le_of_ble_eq_true rfl)⟩ rfl rfl hV.1.1 hV.1.2.2.1 rfl rfl rfl rfl (Nat.le_of_ble_eq_true rfl) (Nat.le_of_ble_eq_true rfl) (Nat.le_of_ble_eq_true rfl) ?_
      rw [hx]
      refine e_istore 19 31 (ls' := [some _, some _, none, some _, some _, some _, none, none]) rfl rfl (Nat.le_of_ble_eq_true rfl) rfl ?_
      refine e_ldc2_w 20 34 kcX10_42 (by rfl : _ = ll 31) rfl rfl ?_
      refine e_lload_n 21 35 rfl rfl rfl rfl ?_
      refine e_lmul 22 36 rfl rfl ?_
      refine e_iload 23 38 rfl rfl rfl ?_
      refine e_iconst 24 39 rfl rfl ?_
      refine e_iadd 25 40 rfl rfl ?_
      refine e_i2l 26 41 rfl rfl (by unfold xr at *; omega) ?_
      refine e_ladd 27 42 rfl rfl ?_
      refine e_lstore 28 44 (ls' := [some _, some _, none, some _, some _, some _, some _, none]) rfl rfl (Nat.le_of_ble_eq_true rfl) rfl ?_
      refine e_iload 29 46 rfl rfl rfl ?_
      refine e_iconst 30 47 rfl rfl ?_
      refine e_icmp_ne 31 65 50 rfl rfl rfl (by unfold xr at *; omega) (by unfold xr at *; omega) (fun h3 => ?_) (fun h3 => ?_)
      · skip
        rw [if_neg h3]
        refine e_iload 41 67 rfl rfl rfl ?_
        refine e_iconst 42 68 rfl rfl ?_
        refine e_icmp_ne 43 86 71 rfl rfl rfl (by unfold xr at *; omega) (by unfold xr at *; omega) (fun h4 => ?_) (fun h4 => ?_)
        · skip
          rw [if_neg h4]
          refine e_iload 53 88 rfl rfl rfl ?_
          refine e_if_ne 54 96 91 rfl rfl rfl (by unfold xr at *; omega) (fun h5 => ?_) (fun h5 => ?_)
          · skip
            rw [if_neg h5]
            refine e_ldc2_w 57 99 kcX10_42 (by rfl : _ = ll 31) rfl rfl ?_
            refine e_lload 58 101 rfl rfl rfl ?_
            refine e_lmul 59 102 rfl rfl ?_
            refine e_aload_n 60 103 rfl rfl rfl rfl ?_
            refine e_iload 61 105 rfl rfl rfl ?_
            refine g_callV 62 108 (sp_widthAt hV p0 (x :: r0) h0) okX10_widthAt cvX10_53 ⟨(Nat.le_of_ble_eq_true rfl), (Nat.le_of_ble_eq_true rfl)⟩ rfl rfl hV.1.1 hV.1.2.2.1 rfl rfl rfl rfl (Nat.le_of_ble_eq_true rfl) (Nat.le_of_ble_eq_true rfl) (Nat.le_of_ble_eq_true rfl) ?_
            refine e_i2l 63 109 rfl rfl (by unfold xr at *; omega) ?_
            refine e_ladd 64 110 rfl rfl ?_
            exact e_lreturn 65 rfl rfl (Nat.le_of_ble_eq_true rfl) (Nat.le_of_ble_eq_true rfl)
          · skip
            rw [if_pos h5]
            refine e_lload 55 93 rfl rfl rfl ?_
            refine e_goto 56 110 rfl rfl ?_
            exact e_lreturn 65 rfl rfl (Nat.le_of_ble_eq_true rfl) (Nat.le_of_ble_eq_true rfl)
        · skip
          rw [if_pos h4]
          refine e_ldc2_w 44 74 kcX10_42 (by rfl : _ = ll 31) rfl rfl ?_
          refine e_lload 45 76 rfl rfl rfl ?_
          refine e_lmul 46 77 rfl rfl ?_
          refine e_aload_n 47 78 rfl rfl rfl rfl ?_
          refine e_iload 48 80 rfl rfl rfl ?_
          refine g_callV 49 83 (sp_wordAt hV hi) okX10_wordAt cvX10_50 ⟨(Nat.le_of_ble_eq_true rfl), (Nat.le_of_ble_eq_true rfl)⟩ rfl rfl hV.1.1 hV.1.2.2.1 rfl rfl rfl rfl (Nat.le_of_ble_eq_true rfl) (Nat.le_of_ble_eq_true rfl) (Nat.le_of_ble_eq_true rfl) ?_
          rw [hx]
          refine e_i2l 50 84 rfl rfl (by unfold xr at *; omega) ?_
          refine e_ladd 51 85 rfl rfl ?_
          exact e_lreturn 52 rfl rfl (Nat.le_of_ble_eq_true rfl) (Nat.le_of_ble_eq_true rfl)
      · skip
        rw [if_pos h3]
        refine e_ldc2_w 32 53 kcX10_42 (by rfl : _ = ll 31) rfl rfl ?_
        refine e_lload 33 55 rfl rfl rfl ?_
        refine e_lmul 34 56 rfl rfl ?_
        refine e_aload_n 35 57 rfl rfl rfl rfl ?_
        refine e_iload 36 59 rfl rfl rfl ?_
        refine g_callV 37 62 (sp_numberAt hV hi) okX10_numberAt cvX10_47 ⟨(Nat.le_of_ble_eq_true rfl), (Nat.le_of_ble_eq_true rfl)⟩ rfl rfl hV.1.1 hV.1.2.2.1 rfl rfl rfl rfl (Nat.le_of_ble_eq_true rfl) (Nat.le_of_ble_eq_true rfl) (Nat.le_of_ble_eq_true rfl) ?_
        rw [hx]
        refine e_i2l 38 63 rfl rfl (by unfold xr at *; omega) ?_
        refine e_ladd 39 64 rfl rfl ?_
        exact e_lreturn 40 rfl rfl (Nat.le_of_ble_eq_true rfl) (Nat.le_of_ble_eq_true rfl)
    · skip
      rw [if_pos (by omega)]
      refine e_ldc2_w 7 15 kcX10_42 (by rfl : _ = ll 31) rfl rfl ?_
      refine e_lload_n 8 16 rfl rfl rfl rfl ?_
      refine e_lmul 9 17 rfl rfl ?_
      refine e_iload_n 10 18 rfl rfl rfl rfl ?_
      refine e_iconst 11 19 rfl rfl ?_
      refine e_isub 12 20 rfl rfl ?_
      refine e_i2l 13 21 rfl rfl (by unfold xr at *; omega) ?_
      refine e_ladd 14 22 rfl rfl ?_
      exact e_lreturn 15 rfl rfl (Nat.le_of_ble_eq_true rfl) (Nat.le_of_ble_eq_true rfl)
  · skip
    rw [if_pos h1]
    refine e_lload_n 2 5 rfl rfl rfl rfl ?_
    exact e_lreturn 3 rfl rfl (Nat.le_of_ble_eq_true rfl) (Nat.le_of_ble_eq_true rfl)

theorem sp_printAt {σ : xSig} {a cap : Nat} {t : List Int} (hV : VH σ a cap t) (p0 r0 : List Int) (h0 : t = p0 ++ r0) : Rd MX10_printAt [.ref a, .int (ii p0.length)] σ (.inl (some (.long (ll (psc r0 0 7))))) := by
  have hlen := hV.2.1
  have hcap := hV.2.2.1
  have h200 := hV.2.2.2.1
  have loop : ∀ (r p : List Int) (d h : Int), t = p ++ r → -(p.length : Int) ≤ d → d ≤ p.length → x_E MX10_printAt 0 0 10 [some (.ref a), some (.int (ii p0.length)), some (.long (ll h)), none, some (.int (ii d)), some (.int (ii p.length)), none] [] (St σ) 0 0 (.inl (some (.long (ll (psc r d h))))) (St σ) := by
    intro r
    induction r with
    | nil =>
      intro p d h ht hd1 hd2
      have hl : t.length = p.length := by rw [ht]; simp
      refine e_iload 6 12 rfl rfl rfl ?_
      refine e_aload_n 7 13 rfl rfl rfl rfl ?_
      refine g_getI 8 16 1 ckX10 flX10_9 rfl rfl hV.1.1 hV.1.2.2.1 rfl rfl hlen ?_
      refine e_icmp_ge 9 60 19 rfl rfl rfl (by unfold xr at *; omega) (by unfold xr at *; omega) (fun _ => ?_) (fun h9 => absurd h9 (by omega))
      refine e_lload_n 31 61 rfl rfl rfl rfl ?_
      exact e_lreturn 32 rfl rfl (Nat.le_of_ble_eq_true rfl) (Nat.le_of_ble_eq_true rfl)
    | cons x r ih =>
      intro p d h ht hd1 hd2
      have hl : t.length = p.length + r.length + 1 := by rw [ht]; simp; omega
      have hx : tok t p.length = x := by rw [ht]; exact tok_hd p x r
      have hxb := hV.bnd p.length
      rw [hx] at hxb
      have htr := trn_in x
      refine e_iload 6 12 rfl rfl rfl ?_
      refine e_aload_n 7 13 rfl rfl rfl rfl ?_
      refine g_getI 8 16 1 ckX10 flX10_9 rfl rfl hV.1.1 hV.1.2.2.1 rfl rfl hlen ?_
      refine e_icmp_ge 9 60 19 rfl rfl rfl (by unfold xr at *; omega) (by unfold xr at *; omega) (fun h9 => absurd h9 (by omega)) (fun _ => ?_)
      refine e_aload_n 10 20 rfl rfl rfl rfl ?_
      refine e_iload 11 22 rfl rfl rfl ?_
      refine g_callV 12 25 (sp_signAt hV (i := p.length) (by unfold xr; omega)) okX10_signAt cvX10_19 ⟨(Nat.le_of_ble_eq_true rfl), (Nat.le_of_ble_eq_true rfl)⟩ rfl rfl hV.1.1 hV.1.2.2.1 rfl rfl rfl rfl (Nat.le_of_ble_eq_true rfl) (Nat.le_of_ble_eq_true rfl) (Nat.le_of_ble_eq_true rfl) ?_
      rw [hx]
      refine e_istore 13 27 (ls' := [some _, some _, some _, none, some _, some _, some _]) rfl rfl (Nat.le_of_ble_eq_true rfl) rfl ?_
      refine e_aload_n 14 28 rfl rfl rfl rfl ?_
      refine e_lload_n 15 29 rfl rfl rfl rfl ?_
      refine e_iload 16 31 rfl rfl rfl ?_
      refine e_iload 17 33 rfl rfl rfl ?_
      refine g_callV 18 36 (sp_printOn hV p r ht) okX10_printOn cvX10_38 ⟨(Nat.le_of_ble_eq_true rfl), (Nat.le_of_ble_eq_true rfl)⟩ rfl rfl hV.1.1 hV.1.2.2.1 rfl rfl rfl rfl (Nat.le_of_ble_eq_true rfl) (Nat.le_of_ble_eq_true rfl) (Nat.le_of_ble_eq_true rfl) ?_
      refine e_lstore_n 19 37 (ls' := [some _, some _, some _, none, some _, some _, some _]) rfl rfl rfl (Nat.le_of_ble_eq_true rfl) rfl ?_
      refine e_iload 20 39 rfl rfl rfl ?_
      refine e_iload 21 41 rfl rfl rfl ?_
      refine g_callS 22 44 (sp_turnOf hxb) okX10_turnOf csX10_23 ⟨(Nat.le_of_ble_eq_true rfl), (Nat.le_of_ble_eq_true rfl)⟩ rfl rfl rfl rfl (Nat.le_of_ble_eq_true rfl) (Nat.le_of_ble_eq_true rfl) (Nat.le_of_ble_eq_true rfl) ?_
      refine e_iadd 23 45 rfl rfl ?_
      refine e_istore 24 47 (ls' := [some _, some _, some _, none, some _, some _, some _]) rfl rfl (Nat.le_of_ble_eq_true rfl) rfl ?_
      refine e_iload 25 49 rfl rfl rfl ?_
      refine e_if_gt 26 54 52 rfl rfl rfl (by unfold xr at *; omega) (fun h4 => ?_) (fun h4 => ?_)
      · skip
        have hn := ih (p ++ [x]) (d + trn x) (pon h x (wsc (x :: r) 0)) (by rw [ht, app_s]) (by rw [len_s]; omega) (by rw [len_s]; omega)
        rw [len_s] at hn
        rw [show psc (x :: r) d h = psc r (d + trn x) (pon h x (wsc (x :: r) 0)) by simp only [psc]; rw [if_neg (by omega)]]
        refine e_iinc 29 57 (ls' := [some _, some _, some _, none, some _, some _, some _]) rfl rfl (Nat.le_of_ble_eq_true rfl) rfl rfl ?_
        refine e_goto 30 10 rfl rfl ?_
        refine e_dropm [true, true, true, false, true, true, false] (ls' := [some _, some _, some _, none, some _, some _, none]) rfl ?_
        exact hn
      · skip
        rw [show psc (x :: r) d h = pon h x (wsc (x :: r) 0) by simp only [psc]; rw [if_pos (by omega)]]
        refine e_lload_n 27 53 rfl rfl rfl rfl ?_
        exact e_lreturn 28 rfl rfl (Nat.le_of_ble_eq_true rfl) (Nat.le_of_ble_eq_true rfl)
  refine e_entry okX10_printAt (Nat.le_of_ble_eq_true rfl) (ls := [some _, some _, none, none, none, none, none]) rfl ?_
  refine e_ldc2_w 0 3 kcX10_36 (by rfl : _ = ll 7) rfl rfl ?_
  refine e_lstore_n 1 4 (ls' := [some _, some _, some _, none, none, none, none]) rfl rfl rfl (Nat.le_of_ble_eq_true rfl) rfl ?_
  refine e_iconst 2 5 rfl rfl ?_
  refine e_istore 3 7 (ls' := [some _, some _, some _, none, some _, none, none]) rfl rfl (Nat.le_of_ble_eq_true rfl) rfl ?_
  refine e_iload_n 4 8 rfl rfl rfl rfl ?_
  refine e_istore 5 10 (ls' := [some _, some _, some _, none, some _, some _, none]) rfl rfl (Nat.le_of_ble_eq_true rfl) rfl ?_
  exact loop r0 p0 0 7 h0 (by omega) (by omega)
/-- two values are ordered sign by sign, by the first that differs -/
theorem sp_order {σ : xSig} {a cap b cap' : Nat} {t t' : List Int} (hV : VH σ a cap t) (hW : VH σ b cap' t') (p0 v s0 p1 w s1 : List Int) (h0 : t = p0 ++ v ++ s0) (h1 : t' = p1 ++ w ++ s1) (hv : Cv v) (hw : Cv w) : Rd MX10_order [.ref a, .int (ii p0.length), .ref b, .int (ii p1.length)] σ (iv (lexc v w)) := by
  have hlen := hV.2.1
  have hcap := hV.2.2.1
  have h200 := hV.2.2.2.1
  have hcap' := hW.2.2.1
  have h200' := hW.2.2.2.1
  have hlv : v.length ≤ t.length := by rw [h0]; simp; omega
  have hl0 : t.length = p0.length + v.length + s0.length := by rw [h0]; simp; omega
  have hl1 : t'.length = p1.length + w.length + s1.length := by rw [h1]; simp; omega
  have loop : ∀ (rv rw9 m : List Int), v = m ++ rv → w = m ++ rw9 → 0 < rv.length → 0 < rw9.length → x_E MX10_order 0 0 6 [some (.ref a), some (.int (ii p0.length)), some (.ref b), some (.int (ii p1.length)), some (.int (ii (dsum m))), some (.int (ii m.length)), none, none] [] (St σ) 0 0 (iv (lexc rv rw9)) (St σ) := by
    intro rv
    induction rv with
    | nil => intro rw9 m _ _ h; simp at h
    | cons x rv ih =>
      intro rw9 m hm1 hm2 _ hr
      cases rw9 with
      | nil => simp at hr
      | cons y rw9 =>
        have hml : m.length < v.length := by rw [hm1]; simp
        have hmw : m.length < w.length := by rw [hm2]; simp
        have hx : tok t ((p0.length : Int) + m.length) = x := by
          rw [h0, hm1, show (p0.length : Int) + m.length = ((p0 ++ m).length : Int) by simp, show p0 ++ (m ++ x :: rv) ++ s0 = (p0 ++ m) ++ x :: (rv ++ s0) by simp]
          exact tok_hd _ x _
        have hy : tok t' ((p1.length : Int) + m.length) = y := by
          rw [h1, hm2, show (p1.length : Int) + m.length = ((p1 ++ m).length : Int) by simp, show p1 ++ (m ++ y :: rw9) ++ s1 = (p1 ++ m) ++ y :: (rw9 ++ s1) by simp]
          exact tok_hd _ y _
        have hxb := hV.bnd ((p0.length : Int) + m.length)
        rw [hx] at hxb
        have hyb := hW.bnd ((p1.length : Int) + m.length)
        rw [hy] at hyb
        have hdb := dsum_bnd m
        have htr := trn_in x
        refine e_iload 4 8 rfl rfl rfl ?_
        refine e_aload_n 5 9 rfl rfl rfl rfl ?_
        refine g_getI 6 12 1 ckX10 flX10_9 rfl rfl hV.1.1 hV.1.2.2.1 rfl rfl hlen ?_
        refine e_icmp_ge 7 78 15 rfl rfl rfl (by unfold xr at *; omega) (by unfold xr at *; omega) (fun h9 => absurd h9 (by omega)) (fun _ => ?_)
        refine e_aload_n 8 16 rfl rfl rfl rfl ?_
        refine e_iload_n 9 17 rfl rfl rfl rfl ?_
        refine e_iload 10 19 rfl rfl rfl ?_
        refine e_iadd 11 20 rfl rfl ?_
        refine g_callV 12 23 (sp_signAt hV (i := (p0.length : Int) + m.length) (by unfold xr; omega)) okX10_signAt cvX10_19 ⟨(Nat.le_of_ble_eq_true rfl), (Nat.le_of_ble_eq_true rfl)⟩ rfl rfl hV.1.1 hV.1.2.2.1 rfl rfl rfl rfl (Nat.le_of_ble_eq_true rfl) (Nat.le_of_ble_eq_true rfl) (Nat.le_of_ble_eq_true rfl) ?_
        rw [hx]
        refine e_istore 13 25 (ls' := [some _, some _, some _, some _, some _, some _, some _, none]) rfl rfl (Nat.le_of_ble_eq_true rfl) rfl ?_
        refine e_aload_n 14 26 rfl rfl rfl rfl ?_
        refine e_iload_n 15 27 rfl rfl rfl rfl ?_
        refine e_iload 16 29 rfl rfl rfl ?_
        refine e_iadd 17 30 rfl rfl ?_
        refine g_callV 18 33 (sp_signAt hW (i := (p1.length : Int) + m.length) (by unfold xr; omega)) okX10_signAt cvX10_19 ⟨(Nat.le_of_ble_eq_true rfl), (Nat.le_of_ble_eq_true rfl)⟩ rfl rfl hW.1.1 hW.1.2.2.1 rfl rfl rfl rfl (Nat.le_of_ble_eq_true rfl) (Nat.le_of_ble_eq_true rfl) (Nat.le_of_ble_eq_true rfl) ?_
        rw [hy]
        refine e_istore 19 35 (ls' := [some _, some _, some _, some _, some _, some _, some _, some _]) rfl rfl (Nat.le_of_ble_eq_true rfl) rfl ?_
        refine e_iload 20 37 rfl rfl rfl ?_
        refine e_iload 21 39 rfl rfl rfl ?_
        refine e_icmp_eq 22 55 42 rfl rfl rfl (by unfold xr at *; omega) (by unfold xr at *; omega) (fun h => ?_) (fun h => ?_)
        · skip
          subst h
          have e1 : dsum (m ++ [x]) = dsum m + trn x := by rw [dsum_app]; simp [dsum]
          refine e_iload 30 57 rfl rfl rfl ?_
          refine e_iload 31 59 rfl rfl rfl ?_
          refine g_callS 32 62 (sp_turnOf hxb) okX10_turnOf csX10_23 ⟨(Nat.le_of_ble_eq_true rfl), (Nat.le_of_ble_eq_true rfl)⟩ rfl rfl rfl rfl (Nat.le_of_ble_eq_true rfl) (Nat.le_of_ble_eq_true rfl) (Nat.le_of_ble_eq_true rfl) ?_
          refine e_iadd 33 63 rfl rfl ?_
          refine e_istore 34 65 (ls' := [some _, some _, some _, some _, some _, some _, some _, some _]) rfl rfl (Nat.le_of_ble_eq_true rfl) rfl ?_
          refine e_iload 35 67 rfl rfl rfl ?_
          refine e_if_gt 36 72 70 rfl rfl rfl (by unfold xr at *; omega) (fun h2 => ?_) (fun h2 => ?_)
          · skip
            have hrv : 0 < rv.length := by
              cases rv with
              | nil =>
                have := hv.1
                rw [hm1, dsum_app] at this
                simp only [dsum] at this
                omega
              | cons => simp
            have hrw : 0 < rw9.length := by
              cases rw9 with
              | nil =>
                have := hw.1
                rw [hm2, dsum_app] at this
                simp only [dsum] at this
                omega
              | cons => simp
            have hn := ih rw9 (m ++ [x]) (by rw [hm1, app_s]) (by rw [hm2, app_s]) hrv hrw
            rw [len_s, e1] at hn
            rw [show lexc (x :: rv) (x :: rw9) = lexc rv rw9 by simp [lexc]]
            refine e_iinc 39 75 (ls' := [some _, some _, some _, some _, some _, some _, some _, some _]) rfl rfl (Nat.le_of_ble_eq_true rfl) rfl rfl ?_
            refine e_goto 40 6 rfl rfl ?_
            refine e_dropm [true, true, true, true, true, true, false, false] (ls' := [some _, some _, some _, some _, some _, some _, none, none]) rfl ?_
            exact hn
          · skip
            have hrv : rv = [] := by
              cases rv with
              | nil => rfl
              | cons z rv =>
                have h9 := hv.2.2 (m.length + 1) (by omega) (by rw [hm1]; simp)
                rw [hm1, app_s, show m.length + 1 = (m ++ [x]).length by simp, List.take_left, e1] at h9
                omega
            rw [hrv, show lexc [x] (x :: rw9) = 0 by simp [lexc]]
            refine e_iconst 37 71 rfl rfl ?_
            exact e_ireturn 38 rfl rfl (Nat.le_of_ble_eq_true rfl) (Nat.le_of_ble_eq_true rfl)
        · skip
          refine e_iload 23 44 rfl rfl rfl ?_
          refine e_iload 24 46 rfl rfl rfl ?_
          refine e_icmp_ge 25 53 49 rfl rfl rfl (by unfold xr at *; omega) (by unfold xr at *; omega) (fun h2 => ?_) (fun h2 => ?_)
          · skip
            rw [show lexc (x :: rv) (y :: rw9) = 1 by simp only [lexc]; rw [if_neg (by omega), if_pos (by omega)]]
            refine e_iconst 28 54 rfl rfl ?_
            exact e_ireturn 29 rfl rfl (Nat.le_of_ble_eq_true rfl) (Nat.le_of_ble_eq_true rfl)
          · skip
            rw [show lexc (x :: rv) (y :: rw9) = -1 by simp only [lexc]; rw [if_pos (by omega)]]
            refine e_iconst 26 50 rfl rfl ?_
            refine e_goto 27 54 rfl rfl ?_
            exact e_ireturn 29 rfl rfl (Nat.le_of_ble_eq_true rfl) (Nat.le_of_ble_eq_true rfl)
  refine e_entry okX10_order (Nat.le_of_ble_eq_true rfl) (ls := [some _, some _, some _, some _, none, none, none, none]) rfl ?_
  refine e_iconst 0 1 rfl rfl ?_
  refine e_istore 1 3 (ls' := [some _, some _, some _, some _, some _, none, none, none]) rfl rfl (Nat.le_of_ble_eq_true rfl) rfl ?_
  refine e_iconst 2 4 rfl rfl ?_
  refine e_istore 3 6 (ls' := [some _, some _, some _, some _, some _, some _, none, none]) rfl rfl (Nat.le_of_ble_eq_true rfl) rfl ?_
  exact loop v w [] rfl rfl hv.2.1 hw.2.1
end
section
/-! ===== Value: writing ===== -/
/-- nothing but the object of Value at a is another -/
def Fr (a : Nat) (σ σ' : xSig) : Prop := ∀ b : Nat, b ≠ a → b ≠ a + 1 → σ' b = σ b
theorem Fr.rf {a : Nat} {σ : xSig} : Fr a σ σ := fun _ _ _ => rfl
theorem Fr.tr {a : Nat} {σ σ1 σ2 : xSig} (h : Fr a σ σ1) (h2 : Fr a σ1 σ2) : Fr a σ σ2 := fun b h3 h4 => (h2 b h3 h4).trans (h b h3 h4)
theorem xu_other (σ : xSig) {a b : Nat} (j v : Int) (h : b ≠ a) : xu σ a j v b = σ b := by
  funext i
  exact xu_ne σ (Or.inl h)
theorem Fr.xu0 {a : Nat} {σ : xSig} {j v : Int} : Fr a σ (xu σ a j v) := fun _ h _ => xu_other σ j v h
theorem Fr.xu1 {a : Nat} {σ : xSig} {j v : Int} : Fr a σ (xu σ (a + 1) j v) := fun _ _ h => xu_other σ j v h
theorem VH.fr {σ σ' : xSig} {a b cap : Nat} {t : List Int} (h : VH σ b cap t) (hF : Fr a σ σ') (h1 : b ≠ a) (h2 : b ≠ a + 1) (h3 : b + 1 ≠ a) : VH σ' b cap t := by
  obtain ⟨q1, q2, q3, q4, q5, q6⟩ := h
  have e0 := hF b h1 h2
  have e1 := hF (b + 1) h3 (by omega)
  exact ⟨q1, by rw [e0]; exact q2, q3, q4, fun i hi => by rw [e1]; exact q5 i hi, fun i => by rw [e1]; exact q6 i⟩
theorem VH.same {σ σ' : xSig} {b cap : Nat} {t : List Int} (h : VH σ b cap t) (h1 : σ' b = σ b) (h2 : σ' (b + 1) = σ (b + 1)) : VH σ' b cap t := by
  obtain ⟨q1, q2, q3, q4, q5, q6⟩ := h
  exact ⟨q1, by rw [h1]; exact q2, q3, q4, fun i hi => by rw [h2]; exact q5 i hi, fun i => by rw [h2]; exact q6 i⟩
theorem VH.set {σ : xSig} {a cap : Nat} {p s : List Int} {y : Int} (x : Int) (h : VH σ a cap (p ++ y :: s)) (hx : 0 ≤ x ∧ x < 6000) : VH (xu σ (a + 1) p.length x) a cap (p ++ x :: s) := by
  obtain ⟨q1, q2, q3, q4, q5, q6⟩ := h
  refine ⟨q1, ?_, by simpa using q3, q4, fun i hi => ?_, fun i => ?_⟩
  · rw [xu_other _ _ _ (by omega)]
    rw [q2]; simp
  · by_cases hp : i = p.length
    · subst hp
      rw [xu_same, List.getD_eq_getElem?_getD, List.getElem?_append_right (Nat.le_refl _), Nat.sub_self]
      rfl
    · rw [xu_ne _ (Or.inr (by omega)), q5 i (by simpa using hi), List.getD_eq_getElem?_getD, List.getD_eq_getElem?_getD]
      by_cases hl : i < p.length
      · rw [List.getElem?_append_left hl, List.getElem?_append_left hl]
      · rw [List.getElem?_append_right (by omega), List.getElem?_append_right (by omega)]
        obtain ⟨k, hk⟩ : ∃ k, i - p.length = k + 1 := ⟨i - p.length - 1, by omega⟩
        rw [hk]
        simp
  · unfold xu
    split
    · exact hx
    · exact q6 i
theorem sp_setSign {σ : xSig} {a cap : Nat} {p s : List Int} {y x : Int} (hV : VH σ a cap (p ++ y :: s)) : x_Sp MX10_setSign 0 0 [.ref a, .int (ii p.length), .int (ii x)] (St σ) vv (St (xu σ (a + 1) p.length x)) := by
  have hlen := hV.2.1
  have hcap := hV.2.2.1
  have h200 := hV.2.2.2.1
  have hl : (p ++ y :: s).length = p.length + s.length + 1 := by simp; omega
  refine e_entry okX10_setSign (Nat.le_of_ble_eq_true rfl) (ls := [some _, some _, some _]) rfl ?_
  refine e_iload_n 0 1 rfl rfl rfl rfl ?_
  refine e_if_lt 1 28 4 rfl rfl rfl (by unfold xr at *; omega) (fun h9 => absurd h9 (by omega)) (fun _ => ?_)
  refine e_iload_n 2 5 rfl rfl rfl rfl ?_
  refine e_aload_n 3 6 rfl rfl rfl rfl ?_
  refine g_getI 4 9 1 ckX10 flX10_9 rfl rfl hV.1.1 hV.1.2.2.1 rfl rfl hlen ?_
  refine e_icmp_ge 5 28 12 rfl rfl rfl (by unfold xr at *; omega) (by unfold xr at *; omega) (fun h9 => absurd h9 (by omega)) (fun _ => ?_)
  refine e_iload_n 6 13 rfl rfl rfl rfl ?_
  refine e_aload_n 7 14 rfl rfl rfl rfl ?_
  refine g_getR 8 17 ckX10 flX10_15 rfl rfl hV.1.1 hV.1.2.2.1 rfl ?_
  refine g_alen 9 18 rfl rfl hV.1.2.1 hV.1.2.2.2 (Nat.le_of_ble_eq_true rfl) ?_
  refine e_icmp_ge 10 28 21 rfl rfl rfl (by unfold xr at *; omega) (by unfold xr at *; omega) (fun h9 => absurd h9 (by omega)) (fun _ => ?_)
  refine e_aload_n 11 22 rfl rfl rfl rfl ?_
  refine g_getR 12 25 ckX10 flX10_15 rfl rfl hV.1.1 hV.1.2.2.1 rfl ?_
  refine e_iload_n 13 26 rfl rfl rfl rfl ?_
  refine e_iload_n 14 27 rfl rfl rfl rfl ?_
  refine g_iastore 15 28 rfl rfl hV.1.2.1 hV.1.2.2.2 (by omega) (by omega) (by omega) ?_
  exact e_return 16 rfl rfl (Nat.le_of_ble_eq_true rfl) (Nat.le_of_ble_eq_true rfl)
theorem sp_makeRoom {σ : xSig} {a cap : Nat} {p m s : List Int} {n : Nat} (hV : VH σ a cap (p ++ m ++ s)) (hn : p.length + n + s.length ≤ cap) :
    ∃ (σ' : xSig) (g : List Int), x_Sp MX10_makeRoom 0 0 [.ref a, .int (ii p.length), .int (ii ((p.length : Int) + m.length)), .int (ii n)] (St σ) vv (St σ') ∧ g.length = n ∧ VH σ' a cap (p ++ g ++ s) ∧ Fr a σ σ' := by
  have hV0 := hV
  obtain ⟨q1, hlen, hcap, h200, q5, q6⟩ := hV0
  have hl : (p ++ m ++ s).length = p.length + m.length + s.length := by simp; omega
  refine ⟨xu (xcp σ (a + 1) ((p.length : Int) + m.length) ((p.length : Int) + n) (((p ++ m ++ s).length : Int) - ((p.length : Int) + m.length))) a 1 (((p ++ m ++ s).length : Int) - ((p.length : Int) + m.length - p.length) + n), (List.range n).map (fun k => σ (a + 1) ((p.length + k : Nat) : Int)), ?_, by simp, ⟨q1, ?_, ?_, h200, fun i hi => ?_, fun i => ?_⟩, fun b h1 h2 => ?_⟩
  · skip
    refine e_entry okX10_makeRoom (Nat.le_of_ble_eq_true rfl) (ls := [some _, some _, some _, some _, none]) rfl ?_
    refine e_aload_n 0 1 rfl rfl rfl rfl ?_
    refine g_getI 1 4 1 ckX10 flX10_9 rfl rfl hV.1.1 hV.1.2.2.1 rfl rfl hlen ?_
    refine e_iload_n 2 5 rfl rfl rfl rfl ?_
    refine e_iload_n 3 6 rfl rfl rfl rfl ?_
    refine e_isub 4 7 rfl rfl ?_
    refine e_isub 5 8 rfl rfl ?_
    refine e_iload_n 6 9 rfl rfl rfl rfl ?_
    refine e_iadd 7 10 rfl rfl ?_
    refine e_istore 8 12 (ls' := [some _, some _, some _, some _, some _]) rfl rfl (Nat.le_of_ble_eq_true rfl) rfl ?_
    refine e_iload_n 9 13 rfl rfl rfl rfl ?_
    refine e_if_lt 10 55 16 rfl rfl rfl (by unfold xr at *; omega) (fun h9 => absurd h9 (by omega)) (fun _ => ?_)
    refine e_iload_n 11 17 rfl rfl rfl rfl ?_
    refine e_iload_n 12 18 rfl rfl rfl rfl ?_
    refine e_icmp_lt 13 55 21 rfl rfl rfl (by unfold xr at *; omega) (by unfold xr at *; omega) (fun h9 => absurd h9 (by omega)) (fun _ => ?_)
    refine e_iload_n 14 22 rfl rfl rfl rfl ?_
    refine e_aload_n 15 23 rfl rfl rfl rfl ?_
    refine g_getI 16 26 1 ckX10 flX10_9 rfl rfl hV.1.1 hV.1.2.2.1 rfl rfl hlen ?_
    refine e_icmp_gt 17 55 29 rfl rfl rfl (by unfold xr at *; omega) (by unfold xr at *; omega) (fun h9 => absurd h9 (by omega)) (fun _ => ?_)
    refine e_aload_n 18 30 rfl rfl rfl rfl ?_
    refine g_getI 19 33 1 ckX10 flX10_9 rfl rfl hV.1.1 hV.1.2.2.1 rfl rfl hlen ?_
    refine e_aload_n 20 34 rfl rfl rfl rfl ?_
    refine g_getR 21 37 ckX10 flX10_15 rfl rfl hV.1.1 hV.1.2.2.1 rfl ?_
    refine g_alen 22 38 rfl rfl hV.1.2.1 hV.1.2.2.2 (Nat.le_of_ble_eq_true rfl) ?_
    refine e_icmp_gt 23 55 41 rfl rfl rfl (by unfold xr at *; omega) (by unfold xr at *; omega) (fun h9 => absurd h9 (by omega)) (fun _ => ?_)
    refine e_iload_n 24 42 rfl rfl rfl rfl ?_
    refine e_if_lt 25 55 45 rfl rfl rfl (by unfold xr at *; omega) (fun h9 => absurd h9 (by omega)) (fun _ => ?_)
    refine e_iload 26 47 rfl rfl rfl ?_
    refine e_aload_n 27 48 rfl rfl rfl rfl ?_
    refine g_getR 28 51 ckX10 flX10_15 rfl rfl hV.1.1 hV.1.2.2.1 rfl ?_
    refine g_alen 29 52 rfl rfl hV.1.2.1 hV.1.2.2.2 (Nat.le_of_ble_eq_true rfl) ?_
    refine e_icmp_le 30 56 55 rfl rfl rfl (by unfold xr at *; omega) (by unfold xr at *; omega) (fun _ => ?_) (fun h9 => absurd h9 (by omega))
    refine e_aload_n 32 57 rfl rfl rfl rfl ?_
    refine g_getR 33 60 ckX10 flX10_15 rfl rfl hV.1.1 hV.1.2.2.1 rfl ?_
    refine e_iload_n 34 61 rfl rfl rfl rfl ?_
    refine e_aload_n 35 62 rfl rfl rfl rfl ?_
    refine g_getR 36 65 ckX10 flX10_15 rfl rfl hV.1.1 hV.1.2.2.1 rfl ?_
    refine e_iload_n 37 66 rfl rfl rfl rfl ?_
    refine e_iload_n 38 67 rfl rfl rfl rfl ?_
    refine e_iadd 39 68 rfl rfl ?_
    refine e_aload_n 40 69 rfl rfl rfl rfl ?_
    refine g_getI 41 72 1 ckX10 flX10_9 rfl rfl hV.1.1 hV.1.2.2.1 rfl rfl hlen ?_
    refine e_iload_n 42 73 rfl rfl rfl rfl ?_
    refine e_isub 43 74 rfl rfl ?_
    refine g_acopy 44 77 rfl rfl acX10_71 (Nat.le_of_ble_eq_true rfl) (Nat.le_of_ble_eq_true rfl) (Nat.le_of_ble_eq_true rfl) hV.1.2.1 hV.1.2.2.2 (by omega) (by omega) (by omega) (by omega) (by omega) (by omega) ?_
    refine e_aload_n 45 78 rfl rfl rfl rfl ?_
    refine e_iload 46 80 rfl rfl rfl ?_
    refine g_putI 47 83 1 ckX10 flX10_9 rfl rfl hV.1.1 hV.1.2.2.1 rfl rfl ?_
    exact e_return 48 rfl rfl (Nat.le_of_ble_eq_true rfl) (Nat.le_of_ble_eq_true rfl)
  · rw [xu_same]
    simp only [List.length_append, List.length_map, List.length_range]
    omega
  · simp only [List.length_append, List.length_map, List.length_range]
    omega
  · simp only [List.length_append, List.length_map, List.length_range] at hi
    rw [xu_other _ _ _ (by omega)]
    unfold xcp
    rw [List.getD_eq_getElem?_getD]
    by_cases c1 : i < p.length
    · rw [if_neg (fun q => by omega), q5 i (by omega), List.getD_eq_getElem?_getD, List.append_assoc, List.append_assoc, List.getElem?_append_left c1, List.getElem?_append_left c1]
    · by_cases c2 : i < p.length + n
      · rw [if_neg (fun q => by omega), List.append_assoc, List.getElem?_append_right (by omega), List.getElem?_append_left (by simp; omega), List.getElem?_map, List.getElem?_range (by omega)]
        show _ = σ (a + 1) ((p.length + (i - p.length) : Nat) : Int)
        congr 1
        omega
      · rw [if_pos ⟨rfl, by omega, by rw [hl]; omega⟩, show ((p.length : Int) + m.length + ((i : Int) - (p.length + n))) = ((i + m.length - n : Nat) : Int) by omega, q5 _ (by omega), List.getD_eq_getElem?_getD, List.getElem?_append_right (by simp; omega), List.getElem?_append_right (by simp; omega)]
        congr 2
        simp only [List.length_append, List.length_map, List.length_range]
        omega
  · rw [xu_other _ _ _ (by omega)]
    unfold xcp
    split
    · exact q6 _
    · exact q6 _
  · rw [xu_other _ _ _ h1]
    funext i
    unfold xcp
    rw [if_neg (fun q => h2 q.1)]
theorem sp_takeOut {σ : xSig} {a cap : Nat} {p m s : List Int} (hV : VH σ a cap (p ++ m ++ s)) :
    ∃ σ' : xSig, x_Sp MX10_takeOut 0 0 [.ref a, .int (ii p.length), .int (ii ((p.length : Int) + m.length))] (St σ) vv (St σ') ∧ VH σ' a cap (p ++ s) ∧ Fr a σ σ' := by
  have hcap := hV.2.2.1
  have hl : (p ++ m ++ s).length = p.length + m.length + s.length := by simp; omega
  obtain ⟨σ', g, h1, h2, h3, h4⟩ := sp_makeRoom (n := 0) hV (by omega)
  have hg : g = [] := List.length_eq_zero_iff.mp h2
  rw [hg, List.append_nil] at h3
  refine ⟨σ', ?_, h3, h4⟩
  refine e_entry okX10_takeOut (Nat.le_of_ble_eq_true rfl) (ls := [some _, some _, some _]) rfl ?_
  refine e_aload_n 0 1 rfl rfl rfl rfl ?_
  refine e_iload_n 1 2 rfl rfl rfl rfl ?_
  refine e_iload_n 2 3 rfl rfl rfl rfl ?_
  refine e_iconst 3 4 rfl rfl ?_
  refine g_callV 4 7 (h1) okX10_makeRoom cvX10_64 ⟨(Nat.le_of_ble_eq_true rfl), (Nat.le_of_ble_eq_true rfl)⟩ rfl rfl hV.1.1 hV.1.2.2.1 rfl rfl rfl rfl (Nat.le_of_ble_eq_true rfl) (Nat.le_of_ble_eq_true rfl) (Nat.le_of_ble_eq_true rfl) ?_
  exact e_return 5 rfl rfl (Nat.le_of_ble_eq_true rfl) (Nat.le_of_ble_eq_true rfl)
theorem sp_putSign {σ : xSig} {a cap : Nat} {p s : List Int} {x : Int} (hV : VH σ a cap (p ++ s)) (hx : 0 ≤ x ∧ x < 6000) (hn : p.length + 1 + s.length ≤ cap) :
    ∃ σ' : xSig, x_Sp MX10_putSign 0 0 [.ref a, .int (ii p.length), .int (ii x)] (St σ) vv (St σ') ∧ VH σ' a cap (p ++ x :: s) ∧ Fr a σ σ' := by
  obtain ⟨σ1, g, h1, h2, h3, h4⟩ := sp_makeRoom (m := []) (n := 1) (by rw [List.append_nil]; exact hV) hn
  obtain ⟨y, rfl⟩ := List.length_eq_one_iff.mp h2
  have h3' : VH σ1 a cap (p ++ y :: s) := by simpa using h3
  have h5 := sp_setSign (x := x) h3'
  refine ⟨_, ?_, h3'.set x hx, h4.tr Fr.xu1⟩
  rw [show (p.length : Int) + ([] : List Int).length = p.length by simp] at h1
  refine e_entry okX10_putSign (Nat.le_of_ble_eq_true rfl) (ls := [some _, some _, some _]) rfl ?_
  refine e_aload_n 0 1 rfl rfl rfl rfl ?_
  refine e_iload_n 1 2 rfl rfl rfl rfl ?_
  refine e_iload_n 2 3 rfl rfl rfl rfl ?_
  refine e_iconst 3 4 rfl rfl ?_
  refine g_callV 4 7 (h1) okX10_makeRoom cvX10_64 ⟨(Nat.le_of_ble_eq_true rfl), (Nat.le_of_ble_eq_true rfl)⟩ rfl rfl hV.1.1 hV.1.2.2.1 rfl rfl rfl rfl (Nat.le_of_ble_eq_true rfl) (Nat.le_of_ble_eq_true rfl) (Nat.le_of_ble_eq_true rfl) ?_
  refine e_aload_n 5 8 rfl rfl rfl rfl ?_
  refine e_iload_n 6 9 rfl rfl rfl rfl ?_
  refine e_iload_n 7 10 rfl rfl rfl rfl ?_
  refine g_callV 8 13 (h5) okX10_setSign cvX10_68 ⟨(Nat.le_of_ble_eq_true rfl), (Nat.le_of_ble_eq_true rfl)⟩ rfl rfl hV.1.1 hV.1.2.2.1 rfl rfl rfl rfl (Nat.le_of_ble_eq_true rfl) (Nat.le_of_ble_eq_true rfl) (Nat.le_of_ble_eq_true rfl) ?_
  exact e_return 9 rfl rfl (Nat.le_of_ble_eq_true rfl) (Nat.le_of_ble_eq_true rfl)
theorem sp_putValue {σ : xSig} {a cap b cap' : Nat} {p m s w : List Int} (hV : VH σ a cap (p ++ m ++ s)) (hW : VH σ b cap' w) (hn : p.length + w.length + s.length ≤ cap) (hb1 : b ≠ a) (hb2 : b ≠ a + 1) (hb3 : b + 1 ≠ a) :
    ∃ σ' : xSig, x_Sp MX10_putValue 0 0 [.ref a, .int (ii p.length), .int (ii ((p.length : Int) + m.length)), .ref b] (St σ) vv (St σ') ∧ VH σ' a cap (p ++ w ++ s) ∧ Fr a σ σ' := by
  have hcap := hV.2.2.1
  have h200 := hV.2.2.2.1
  have hl : (p ++ m ++ s).length = p.length + m.length + s.length := by simp; omega
  have hlw := hW.2.1
  have hcw := hW.2.2.1
  have h2w := hW.2.2.2.1
  obtain ⟨σ1, g, h1, h2, h3, h4⟩ := sp_makeRoom (n := w.length) hV hn
  have loop : ∀ (r u g' : List Int) (σ2 : xSig), w = u ++ r → g'.length = r.length → VH σ2 a cap (p ++ u ++ g' ++ s) → Fr a σ σ2 → ∃ σ' : xSig, x_E MX10_putValue 0 0 13 [some (.ref a), some (.int (ii p.length)), some (.int (ii ((p.length : Int) + m.length))), some (.ref b), some (.int (ii u.length))] [] (St σ2) 0 0 vv (St σ') ∧ VH σ' a cap (p ++ w ++ s) ∧ Fr a σ σ' := by
    intro r
    induction r with
    | nil =>
      intro u g' σ2 hu hg hV2 hF
      have hW2 := hW.fr hF hb1 hb2 hb3
      have hl2 := hW2.2.1
      have hlu : w.length = u.length := by rw [hu]; simp
      have e : g' = [] := List.length_eq_zero_iff.mp hg
      refine ⟨σ2, ?_, ?_, hF⟩
      · skip
        refine e_iload 8 15 rfl rfl rfl ?_
        refine e_aload_n 9 16 rfl rfl rfl rfl ?_
        refine g_getI 10 19 1 ckX10 flX10_9 rfl rfl hW.1.1 hW.1.2.2.1 rfl rfl hl2 ?_
        refine e_icmp_ge 11 42 22 rfl rfl rfl (by unfold xr at *; omega) (by unfold xr at *; omega) (fun _ => ?_) (fun h9 => absurd h9 (by omega))
        exact e_return 22 rfl rfl (Nat.le_of_ble_eq_true rfl) (Nat.le_of_ble_eq_true rfl)
      · rw [hu]
        rw [e] at hV2
        simpa using hV2
    | cons x r ih =>
      intro u g' σ2 hu hg hV2 hF
      have hW2 := hW.fr hF hb1 hb2 hb3
      have hl2 := hW2.2.1
      have hlu : w.length = u.length + r.length + 1 := by rw [hu]; simp; omega
      cases g' with
      | nil => simp at hg
      | cons y g' =>
        have hx : tok w u.length = x := by rw [hu]; exact tok_hd u x r
        have hxb := hW2.bnd u.length
        rw [hx] at hxb
        have hV3 : VH σ2 a cap ((p ++ u) ++ y :: (g' ++ s)) := by simpa using hV2
        have h5 := sp_setSign (x := x) hV3
        obtain ⟨σ', k1, k2, k3⟩ := ih (u ++ [x]) g' (xu σ2 (a + 1) ((p ++ u).length : Nat) x) (by rw [hu, app_s]) (by simpa using hg) (by have := hV3.set x hxb; simpa using this) (hF.tr Fr.xu1)
        refine ⟨σ', ?_, k2, k3⟩
        rw [len_s] at k1
        rw [show (((p ++ u).length : Nat) : Int) = (p.length : Int) + u.length by simp] at h5 k1
        refine e_iload 8 15 rfl rfl rfl ?_
        refine e_aload_n 9 16 rfl rfl rfl rfl ?_
        refine g_getI 10 19 1 ckX10 flX10_9 rfl rfl hW.1.1 hW.1.2.2.1 rfl rfl hl2 ?_
        refine e_icmp_ge 11 42 22 rfl rfl rfl (by unfold xr at *; omega) (by unfold xr at *; omega) (fun h9 => absurd h9 (by omega)) (fun _ => ?_)
        refine e_aload_n 12 23 rfl rfl rfl rfl ?_
        refine e_iload_n 13 24 rfl rfl rfl rfl ?_
        refine e_iload 14 26 rfl rfl rfl ?_
        refine e_iadd 15 27 rfl rfl ?_
        refine e_aload_n 16 28 rfl rfl rfl rfl ?_
        refine e_iload 17 30 rfl rfl rfl ?_
        refine g_callV 18 33 (sp_signAt hW2 (i := u.length) (by unfold xr; omega)) okX10_signAt cvX10_19 ⟨(Nat.le_of_ble_eq_true rfl), (Nat.le_of_ble_eq_true rfl)⟩ rfl rfl hW.1.1 hW.1.2.2.1 rfl rfl rfl rfl (Nat.le_of_ble_eq_true rfl) (Nat.le_of_ble_eq_true rfl) (Nat.le_of_ble_eq_true rfl) ?_
        rw [hx]
        refine g_callV 19 36 (h5) okX10_setSign cvX10_68 ⟨(Nat.le_of_ble_eq_true rfl), (Nat.le_of_ble_eq_true rfl)⟩ rfl rfl hV.1.1 hV.1.2.2.1 rfl rfl rfl rfl (Nat.le_of_ble_eq_true rfl) (Nat.le_of_ble_eq_true rfl) (Nat.le_of_ble_eq_true rfl) ?_
        refine e_iinc 20 39 (ls' := [some _, some _, some _, some _, some _]) rfl rfl (Nat.le_of_ble_eq_true rfl) rfl rfl ?_
        refine e_goto 21 13 rfl rfl ?_
        exact k1
  obtain ⟨σ', k1, k2, k3⟩ := loop w [] g σ1 rfl h2 (by simpa using h3) h4
  refine ⟨σ', ?_, k2, k3⟩
  refine e_entry okX10_putValue (Nat.le_of_ble_eq_true rfl) (ls := [some _, some _, some _, some _, none]) rfl ?_
  refine e_aload_n 0 1 rfl rfl rfl rfl ?_
  refine e_iload_n 1 2 rfl rfl rfl rfl ?_
  refine e_iload_n 2 3 rfl rfl rfl rfl ?_
  refine e_aload_n 3 4 rfl rfl rfl rfl ?_
  refine g_getI 4 7 1 ckX10 flX10_9 rfl rfl hW.1.1 hW.1.2.2.1 rfl rfl hlw ?_
  refine g_callV 5 10 (h1) okX10_makeRoom cvX10_64 ⟨(Nat.le_of_ble_eq_true rfl), (Nat.le_of_ble_eq_true rfl)⟩ rfl rfl hV.1.1 hV.1.2.2.1 rfl rfl rfl rfl (Nat.le_of_ble_eq_true rfl) (Nat.le_of_ble_eq_true rfl) (Nat.le_of_ble_eq_true rfl) ?_
  refine e_iconst 6 11 rfl rfl ?_
  refine e_istore 7 13 (ls' := [some _, some _, some _, some _, some _]) rfl rfl (Nat.le_of_ble_eq_true rfl) rfl ?_
  exact k1
theorem VH.nil {σ : xSig} {a cap : Nat} {t : List Int} (h : VH σ a cap t) : VH (xu σ a 1 0) a cap [] := by
  obtain ⟨q1, q2, q3, q4, q5, q6⟩ := h
  refine ⟨q1, by rw [xu_same]; rfl, Nat.zero_le _, q4, fun i hi => by simp at hi, fun i => ?_⟩
  rw [xu_other _ _ _ (by omega)]
  exact q6 i
theorem sp_becomeI {σ : xSig} {a cap : Nat} {t : List Int} (hV : VH σ a cap t) {x : Int} (hx : 0 ≤ x ∧ x < 6000) (hc : 2 ≤ cap) :
    ∃ σ' : xSig, x_Sp MX10_become 0 0 [.ref a, .int (ii x)] (St σ) vv (St σ') ∧ VH σ' a cap (if 4000 ≤ x then [x, 0] else [x]) ∧ Fr a σ σ' := by
  obtain ⟨σ1, h1, h2, h3⟩ := sp_putSign (p := []) (s := []) hV.nil hx (by simp; omega)
  by_cases hc4 : 4000 ≤ x
  · obtain ⟨σ2, k1, k2, k3⟩ := sp_putSign (p := [x]) (s := []) (x := 0) h2 (by omega) (by simp; omega)
    refine ⟨σ2, ?_, by rw [if_pos hc4]; exact k2, (Fr.xu0.tr h3).tr k3⟩
    refine e_entry okX10_become (Nat.le_of_ble_eq_true rfl) (ls := [some _, some _]) rfl ?_
    refine e_aload_n 0 1 rfl rfl rfl rfl ?_
    refine e_iconst 1 2 rfl rfl ?_
    refine g_putI 2 5 1 ckX10 flX10_9 rfl rfl hV.1.1 hV.1.2.2.1 rfl rfl ?_
    refine e_aload_n 3 6 rfl rfl rfl rfl ?_
    refine e_iconst 4 7 rfl rfl ?_
    refine e_iload_n 5 8 rfl rfl rfl rfl ?_
    refine g_callV 6 11 (h1) okX10_putSign cvX10_56 ⟨(Nat.le_of_ble_eq_true rfl), (Nat.le_of_ble_eq_true rfl)⟩ rfl rfl hV.1.1 hV.1.2.2.1 rfl rfl rfl rfl (Nat.le_of_ble_eq_true rfl) (Nat.le_of_ble_eq_true rfl) (Nat.le_of_ble_eq_true rfl) ?_
    refine e_iload_n 7 12 rfl rfl rfl rfl ?_
    refine e_sipush 8 15 rfl rfl rfl ?_
    refine e_icmp_lt 9 24 18 rfl rfl rfl (by unfold xr at *; omega) (by unfold xr at *; omega) (fun h9 => absurd h9 (by omega)) (fun _ => ?_)
    refine e_aload_n 10 19 rfl rfl rfl rfl ?_
    refine e_iconst 11 20 rfl rfl ?_
    refine e_iconst 12 21 rfl rfl ?_
    refine g_callV 13 24 (k1) okX10_putSign cvX10_56 ⟨(Nat.le_of_ble_eq_true rfl), (Nat.le_of_ble_eq_true rfl)⟩ rfl rfl hV.1.1 hV.1.2.2.1 rfl rfl rfl rfl (Nat.le_of_ble_eq_true rfl) (Nat.le_of_ble_eq_true rfl) (Nat.le_of_ble_eq_true rfl) ?_
    exact e_return 14 rfl rfl (Nat.le_of_ble_eq_true rfl) (Nat.le_of_ble_eq_true rfl)
  · refine ⟨σ1, ?_, by rw [if_neg hc4]; exact h2, Fr.xu0.tr h3⟩
    refine e_entry okX10_become (Nat.le_of_ble_eq_true rfl) (ls := [some _, some _]) rfl ?_
    refine e_aload_n 0 1 rfl rfl rfl rfl ?_
    refine e_iconst 1 2 rfl rfl ?_
    refine g_putI 2 5 1 ckX10 flX10_9 rfl rfl hV.1.1 hV.1.2.2.1 rfl rfl ?_
    refine e_aload_n 3 6 rfl rfl rfl rfl ?_
    refine e_iconst 4 7 rfl rfl ?_
    refine e_iload_n 5 8 rfl rfl rfl rfl ?_
    refine g_callV 6 11 (h1) okX10_putSign cvX10_56 ⟨(Nat.le_of_ble_eq_true rfl), (Nat.le_of_ble_eq_true rfl)⟩ rfl rfl hV.1.1 hV.1.2.2.1 rfl rfl rfl rfl (Nat.le_of_ble_eq_true rfl) (Nat.le_of_ble_eq_true rfl) (Nat.le_of_ble_eq_true rfl) ?_
    refine e_iload_n 7 12 rfl rfl rfl rfl ?_
    refine e_sipush 8 15 rfl rfl rfl ?_
    refine e_icmp_lt 9 24 18 rfl rfl rfl (by unfold xr at *; omega) (by unfold xr at *; omega) (fun _ => ?_) (fun h9 => absurd h9 (by omega))
    exact e_return 14 rfl rfl (Nat.le_of_ble_eq_true rfl) (Nat.le_of_ble_eq_true rfl)
theorem sp_becomeV {σ : xSig} {a cap b cap' : Nat} {t w : List Int} (hV : VH σ a cap t) (hW : VH σ b cap' w) (hn : w.length ≤ cap) (hb1 : b ≠ a) (hb2 : b ≠ a + 1) (hb3 : b + 1 ≠ a) :
    ∃ σ' : xSig, x_Sp MX10_become_ 0 0 [.ref a, .ref b] (St σ) vv (St σ') ∧ VH σ' a cap w ∧ Fr a σ σ' := by
  obtain ⟨σ1, h1, h2, h3⟩ := sp_putValue (p := []) (m := []) (s := []) hV.nil (hW.fr Fr.xu0 hb1 hb2 hb3) (by simpa using hn) hb1 hb2 hb3
  refine ⟨σ1, ?_, by simpa using h2, Fr.xu0.tr h3⟩
  refine e_entry okX10_become_ (Nat.le_of_ble_eq_true rfl) (ls := [some _, some _]) rfl ?_
  refine e_aload_n 0 1 rfl rfl rfl rfl ?_
  refine e_iconst 1 2 rfl rfl ?_
  refine g_putI 2 5 1 ckX10 flX10_9 rfl rfl hV.1.1 hV.1.2.2.1 rfl rfl ?_
  refine e_aload_n 3 6 rfl rfl rfl rfl ?_
  refine e_iconst 4 7 rfl rfl ?_
  refine e_iconst 5 8 rfl rfl ?_
  refine e_aload_n 6 9 rfl rfl rfl rfl ?_
  refine g_callV 7 12 (h1) okX10_putValue cvX10_60 ⟨(Nat.le_of_ble_eq_true rfl), (Nat.le_of_ble_eq_true rfl)⟩ rfl rfl hV.1.1 hV.1.2.2.1 rfl rfl rfl rfl (Nat.le_of_ble_eq_true rfl) (Nat.le_of_ble_eq_true rfl) (Nat.le_of_ble_eq_true rfl) ?_
  exact e_return 8 rfl rfl (Nat.le_of_ble_eq_true rfl) (Nat.le_of_ble_eq_true rfl)
theorem sp_putBehind {σ : xSig} {a cap b cap' : Nat} {p r s w : List Int} (hV : VH σ a cap (p ++ r ++ 0 :: s)) (hr : vsc (r ++ 0 :: s) 0 = r.length + 1) (hW : VH σ b cap' w) (hn : p.length + r.length + w.length + s.length + 1 ≤ cap) (hb1 : b ≠ a) (hb2 : b ≠ a + 1) (hb3 : b + 1 ≠ a) :
    ∃ σ' : xSig, x_Sp MX10_putBehind 0 0 [.ref a, .int (ii p.length), .ref b] (St σ) vv (St σ') ∧ VH σ' a cap (p ++ r ++ w ++ 0 :: s) ∧ Fr a σ σ' := by
  have hcap := hV.2.2.1
  have h200 := hV.2.2.2.1
  have hl : (p ++ r ++ 0 :: s).length = p.length + r.length + s.length + 1 := by simp; omega
  obtain ⟨σ1, h1, h2, h3⟩ := sp_putValue (p := p ++ r) (m := []) (s := 0 :: s) (by rw [List.append_nil]; exact hV) hW (by simp; omega) hb1 hb2 hb3
  refine ⟨σ1, ?_, h2, h3⟩
  have he := sp_endOf hV p (r ++ 0 :: s) (by simp)
  rw [hr] at he
  rw [show ((p ++ r).length : Int) + ([] : List Int).length = (p.length : Int) + r.length by simp, show (((p ++ r).length : Nat) : Int) = (p.length : Int) + r.length by simp] at h1
  refine e_entry okX10_putBehind (Nat.le_of_ble_eq_true rfl) (ls := [some _, some _, some _, none]) rfl ?_
  refine e_aload_n 0 1 rfl rfl rfl rfl ?_
  refine e_iload_n 1 2 rfl rfl rfl rfl ?_
  refine g_callV 2 5 (he) okX10_endOf cvX10_29 ⟨(Nat.le_of_ble_eq_true rfl), (Nat.le_of_ble_eq_true rfl)⟩ rfl rfl hV.1.1 hV.1.2.2.1 rfl rfl rfl rfl (Nat.le_of_ble_eq_true rfl) (Nat.le_of_ble_eq_true rfl) (Nat.le_of_ble_eq_true rfl) ?_
  refine e_iconst 3 6 rfl rfl ?_
  refine e_isub 4 7 rfl rfl ?_
  refine e_istore_n 5 8 (ls' := [some _, some _, some _, some _]) rfl rfl rfl (Nat.le_of_ble_eq_true rfl) rfl ?_
  refine e_aload_n 6 9 rfl rfl rfl rfl ?_
  refine e_iload_n 7 10 rfl rfl rfl rfl ?_
  refine e_iload_n 8 11 rfl rfl rfl rfl ?_
  refine e_aload_n 9 12 rfl rfl rfl rfl ?_
  rw [show (p.length : Int) + ((r.length + 1 : Nat) : Int) - 1 = (p.length : Int) + r.length by omega]
  refine g_callV 10 15 (h1) okX10_putValue cvX10_60 ⟨(Nat.le_of_ble_eq_true rfl), (Nat.le_of_ble_eq_true rfl)⟩ rfl rfl hV.1.1 hV.1.2.2.1 rfl rfl rfl rfl (Nat.le_of_ble_eq_true rfl) (Nat.le_of_ble_eq_true rfl) (Nat.le_of_ble_eq_true rfl) ?_
  exact e_return 11 rfl rfl (Nat.le_of_ble_eq_true rfl) (Nat.le_of_ble_eq_true rfl)
theorem sp_setField_has {σ : xSig} {a cap b cap' : Nat} {p0 ra v rc w : List Int} {f : Int} (hf : 0 ≤ f ∧ f < 8) (hp0 : 0 < p0.length) (hV : VH σ a cap (p0 ++ ra ++ (1 + f) :: v ++ rc)) (hk : ssc (ra ++ (1 + f) :: v ++ rc) f 0 = ra.length) (hv : vsc (v ++ rc) 0 = v.length) (hW : VH σ b cap' w) (hn : p0.length + ra.length + w.length + rc.length + 1 ≤ cap) (hb1 : b ≠ a) (hb2 : b ≠ a + 1) (hb3 : b + 1 ≠ a) :
    ∃ σ' : xSig, x_Sp MX10_setField 0 0 [.ref a, .int (ii (p0.length - 1)), .int (ii f), .ref b] (St σ) vv (St σ') ∧ VH σ' a cap (p0 ++ ra ++ (1 + f) :: w ++ rc) ∧ Fr a σ σ' := by
  have hcap := hV.2.2.1
  have h200 := hV.2.2.2.1
  have hl : (p0 ++ ra ++ (1 + f) :: v ++ rc).length = p0.length + ra.length + v.length + rc.length + 1 := by simp; omega
  have hs := sp_slotOf hV hf p0 (ra ++ (1 + f) :: v ++ rc) (by simp) hp0
  rw [hk] at hs
  have hx : tok (p0 ++ ra ++ (1 + f) :: v ++ rc) ((p0.length : Int) + ra.length) = 1 + f := by
    rw [show (p0.length : Int) + ra.length = ((p0 ++ ra).length : Int) by simp, show p0 ++ ra ++ (1 + f) :: v ++ rc = (p0 ++ ra) ++ (1 + f) :: (v ++ rc) by simp]
    exact tok_hd _ _ _
  have he := sp_endOf hV (p0 ++ ra ++ [1 + f]) (v ++ rc) (by simp)
  rw [hv] at he
  obtain ⟨σ1, h1, h2, h3⟩ := sp_putValue (p := p0 ++ ra ++ [1 + f]) (m := v) (s := rc) (by simpa using hV) hW (by simp; omega) hb1 hb2 hb3
  have e9 : (((p0 ++ ra ++ [1 + f]).length : Nat) : Int) = (p0.length : Int) + ra.length + 1 := by simp; omega
  rw [e9] at he h1
  refine ⟨σ1, ?_, by simpa using h2, h3⟩
  refine e_entry okX10_setField (Nat.le_of_ble_eq_true rfl) (ls := [some _, some _, some _, some _, none]) rfl ?_
  refine e_aload_n 0 1 rfl rfl rfl rfl ?_
  refine e_iload_n 1 2 rfl rfl rfl rfl ?_
  refine e_iload_n 2 3 rfl rfl rfl rfl ?_
  refine g_callV 3 6 (hs) okX10_slotOf cvX10_32 ⟨(Nat.le_of_ble_eq_true rfl), (Nat.le_of_ble_eq_true rfl)⟩ rfl rfl hV.1.1 hV.1.2.2.1 rfl rfl rfl rfl (Nat.le_of_ble_eq_true rfl) (Nat.le_of_ble_eq_true rfl) (Nat.le_of_ble_eq_true rfl) ?_
  refine e_istore 4 8 (ls' := [some _, some _, some _, some _, some _]) rfl rfl (Nat.le_of_ble_eq_true rfl) rfl ?_
  refine e_aload_n 5 9 rfl rfl rfl rfl ?_
  refine e_iload 6 11 rfl rfl rfl ?_
  refine g_callV 7 14 (sp_signAt hV (i := (p0.length : Int) + ra.length) (by unfold xr; omega)) okX10_signAt cvX10_19 ⟨(Nat.le_of_ble_eq_true rfl), (Nat.le_of_ble_eq_true rfl)⟩ rfl rfl hV.1.1 hV.1.2.2.1 rfl rfl rfl rfl (Nat.le_of_ble_eq_true rfl) (Nat.le_of_ble_eq_true rfl) (Nat.le_of_ble_eq_true rfl) ?_
  rw [hx]
  refine e_iconst 8 15 rfl rfl ?_
  refine e_iload_n 9 16 rfl rfl rfl rfl ?_
  refine e_iadd 10 17 rfl rfl ?_
  refine e_icmp_ne 11 40 20 rfl rfl rfl (by unfold xr at *; omega) (by unfold xr at *; omega) (fun h9 => absurd h9 (by omega)) (fun _ => ?_)
  refine e_aload_n 12 21 rfl rfl rfl rfl ?_
  refine e_iload 13 23 rfl rfl rfl ?_
  refine e_iconst 14 24 rfl rfl ?_
  refine e_iadd 15 25 rfl rfl ?_
  refine e_aload_n 16 26 rfl rfl rfl rfl ?_
  refine e_iload 17 28 rfl rfl rfl ?_
  refine e_iconst 18 29 rfl rfl ?_
  refine e_iadd 19 30 rfl rfl ?_
  refine g_callV 20 33 (he) okX10_endOf cvX10_29 ⟨(Nat.le_of_ble_eq_true rfl), (Nat.le_of_ble_eq_true rfl)⟩ rfl rfl hV.1.1 hV.1.2.2.1 rfl rfl rfl rfl (Nat.le_of_ble_eq_true rfl) (Nat.le_of_ble_eq_true rfl) (Nat.le_of_ble_eq_true rfl) ?_
  refine e_aload_n 21 34 rfl rfl rfl rfl ?_
  refine g_callV 22 37 (h1) okX10_putValue cvX10_60 ⟨(Nat.le_of_ble_eq_true rfl), (Nat.le_of_ble_eq_true rfl)⟩ rfl rfl hV.1.1 hV.1.2.2.1 rfl rfl rfl rfl (Nat.le_of_ble_eq_true rfl) (Nat.le_of_ble_eq_true rfl) (Nat.le_of_ble_eq_true rfl) ?_
  refine e_goto 23 62 rfl rfl ?_
  exact e_return 39 rfl rfl (Nat.le_of_ble_eq_true rfl) (Nat.le_of_ble_eq_true rfl)
theorem sp_setField_new {σ : xSig} {a cap b cap' : Nat} {p0 ra rb w : List Int} {f : Int} (hf : 0 ≤ f ∧ f < 8) (hp0 : 0 < p0.length) (hV : VH σ a cap (p0 ++ ra ++ rb)) (hk : ssc (ra ++ rb) f 0 = ra.length) (hrb : tok rb 0 ≠ 1 + f) (hW : VH σ b cap' w) (hn : p0.length + ra.length + w.length + rb.length + 1 ≤ cap) (hb1 : b ≠ a) (hb2 : b ≠ a + 1) (hb3 : b + 1 ≠ a) :
    ∃ σ' : xSig, x_Sp MX10_setField 0 0 [.ref a, .int (ii (p0.length - 1)), .int (ii f), .ref b] (St σ) vv (St σ') ∧ VH σ' a cap (p0 ++ ra ++ (1 + f) :: w ++ rb) ∧ Fr a σ σ' := by
  have hcap := hV.2.2.1
  have h200 := hV.2.2.2.1
  have hl : (p0 ++ ra ++ rb).length = p0.length + ra.length + rb.length := by simp; omega
  have hs := sp_slotOf hV hf p0 (ra ++ rb) (by simp) hp0
  rw [hk] at hs
  have hx : tok (p0 ++ ra ++ rb) ((p0.length : Int) + ra.length) = tok rb 0 := by
    cases rb with
    | nil => rw [tok_big (by simp), tok_big (by simp)]
    | cons y rb =>
      rw [show (p0.length : Int) + ra.length = ((p0 ++ ra).length : Int) by simp, tok_hd]
      exact (tok_hd [] y rb).symm
  have hb := hV.bnd ((p0.length : Int) + ra.length)
  rw [hx] at hb
  obtain ⟨σ1, h1, h2, h3⟩ := sp_putSign (p := p0 ++ ra) (s := rb) (x := 1 + f) hV (by omega) (by simp; omega)
  obtain ⟨σ2, k1, k2, k3⟩ := sp_putValue (p := p0 ++ ra ++ [1 + f]) (m := []) (s := rb) (by simpa using h2) (hW.fr h3 hb1 hb2 hb3) (by simp; omega) hb1 hb2 hb3
  have e9 : (((p0 ++ ra ++ [1 + f]).length : Nat) : Int) = (p0.length : Int) + ra.length + 1 := by simp; omega
  rw [show (((p0 ++ ra).length : Nat) : Int) = (p0.length : Int) + ra.length by simp] at h1
  rw [e9, show (([] : List Int).length : Int) = 0 by rfl, Int.add_zero] at k1
  refine ⟨σ2, ?_, by simpa using k2, h3.tr k3⟩
  refine e_entry okX10_setField (Nat.le_of_ble_eq_true rfl) (ls := [some _, some _, some _, some _, none]) rfl ?_
  refine e_aload_n 0 1 rfl rfl rfl rfl ?_
  refine e_iload_n 1 2 rfl rfl rfl rfl ?_
  refine e_iload_n 2 3 rfl rfl rfl rfl ?_
  refine g_callV 3 6 (hs) okX10_slotOf cvX10_32 ⟨(Nat.le_of_ble_eq_true rfl), (Nat.le_of_ble_eq_true rfl)⟩ rfl rfl hV.1.1 hV.1.2.2.1 rfl rfl rfl rfl (Nat.le_of_ble_eq_true rfl) (Nat.le_of_ble_eq_true rfl) (Nat.le_of_ble_eq_true rfl) ?_
  refine e_istore 4 8 (ls' := [some _, some _, some _, some _, some _]) rfl rfl (Nat.le_of_ble_eq_true rfl) rfl ?_
  refine e_aload_n 5 9 rfl rfl rfl rfl ?_
  refine e_iload 6 11 rfl rfl rfl ?_
  refine g_callV 7 14 (sp_signAt hV (i := (p0.length : Int) + ra.length) (by unfold xr; omega)) okX10_signAt cvX10_19 ⟨(Nat.le_of_ble_eq_true rfl), (Nat.le_of_ble_eq_true rfl)⟩ rfl rfl hV.1.1 hV.1.2.2.1 rfl rfl rfl rfl (Nat.le_of_ble_eq_true rfl) (Nat.le_of_ble_eq_true rfl) (Nat.le_of_ble_eq_true rfl) ?_
  rw [hx]
  refine e_iconst 8 15 rfl rfl ?_
  refine e_iload_n 9 16 rfl rfl rfl rfl ?_
  refine e_iadd 10 17 rfl rfl ?_
  refine e_icmp_ne 11 40 20 rfl rfl rfl (by unfold xr at *; omega) (by unfold xr at *; omega) (fun _ => ?_) (fun h9 => absurd h9 (by omega))
  refine e_aload_n 24 41 rfl rfl rfl rfl ?_
  refine e_iload 25 43 rfl rfl rfl ?_
  refine e_iconst 26 44 rfl rfl ?_
  refine e_iload_n 27 45 rfl rfl rfl rfl ?_
  refine e_iadd 28 46 rfl rfl ?_
  refine g_callV 29 49 (h1) okX10_putSign cvX10_56 ⟨(Nat.le_of_ble_eq_true rfl), (Nat.le_of_ble_eq_true rfl)⟩ rfl rfl hV.1.1 hV.1.2.2.1 rfl rfl rfl rfl (Nat.le_of_ble_eq_true rfl) (Nat.le_of_ble_eq_true rfl) (Nat.le_of_ble_eq_true rfl) ?_
  refine e_aload_n 30 50 rfl rfl rfl rfl ?_
  refine e_iload 31 52 rfl rfl rfl ?_
  refine e_iconst 32 53 rfl rfl ?_
  refine e_iadd 33 54 rfl rfl ?_
  refine e_iload 34 56 rfl rfl rfl ?_
  refine e_iconst 35 57 rfl rfl ?_
  refine e_iadd 36 58 rfl rfl ?_
  refine e_aload_n 37 59 rfl rfl rfl rfl ?_
  refine g_callV 38 62 (k1) okX10_putValue cvX10_60 ⟨(Nat.le_of_ble_eq_true rfl), (Nat.le_of_ble_eq_true rfl)⟩ rfl rfl hV.1.1 hV.1.2.2.1 rfl rfl rfl rfl (Nat.le_of_ble_eq_true rfl) (Nat.le_of_ble_eq_true rfl) (Nat.le_of_ble_eq_true rfl) ?_
  exact e_return 39 rfl rfl (Nat.le_of_ble_eq_true rfl) (Nat.le_of_ble_eq_true rfl)
theorem sp_takeField_has {σ : xSig} {a cap : Nat} {p0 ra v rc : List Int} {f : Int} (hf : 0 ≤ f ∧ f < 8) (hp0 : 0 < p0.length) (hV : VH σ a cap (p0 ++ ra ++ (1 + f) :: v ++ rc)) (hk : ssc (ra ++ (1 + f) :: v ++ rc) f 0 = ra.length) (hv : vsc (v ++ rc) 0 = v.length) :
    ∃ σ' : xSig, x_Sp MX10_takeField 0 0 [.ref a, .int (ii (p0.length - 1)), .int (ii f)] (St σ) vv (St σ') ∧ VH σ' a cap (p0 ++ ra ++ rc) ∧ Fr a σ σ' := by
  have hcap := hV.2.2.1
  have h200 := hV.2.2.2.1
  have hl : (p0 ++ ra ++ (1 + f) :: v ++ rc).length = p0.length + ra.length + v.length + rc.length + 1 := by simp; omega
  have hs := sp_slotOf hV hf p0 (ra ++ (1 + f) :: v ++ rc) (by simp) hp0
  rw [hk] at hs
  have hx : tok (p0 ++ ra ++ (1 + f) :: v ++ rc) ((p0.length : Int) + ra.length) = 1 + f := by
    rw [show (p0.length : Int) + ra.length = ((p0 ++ ra).length : Int) by simp, show p0 ++ ra ++ (1 + f) :: v ++ rc = (p0 ++ ra) ++ (1 + f) :: (v ++ rc) by simp]
    exact tok_hd _ _ _
  have he := sp_endOf hV (p0 ++ ra ++ [1 + f]) (v ++ rc) (by simp)
  rw [hv] at he
  obtain ⟨σ1, h1, h2, h3⟩ := sp_takeOut (p := p0 ++ ra) (m := (1 + f) :: v) (s := rc) (by simpa using hV)
  have e9 : (((p0 ++ ra ++ [1 + f]).length : Nat) : Int) = (p0.length : Int) + ra.length + 1 := by simp; omega
  rw [e9] at he
  rw [show (((p0 ++ ra).length : Nat) : Int) = (p0.length : Int) + ra.length by simp, show (((1 + f) :: v).length : Int) = (v.length : Int) + 1 by simp] at h1
  refine ⟨σ1, ?_, h2, h3⟩
  refine e_entry okX10_takeField (Nat.le_of_ble_eq_true rfl) (ls := [some _, some _, some _, none]) rfl ?_
  refine e_aload_n 0 1 rfl rfl rfl rfl ?_
  refine e_iload_n 1 2 rfl rfl rfl rfl ?_
  refine e_iload_n 2 3 rfl rfl rfl rfl ?_
  refine g_callV 3 6 (hs) okX10_slotOf cvX10_32 ⟨(Nat.le_of_ble_eq_true rfl), (Nat.le_of_ble_eq_true rfl)⟩ rfl rfl hV.1.1 hV.1.2.2.1 rfl rfl rfl rfl (Nat.le_of_ble_eq_true rfl) (Nat.le_of_ble_eq_true rfl) (Nat.le_of_ble_eq_true rfl) ?_
  refine e_istore_n 4 7 (ls' := [some _, some _, some _, some _]) rfl rfl rfl (Nat.le_of_ble_eq_true rfl) rfl ?_
  refine e_aload_n 5 8 rfl rfl rfl rfl ?_
  refine e_iload_n 6 9 rfl rfl rfl rfl ?_
  refine g_callV 7 12 (sp_signAt hV (i := (p0.length : Int) + ra.length) (by unfold xr; omega)) okX10_signAt cvX10_19 ⟨(Nat.le_of_ble_eq_true rfl), (Nat.le_of_ble_eq_true rfl)⟩ rfl rfl hV.1.1 hV.1.2.2.1 rfl rfl rfl rfl (Nat.le_of_ble_eq_true rfl) (Nat.le_of_ble_eq_true rfl) (Nat.le_of_ble_eq_true rfl) ?_
  rw [hx]
  refine e_iconst 8 13 rfl rfl ?_
  refine e_iload_n 9 14 rfl rfl rfl rfl ?_
  refine e_iadd 10 15 rfl rfl ?_
  refine e_icmp_ne 11 30 18 rfl rfl rfl (by unfold xr at *; omega) (by unfold xr at *; omega) (fun h9 => absurd h9 (by omega)) (fun _ => ?_)
  refine e_aload_n 12 19 rfl rfl rfl rfl ?_
  refine e_iload_n 13 20 rfl rfl rfl rfl ?_
  refine e_aload_n 14 21 rfl rfl rfl rfl ?_
  refine e_iload_n 15 22 rfl rfl rfl rfl ?_
  refine e_iconst 16 23 rfl rfl ?_
  refine e_iadd 17 24 rfl rfl ?_
  refine g_callV 18 27 (he) okX10_endOf cvX10_29 ⟨(Nat.le_of_ble_eq_true rfl), (Nat.le_of_ble_eq_true rfl)⟩ rfl rfl hV.1.1 hV.1.2.2.1 rfl rfl rfl rfl (Nat.le_of_ble_eq_true rfl) (Nat.le_of_ble_eq_true rfl) (Nat.le_of_ble_eq_true rfl) ?_
  rw [show (p0.length : Int) + ra.length + 1 + (v.length : Nat) = (p0.length : Int) + ra.length + ((v.length : Int) + 1) by omega]
  refine g_callV 19 30 (h1) okX10_takeOut cvX10_77 ⟨(Nat.le_of_ble_eq_true rfl), (Nat.le_of_ble_eq_true rfl)⟩ rfl rfl hV.1.1 hV.1.2.2.1 rfl rfl rfl rfl (Nat.le_of_ble_eq_true rfl) (Nat.le_of_ble_eq_true rfl) (Nat.le_of_ble_eq_true rfl) ?_
  exact e_return 20 rfl rfl (Nat.le_of_ble_eq_true rfl) (Nat.le_of_ble_eq_true rfl)
theorem sp_takeField_no {σ : xSig} {a cap : Nat} {p0 ra rb : List Int} {f : Int} (hf : 0 ≤ f ∧ f < 8) (hp0 : 0 < p0.length) (hV : VH σ a cap (p0 ++ ra ++ rb)) (hk : ssc (ra ++ rb) f 0 = ra.length) (hrb : tok rb 0 ≠ 1 + f) :
    x_Sp MX10_takeField 0 0 [.ref a, .int (ii (p0.length - 1)), .int (ii f)] (St σ) vv (St σ) := by
  have hcap := hV.2.2.1
  have h200 := hV.2.2.2.1
  have hl : (p0 ++ ra ++ rb).length = p0.length + ra.length + rb.length := by simp; omega
  have hs := sp_slotOf hV hf p0 (ra ++ rb) (by simp) hp0
  rw [hk] at hs
  have hx : tok (p0 ++ ra ++ rb) ((p0.length : Int) + ra.length) = tok rb 0 := by
    cases rb with
    | nil => rw [tok_big (by simp), tok_big (by simp)]
    | cons y rb =>
      rw [show (p0.length : Int) + ra.length = ((p0 ++ ra).length : Int) by simp, tok_hd]
      exact (tok_hd [] y rb).symm
  have hb := hV.bnd ((p0.length : Int) + ra.length)
  rw [hx] at hb
  refine e_entry okX10_takeField (Nat.le_of_ble_eq_true rfl) (ls := [some _, some _, some _, none]) rfl ?_
  refine e_aload_n 0 1 rfl rfl rfl rfl ?_
  refine e_iload_n 1 2 rfl rfl rfl rfl ?_
  refine e_iload_n 2 3 rfl rfl rfl rfl ?_
  refine g_callV 3 6 (hs) okX10_slotOf cvX10_32 ⟨(Nat.le_of_ble_eq_true rfl), (Nat.le_of_ble_eq_true rfl)⟩ rfl rfl hV.1.1 hV.1.2.2.1 rfl rfl rfl rfl (Nat.le_of_ble_eq_true rfl) (Nat.le_of_ble_eq_true rfl) (Nat.le_of_ble_eq_true rfl) ?_
  refine e_istore_n 4 7 (ls' := [some _, some _, some _, some _]) rfl rfl rfl (Nat.le_of_ble_eq_true rfl) rfl ?_
  refine e_aload_n 5 8 rfl rfl rfl rfl ?_
  refine e_iload_n 6 9 rfl rfl rfl rfl ?_
  refine g_callV 7 12 (sp_signAt hV (i := (p0.length : Int) + ra.length) (by unfold xr; omega)) okX10_signAt cvX10_19 ⟨(Nat.le_of_ble_eq_true rfl), (Nat.le_of_ble_eq_true rfl)⟩ rfl rfl hV.1.1 hV.1.2.2.1 rfl rfl rfl rfl (Nat.le_of_ble_eq_true rfl) (Nat.le_of_ble_eq_true rfl) (Nat.le_of_ble_eq_true rfl) ?_
  rw [hx]
  refine e_iconst 8 13 rfl rfl ?_
  refine e_iload_n 9 14 rfl rfl rfl rfl ?_
  refine e_iadd 10 15 rfl rfl ?_
  refine e_icmp_ne 11 30 18 rfl rfl rfl (by unfold xr at *; omega) (by unfold xr at *; omega) (fun _ => ?_) (fun h9 => absurd h9 (by omega))
  exact e_return 20 rfl rfl (Nat.le_of_ble_eq_true rfl) (Nat.le_of_ble_eq_true rfl)
end
section
/-! ===== all objects of Value; the others' numbers ===== -/
def vO (a : Nat) : Bool := match shO (SH a) with
  | some q => q.1 == 10
  | none => false
def vA : Nat → Bool
  | 0 => vO 0
  | c + 1 => vO (c + 1) || vO c
def vCap (a : Nat) : Nat := match shA (SH (a + 1)) with
  | some q => q.2
  | none => 0
def vchk (a : Nat) : Bool := !vO a || (decide (a + 1 < 314) && (decide (shO (SH a) = some (10, [some (some (a + 1)), none])) && (decide (shA (SH (a + 1)) = some (0, vCap a)) && !vO (a + 1))))
theorem vchk_all : ∀ a, a < 314 → vchk a = true := by decide +kernel
theorem vO_all (a : Nat) (h : a < 314) (hv : vO a = true) : a + 1 < 314 ∧ shO (SH a) = some (10, [some (some (a + 1)), none]) ∧ shA (SH (a + 1)) = some (0, vCap a) ∧ vO (a + 1) = false := by
  have q := vchk_all a h
  unfold vchk at q
  rw [hv] at q
  simp only [Bool.not_true, Bool.false_or, Bool.and_eq_true, decide_eq_true_eq, Bool.not_eq_true'] at q
  exact q
theorem vO_lt {a : Nat} (h : vO a = true) : a < 314 := by
  rcases Nat.lt_or_ge a 314 with q | q
  · exact q
  · exfalso
    have hl : SHL.length = 314 := by decide +kernel
    have e : SH a = .inl (0, 0) := by
      unfold SH
      rw [List.getD_eq_getElem?_getD, List.getElem?_eq_none_iff.mpr (by omega)]
      rfl
    unfold vO at h
    rw [e] at h
    cases h
theorem vO_val {a : Nat} (h : vO a = true) : isVal a (vCap a) := by
  have q := vO_all a (vO_lt h) h
  exact isVal_of ⟨vO_lt h, q.1, q.2.1, q.2.2.1⟩
theorem vO_next {a : Nat} (h : vO a = true) : vO (a + 1) = false := (vO_all a (vO_lt h) h).2.2.2
theorem vO_apart {a b : Nat} (ha : vO a = true) (hb : vO b = true) (h : b ≠ a) : b ≠ a + 1 ∧ b + 1 ≠ a := by
  refine ⟨fun q => ?_, fun q => ?_⟩
  · have := vO_next ha
    rw [← q, hb] at this
    cases this
  · have := vO_next hb
    rw [q, ha] at this
    cases this
def VAll (σ : xSig) (T : Nat → List Int) : Prop := ∀ a, vO a = true → VH σ a (vCap a) (T a)
def uT (T : Nat → List Int) (a : Nat) (t : List Int) : Nat → List Int := fun b => if b = a then t else T b
theorem uT_same (T : Nat → List Int) (a : Nat) (t : List Int) : uT T a t a = t := by simp [uT]
theorem uT_ne (T : Nat → List Int) {a b : Nat} (t : List Int) (h : b ≠ a) : uT T a t b = T b := by simp [uT, h]
theorem VAll.put {σ σ' : xSig} {T : Nat → List Int} {a : Nat} {t : List Int} (h : VAll σ T) (ha : vO a = true) (h1 : VH σ' a (vCap a) t) (hF : Fr a σ σ') : VAll σ' (uT T a t) := by
  intro b hb
  by_cases e : b = a
  · subst e
    rw [uT_same]
    exact h1
  · rw [uT_ne _ _ e]
    obtain ⟨e1, e2⟩ := vO_apart ha hb e
    exact (h b hb).fr hF e e1 e2
/-- the numbers of what is no Value, but for some cells, stay -/
def NV (L : List Nat) (σ σ' : xSig) : Prop := ∀ b : Nat, vA b = false → b ∉ L → σ' b = σ b
theorem NV.rf {σ : xSig} {L : List Nat} : NV L σ σ := fun _ _ _ => rfl
theorem NV.tr {L1 L2 : List Nat} {σ σ1 σ2 : xSig} (h : NV L1 σ σ1) (h2 : NV L2 σ1 σ2) : NV (L1 ++ L2) σ σ2 := fun b h3 h4 => (h2 b h3 (fun q => h4 (List.mem_append_right _ q))).trans (h b h3 (fun q => h4 (List.mem_append_left _ q)))
theorem NV.mono {L1 L2 : List Nat} {σ σ1 : xSig} (h : NV L1 σ σ1) (hs : ∀ b ∈ L1, b ∈ L2) : NV L2 σ σ1 := fun b h3 h4 => h b h3 (fun q => h4 (hs b q))
theorem vA_of {a : Nat} (h : vO a = true) : vA a = true ∧ vA (a + 1) = true := by
  refine ⟨?_, by simp [vA, h]⟩
  cases a with
  | zero => exact h
  | succ c => simp [vA, h]
theorem Fr.nv {σ σ' : xSig} {a : Nat} (h : Fr a σ σ') (ha : vO a = true) : NV [] σ σ' := by
  intro b hb _
  refine h b (fun e => ?_) (fun e => ?_)
  · rw [e, (vA_of ha).1] at hb; cases hb
  · rw [e, (vA_of ha).2] at hb; cases hb
theorem VAll.keep {σ σ' : xSig} {T : Nat → List Int} (h : VAll σ T) (hs : ∀ b : Nat, vA b = true → σ' b = σ b) : VAll σ' T := fun a ha => (h a ha).same (hs a (vA_of ha).1) (hs (a + 1) (vA_of ha).2)
theorem VAll.xu {σ : xSig} {T : Nat → List Int} (h : VAll σ T) {a : Nat} (j v : Int) (ha : vA a = false) : VAll (xu σ a j v) T := h.keep fun b hb => xu_other σ j v (fun e => by rw [e, ha] at hb; cases hb)
theorem NV.xu {σ : xSig} (a : Nat) (j v : Int) : NV [a] σ (xu σ a j v) := fun b _ h => xu_other σ j v (fun e => h (by simp [e]))
theorem SH_2 : SH 2 = .inr (.inl (3, (List.range 10).map fun i => some (5 + 2 * i))) := rfl
theorem SH_26 : SH 26 = .inr (.inl (3, (List.range 100).map fun i => some (31 + 2 * i))) := rfl
theorem SH_257 : SH 257 = .inr (.inl (4, (List.range 3).map fun i => some (264 + 3 * i))) := rfl
theorem rng_at {n k : Nat} {f : Nat → Nat} (h : k < n) : ((List.range n).map fun i => some (f i))[k]? = some (some (f k)) := by simp [h]
theorem vO_p : ∀ i, i < 10 → vO (5 + 2 * i) = true ∧ vCap (5 + 2 * i) = 72 := by decide +kernel
theorem vO_s : ∀ i, i < 100 → vO (31 + 2 * i) = true ∧ vCap (31 + 2 * i) = 72 := by decide +kernel
theorem vO_f : ∀ i, i < 3 → vO (265 + 3 * i) = true ∧ vCap (265 + 3 * i) = 72 := by decide +kernel
theorem vO_3 : vO 3 = true ∧ vCap 3 = 0 := by decide +kernel
theorem vO_29 : vO 29 = true ∧ vCap 29 = 0 := by decide +kernel
theorem vO_244 : vO 244 = true ∧ vCap 244 = 152 := by decide +kernel
theorem vO_246 : vO 246 = true ∧ vCap 246 = 72 := by decide +kernel
theorem vO_259 : vO 259 = true ∧ vCap 259 = 72 := by decide +kernel
/-! ===== Pile ===== -/
def pv (i : Int) : Nat := if 0 ≤ i ∧ i < 10 then 5 + 2 * i.toNat else 3
theorem pv_in {i : Int} (h0 : 0 ≤ i) (h1 : i < 10) : pv i = 5 + 2 * i.toNat := by unfold pv; rw [if_pos ⟨h0, h1⟩]
theorem pv_out {i : Int} (h : i < 0 ∨ 10 ≤ i) : pv i = 3 := by unfold pv; rw [if_neg (by omega)]
theorem pv_vO (i : Int) : vO (pv i) = true := by
  unfold pv
  split
  · exact (vO_p _ (by omega)).1
  · exact vO_3.1
abbrev vtop (σ : xSig) : Nat := pv (σ 1 2 - 1)
abbrev vbel (σ : xSig) : Nat := pv (σ 1 2 - 2)
theorem sp_pEmpty {σ : xSig} (hn : 0 ≤ σ 1 2 ∧ σ 1 2 ≤ 10) : Rd MX5_isEmpty [.ref 1] σ (zv (decide (σ 1 2 = 0))) := by
  refine e_entry okX5_isEmpty (Nat.le_of_ble_eq_true rfl) (ls := [some _]) rfl ?_
  refine e_aload_n 0 1 rfl rfl rfl rfl ?_
  refine g_getI 1 4 2 ckX5 flX5_24 rfl rfl (Nat.le_of_ble_eq_true rfl) rfl rfl rfl rfl ?_
  refine e_if_ne 2 11 7 rfl rfl rfl (by unfold xr at *; omega) (fun h => ?_) (fun h => ?_)
  · skip
    rw [decide_eq_false h]
    refine e_iconst 5 12 rfl rfl ?_
    exact e_zreturn (x := 0) 6 rfl rfl (by omega) (Nat.le_of_ble_eq_true rfl) (Nat.le_of_ble_eq_true rfl)
  · skip
    rw [decide_eq_true h]
    refine e_iconst 3 8 rfl rfl ?_
    refine e_goto 4 12 rfl rfl ?_
    exact e_zreturn (x := 1) 6 rfl rfl (by omega) (Nat.le_of_ble_eq_true rfl) (Nat.le_of_ble_eq_true rfl)
theorem sp_pFull {σ : xSig} (hn : 0 ≤ σ 1 2 ∧ σ 1 2 ≤ 10) : Rd MX5_isFull [.ref 1] σ (zv (decide (10 ≤ σ 1 2))) := by
  refine e_entry okX5_isFull (Nat.le_of_ble_eq_true rfl) (ls := [some _]) rfl ?_
  refine e_aload_n 0 1 rfl rfl rfl rfl ?_
  refine g_getI 1 4 2 ckX5 flX5_24 rfl rfl (Nat.le_of_ble_eq_true rfl) rfl rfl rfl rfl ?_
  refine e_aload_n 2 5 rfl rfl rfl rfl ?_
  refine g_getR 3 8 ckX5 flX5_11 rfl rfl (Nat.le_of_ble_eq_true rfl) rfl rfl ?_
  refine g_alenR 4 9 rfl rfl (Nat.le_of_ble_eq_true rfl) SH_2 (Or.inl rfl) ?_
  simp only [List.length_map, List.length_range]
  refine e_icmp_lt 5 16 12 rfl rfl rfl (by unfold xr at *; omega) (by unfold xr at *; omega) (fun h => ?_) (fun h => ?_)
  · skip
    rw [decide_eq_false (by omega)]
    refine e_iconst 8 17 rfl rfl ?_
    exact e_zreturn (x := 0) 9 rfl rfl (by omega) (Nat.le_of_ble_eq_true rfl) (Nat.le_of_ble_eq_true rfl)
  · skip
    rw [decide_eq_true (by omega)]
    refine e_iconst 6 13 rfl rfl ?_
    refine e_goto 7 17 rfl rfl ?_
    exact e_zreturn (x := 1) 9 rfl rfl (by omega) (Nat.le_of_ble_eq_true rfl) (Nat.le_of_ble_eq_true rfl)
theorem sp_pAt {σ : xSig} {i : Int} (hi : xr i) : Rd MX5_at [.ref 1, .int (ii i)] σ (rv (pv i)) := by
  unfold xr at hi
  refine e_entry okX5_at (Nat.le_of_ble_eq_true rfl) (ls := [some _, some _, none]) rfl ?_
  refine e_iload_n 0 1 rfl rfl rfl rfl ?_
  refine e_if_lt 1 22 4 rfl rfl rfl (by unfold xr at *; omega) (fun h => ?_) (fun h => ?_)
  · skip
    rw [pv_out (by omega)]
    refine e_aload_n 12 23 rfl rfl rfl rfl ?_
    refine g_getR 13 26 ckX5 flX5_20 rfl rfl (Nat.le_of_ble_eq_true rfl) rfl rfl ?_
    refine e_astore_n 14 27 (ls' := [some _, some _, some _]) rfl rfl rfl (Nat.le_of_ble_eq_true rfl) rfl ?_
    refine e_aload_n 15 28 rfl rfl rfl rfl ?_
    refine e_ifnonnull 16 38 rfl rfl ?_
    refine e_aload_n 20 39 rfl rfl rfl rfl ?_
    exact e_areturn 21 rfl rfl (Nat.le_of_ble_eq_true rfl) (Nat.le_of_ble_eq_true rfl)
  · skip
    refine e_iload_n 2 5 rfl rfl rfl rfl ?_
    refine e_aload_n 3 6 rfl rfl rfl rfl ?_
    refine g_getR 4 9 ckX5 flX5_11 rfl rfl (Nat.le_of_ble_eq_true rfl) rfl rfl ?_
    refine g_alenR 5 10 rfl rfl (Nat.le_of_ble_eq_true rfl) SH_2 (Or.inl rfl) ?_
    simp only [List.length_map, List.length_range]
    refine e_icmp_ge 6 22 13 rfl rfl rfl (by unfold xr at *; omega) (by unfold xr at *; omega) (fun h2 => ?_) (fun h2 => ?_)
    · skip
      rw [pv_out (by omega)]
      refine e_aload_n 12 23 rfl rfl rfl rfl ?_
      refine g_getR 13 26 ckX5 flX5_20 rfl rfl (Nat.le_of_ble_eq_true rfl) rfl rfl ?_
      refine e_astore_n 14 27 (ls' := [some _, some _, some _]) rfl rfl rfl (Nat.le_of_ble_eq_true rfl) rfl ?_
      refine e_aload_n 15 28 rfl rfl rfl rfl ?_
      refine e_ifnonnull 16 38 rfl rfl ?_
      refine e_aload_n 20 39 rfl rfl rfl rfl ?_
      exact e_areturn 21 rfl rfl (Nat.le_of_ble_eq_true rfl) (Nat.le_of_ble_eq_true rfl)
    · skip
      rw [pv_in h (by omega)]
      refine e_aload_n 7 14 rfl rfl rfl rfl ?_
      refine g_getR 8 17 ckX5 flX5_11 rfl rfl (Nat.le_of_ble_eq_true rfl) rfl rfl ?_
      refine e_iload_n 9 18 rfl rfl rfl rfl ?_
      refine g_aaload 10 19 rfl rfl (Nat.le_of_ble_eq_true rfl) SH_2 (Or.inl rfl) (by omega) (rng_at (by omega)) (by simp) ?_
      refine e_goto 11 26 rfl rfl ?_
      refine e_astore_n 14 27 (ls' := [some _, some _, some _]) rfl rfl rfl (Nat.le_of_ble_eq_true rfl) rfl ?_
      refine e_aload_n 15 28 rfl rfl rfl rfl ?_
      refine e_ifnonnull 16 38 rfl rfl ?_
      refine e_aload_n 20 39 rfl rfl rfl rfl ?_
      exact e_areturn 21 rfl rfl (Nat.le_of_ble_eq_true rfl) (Nat.le_of_ble_eq_true rfl)
theorem sp_pTop {σ : xSig} (hn : 0 ≤ σ 1 2 ∧ σ 1 2 ≤ 10) : Rd MX5_top [.ref 1] σ (rv (vtop σ)) := by
  refine e_entry okX5_top (Nat.le_of_ble_eq_true rfl) (ls := [some _]) rfl ?_
  refine e_aload_n 0 1 rfl rfl rfl rfl ?_
  refine e_aload_n 1 2 rfl rfl rfl rfl ?_
  refine g_getI 2 5 2 ckX5 flX5_24 rfl rfl (Nat.le_of_ble_eq_true rfl) rfl rfl rfl rfl ?_
  refine e_iconst 3 6 rfl rfl ?_
  refine e_isub 4 7 rfl rfl ?_
  refine g_callV 5 10 (sp_pAt (i := σ 1 2 - 1) (by unfold xr; omega)) okX5_at cvX5_39 ⟨(Nat.le_of_ble_eq_true rfl), (Nat.le_of_ble_eq_true rfl)⟩ rfl rfl (Nat.le_of_ble_eq_true rfl) rfl rfl rfl rfl rfl (Nat.le_of_ble_eq_true rfl) (Nat.le_of_ble_eq_true rfl) (Nat.le_of_ble_eq_true rfl) ?_
  exact e_areturn 6 rfl rfl (Nat.le_of_ble_eq_true rfl) (Nat.le_of_ble_eq_true rfl)
theorem sp_pBelow {σ : xSig} (hn : 0 ≤ σ 1 2 ∧ σ 1 2 ≤ 10) : Rd MX5_below [.ref 1] σ (rv (vbel σ)) := by
  refine e_entry okX5_below (Nat.le_of_ble_eq_true rfl) (ls := [some _]) rfl ?_
  refine e_aload_n 0 1 rfl rfl rfl rfl ?_
  refine e_aload_n 1 2 rfl rfl rfl rfl ?_
  refine g_getI 2 5 2 ckX5 flX5_24 rfl rfl (Nat.le_of_ble_eq_true rfl) rfl rfl rfl rfl ?_
  refine e_iconst 3 6 rfl rfl ?_
  refine e_isub 4 7 rfl rfl ?_
  refine g_callV 5 10 (sp_pAt (i := σ 1 2 - 2) (by unfold xr; omega)) okX5_at cvX5_39 ⟨(Nat.le_of_ble_eq_true rfl), (Nat.le_of_ble_eq_true rfl)⟩ rfl rfl (Nat.le_of_ble_eq_true rfl) rfl rfl rfl rfl rfl (Nat.le_of_ble_eq_true rfl) (Nat.le_of_ble_eq_true rfl) (Nat.le_of_ble_eq_true rfl) ?_
  exact e_areturn 6 rfl rfl (Nat.le_of_ble_eq_true rfl) (Nat.le_of_ble_eq_true rfl)
theorem sp_takeTop {σ : xSig} (hn : 0 < σ 1 2 ∧ σ 1 2 ≤ 10) : x_Sp MX5_takeTop 0 0 [.ref 1] (St σ) (iv (σ 1 2 - 1)) (St (xu σ 1 2 (σ 1 2 - 1))) := by
  refine e_entry okX5_takeTop (Nat.le_of_ble_eq_true rfl) (ls := [some _]) rfl ?_
  refine e_aload_n 0 1 rfl rfl rfl rfl ?_
  refine g_getI 1 4 2 ckX5 flX5_24 rfl rfl (Nat.le_of_ble_eq_true rfl) rfl rfl rfl rfl ?_
  refine e_if_le 2 17 7 rfl rfl rfl (by unfold xr at *; omega) (fun h9 => absurd h9 (by omega)) (fun _ => ?_)
  refine e_aload_n 3 8 rfl rfl rfl rfl ?_
  refine e_dup 4 9 rfl rfl rfl ?_
  refine g_getI 5 12 2 ckX5 flX5_24 rfl rfl (Nat.le_of_ble_eq_true rfl) rfl rfl rfl rfl ?_
  refine e_iconst 6 13 rfl rfl ?_
  refine e_isub 7 14 rfl rfl ?_
  refine g_putI 8 17 2 ckX5 flX5_24 rfl rfl (Nat.le_of_ble_eq_true rfl) rfl rfl rfl ?_
  refine e_aload_n 9 18 rfl rfl rfl rfl ?_
  refine g_getI 10 21 2 ckX5 flX5_24 rfl rfl (Nat.le_of_ble_eq_true rfl) rfl rfl rfl (xu_same σ 1 2 (σ 1 2 - 1)) ?_
  exact e_ireturn 11 rfl rfl (Nat.le_of_ble_eq_true rfl) (Nat.le_of_ble_eq_true rfl)
theorem sp_takeAll {σ : xSig} : x_Sp MX5_takeAll 0 0 [.ref 1] (St σ) (iv (σ 1 2)) (St (xu σ 1 2 0)) := by
  refine e_entry okX5_takeAll (Nat.le_of_ble_eq_true rfl) (ls := [some _, none]) rfl ?_
  refine e_aload_n 0 1 rfl rfl rfl rfl ?_
  refine g_getI 1 4 2 ckX5 flX5_24 rfl rfl (Nat.le_of_ble_eq_true rfl) rfl rfl rfl rfl ?_
  refine e_istore_n 2 5 (ls' := [some _, some _]) rfl rfl rfl (Nat.le_of_ble_eq_true rfl) rfl ?_
  refine e_aload_n 3 6 rfl rfl rfl rfl ?_
  refine e_iconst 4 7 rfl rfl ?_
  refine g_putI 5 10 2 ckX5 flX5_24 rfl rfl (Nat.le_of_ble_eq_true rfl) rfl rfl rfl ?_
  refine e_iload_n 6 11 rfl rfl rfl rfl ?_
  exact e_ireturn 7 rfl rfl (Nat.le_of_ble_eq_true rfl) (Nat.le_of_ble_eq_true rfl)
end
section
/-! ===== Pile.put, Places ===== -/
theorem ii_div {x y : Int} (hx : 0 ≤ x ∧ x < 2147483648) (hy : 0 < y ∧ y < 2147483648) : ii x / ii y = ii (x / y) := by
  obtain ⟨a, rfl⟩ := Int.eq_ofNat_of_zero_le hx.1
  obtain ⟨b, rfl⟩ := Int.eq_ofNat_of_zero_le (by omega : 0 ≤ y)
  exact pk_div (by omega) (by omega) (by omega)
theorem ii_rem {x y : Int} (hx : 0 ≤ x ∧ x < 2147483648) (hy : 0 < y ∧ y < 2147483648) : ii x - ii x / ii y * ii y = ii (x % y) := by
  obtain ⟨a, rfl⟩ := Int.eq_ofNat_of_zero_le hx.1
  obtain ⟨b, rfl⟩ := Int.eq_ofNat_of_zero_le (by omega : 0 ≤ y)
  exact pk_rem (by omega) (by omega) (by omega)
def newv (x : Int) : List Int := if 4000 ≤ x then [x, 0] else [x]
theorem sp_pPut {σ : xSig} {T : Nat → List Int} (hA : VAll σ T) (hn : 0 ≤ σ 1 2 ∧ σ 1 2 < 10) {x : Int} (hx : 0 ≤ x ∧ x < 6000) :
    ∃ σ' : xSig, x_Sp MX5_put 0 0 [.ref 1, .int (ii x)] (St σ) (iv (σ 1 2 + 1)) (St σ') ∧ VAll σ' (uT T (pv (σ 1 2)) (newv x)) ∧ NV [1] σ σ' ∧ σ' 1 2 = σ 1 2 + 1 := by
  have hv := pv_vO (σ 1 2)
  have hc : vCap (pv (σ 1 2)) = 72 := by rw [pv_in hn.1 hn.2]; exact (vO_p _ (by omega)).2
  have hA1 : VAll (xu σ 1 2 (σ 1 2 + 1)) T := hA.xu 2 _ (by decide +kernel)
  have e1 : xu σ 1 2 (σ 1 2 + 1) 1 2 = σ 1 2 + 1 := xu_same σ 1 2 _
  obtain ⟨σ', h1, h2, h3⟩ := sp_becomeI (hA1 _ hv) hx (by omega)
  have ht := sp_pTop (σ := xu σ 1 2 (σ 1 2 + 1)) (by omega)
  rw [show vtop (xu σ 1 2 (σ 1 2 + 1)) = pv (σ 1 2) by unfold vtop; rw [e1]; congr 1; omega] at ht
  have e2 : σ' 1 2 = σ 1 2 + 1 := by
    rw [h3 1 (fun q => by have := (vA_of hv).1; rw [← q] at this; revert this; decide +kernel) (fun q => by have := (vA_of hv).2; rw [← q] at this; revert this; decide +kernel)]
    exact e1
  refine ⟨σ', ?_, hA1.put hv h2 h3, ((NV.xu 1 2 _).tr (h3.nv hv)).mono (by simp), e2⟩
  refine e_entry okX5_put (Nat.le_of_ble_eq_true rfl) (ls := [some _, some _]) rfl ?_
  refine e_aload_n 0 1 rfl rfl rfl rfl ?_
  refine g_callV 1 4 (sp_pFull (by omega)) okX5_isFull cvX5_28 ⟨(Nat.le_of_ble_eq_true rfl), (Nat.le_of_ble_eq_true rfl)⟩ rfl rfl (Nat.le_of_ble_eq_true rfl) rfl rfl rfl rfl rfl (Nat.le_of_ble_eq_true rfl) (Nat.le_of_ble_eq_true rfl) (Nat.le_of_ble_eq_true rfl) ?_
  rw [decide_eq_false (by omega : ¬ 10 ≤ σ 1 2)]
  refine e_ifb_ne 2 25 7 rfl rfl rfl (fun h => ?_) (fun h => ?_)
  · skip
    cases h
  · skip
    refine e_aload_n 3 8 rfl rfl rfl rfl ?_
    refine e_dup 4 9 rfl rfl rfl ?_
    refine g_getI 5 12 2 ckX5 flX5_24 rfl rfl (Nat.le_of_ble_eq_true rfl) rfl rfl rfl rfl ?_
    refine e_iconst 6 13 rfl rfl ?_
    refine e_iadd 7 14 rfl rfl ?_
    refine g_putI 8 17 2 ckX5 flX5_24 rfl rfl (Nat.le_of_ble_eq_true rfl) rfl rfl rfl ?_
    refine e_aload_n 9 18 rfl rfl rfl rfl ?_
    refine g_callV 10 21 (ht) okX5_top cvX5_32 ⟨(Nat.le_of_ble_eq_true rfl), (Nat.le_of_ble_eq_true rfl)⟩ rfl rfl (Nat.le_of_ble_eq_true rfl) rfl rfl rfl rfl rfl (Nat.le_of_ble_eq_true rfl) (Nat.le_of_ble_eq_true rfl) (Nat.le_of_ble_eq_true rfl) ?_
    refine e_iload_n 11 22 rfl rfl rfl rfl ?_
    refine g_callV 12 25 (h1) okX10_become cvX5_36 ⟨(Nat.le_of_ble_eq_true rfl), (Nat.le_of_ble_eq_true rfl)⟩ rfl rfl (vO_val hv).1 (vO_val hv).2.2.1 rfl rfl rfl rfl (Nat.le_of_ble_eq_true rfl) (Nat.le_of_ble_eq_true rfl) (Nat.le_of_ble_eq_true rfl) ?_
    refine e_aload_n 13 26 rfl rfl rfl rfl ?_
    refine g_getI 14 29 2 ckX5 flX5_24 rfl rfl (Nat.le_of_ble_eq_true rfl) rfl rfl rfl e2 ?_
    exact e_ireturn 15 rfl rfl (Nat.le_of_ble_eq_true rfl) (Nat.le_of_ble_eq_true rfl)
/-- p is an object of Places, its row behind it -/
def isPl (p : Nat) : Prop := p < N0 ∧ p + 1 < N0 ∧ SH p = .inr (.inr (6, [some (some (p + 1)), none])) ∧ SH (p + 1) = .inl (0, 24) ∧ vA p = false ∧ vA (p + 1) = false
theorem isPl_s : isPl 254 ∧ isPl 261 ∧ isPl 279 := ⟨⟨Nat.le_of_ble_eq_true rfl, Nat.le_of_ble_eq_true rfl, rfl, rfl, by decide +kernel, by decide +kernel⟩, ⟨Nat.le_of_ble_eq_true rfl, Nat.le_of_ble_eq_true rfl, rfl, rfl, by decide +kernel, by decide +kernel⟩, ⟨Nat.le_of_ble_eq_true rfl, Nat.le_of_ble_eq_true rfl, rfl, rfl, by decide +kernel, by decide +kernel⟩⟩
def PH (σ : xSig) (p : Nat) (L : List Int) : Prop := isPl p ∧ σ p 1 = L.length ∧ L.length ≤ 24 ∧ ∀ i : Nat, i < L.length → σ (p + 1) i = L.getD i 0
theorem sp_plSize {σ : xSig} {p : Nat} {L : List Int} (h : PH σ p L) : Rd MX6_size [.ref p] σ (iv L.length) := by
  have hlen := h.2.1
  refine e_entry okX6_size (Nat.le_of_ble_eq_true rfl) (ls := [some _]) rfl ?_
  refine e_aload_n 0 1 rfl rfl rfl rfl ?_
  refine g_getI 1 4 1 ckX6 flX6_15 rfl rfl h.1.1 h.1.2.2.1 rfl rfl hlen ?_
  exact e_ireturn 2 rfl rfl (Nat.le_of_ble_eq_true rfl) (Nat.le_of_ble_eq_true rfl)
theorem sp_plAt {σ : xSig} {p : Nat} {L : List Int} (h : PH σ p L) {i : Nat} (hi : i < L.length) : Rd MX6_at [.ref p, .int (ii i)] σ (iv (L.getD i 0)) := by
  have hlen := h.2.1
  have h24 := h.2.2.1
  refine e_entry okX6_at (Nat.le_of_ble_eq_true rfl) (ls := [some _, some _]) rfl ?_
  refine e_iload_n 0 1 rfl rfl rfl rfl ?_
  refine e_if_lt 1 30 4 rfl rfl rfl (by unfold xr at *; omega) (fun h9 => absurd h9 (by omega)) (fun _ => ?_)
  refine e_iload_n 2 5 rfl rfl rfl rfl ?_
  refine e_aload_n 3 6 rfl rfl rfl rfl ?_
  refine g_getI 4 9 1 ckX6 flX6_15 rfl rfl h.1.1 h.1.2.2.1 rfl rfl hlen ?_
  refine e_icmp_ge 5 30 12 rfl rfl rfl (by unfold xr at *; omega) (by unfold xr at *; omega) (fun h9 => absurd h9 (by omega)) (fun _ => ?_)
  refine e_iload_n 6 13 rfl rfl rfl rfl ?_
  refine e_aload_n 7 14 rfl rfl rfl rfl ?_
  refine g_getR 8 17 ckX6 flX6_9 rfl rfl h.1.1 h.1.2.2.1 rfl ?_
  refine g_alen 9 18 rfl rfl h.1.2.1 h.1.2.2.2.1 (Nat.le_of_ble_eq_true rfl) ?_
  refine e_icmp_ge 10 30 21 rfl rfl rfl (by unfold xr at *; omega) (by unfold xr at *; omega) (fun h9 => absurd h9 (by omega)) (fun _ => ?_)
  refine e_aload_n 11 22 rfl rfl rfl rfl ?_
  refine g_getR 12 25 ckX6 flX6_9 rfl rfl h.1.1 h.1.2.2.1 rfl ?_
  refine e_iload_n 13 26 rfl rfl rfl rfl ?_
  refine g_iaload 14 27 rfl rfl h.1.2.1 h.1.2.2.2.1 (by omega) (by omega) (by omega) (h.2.2.2 i hi) ?_
  refine e_goto 15 31 rfl rfl ?_
  exact e_ireturn 17 rfl rfl (Nat.le_of_ble_eq_true rfl) (Nat.le_of_ble_eq_true rfl)
theorem PH.snoc {σ : xSig} {p : Nat} {L : List Int} (h : PH σ p L) (hl : L.length < 24) (i : Int) : PH (xu (xu σ (p + 1) L.length i) p 1 (L.length + 1)) p (L ++ [i]) := by
  obtain ⟨h1, h2, h3, h4⟩ := h
  refine ⟨h1, by rw [xu_same]; simp, by simp; omega, fun j hj => ?_⟩
  rw [xu_other _ _ _ (by omega), List.getD_eq_getElem?_getD]
  simp only [List.length_append, List.length_singleton] at hj
  by_cases e : j = L.length
  · subst e
    rw [xu_same, List.getElem?_append_right (Nat.le_refl _), Nat.sub_self]
    rfl
  · rw [xu_ne _ (Or.inr (by omega)), h4 j (by omega), List.getElem?_append_left (by omega), List.getD_eq_getElem?_getD]
theorem sp_note {σ : xSig} {p : Nat} {L : List Int} (h : PH σ p L) (hl : L.length < 24) {i : Int} :
    ∃ σ' : xSig, x_Sp MX6_note 0 0 [.ref p, .int (ii i)] (St σ) vv (St σ') ∧ PH σ' p (L ++ [i]) ∧ Fr p σ σ' := by
  have hlen := h.2.1
  refine ⟨_, ?_, h.snoc hl i, Fr.xu1.tr Fr.xu0⟩
  have e1 : xu σ (p + 1) L.length i p 1 = L.length := by rw [xu_other _ _ _ (by omega)]; exact hlen
  refine e_entry okX6_note (Nat.le_of_ble_eq_true rfl) (ls := [some _, some _]) rfl ?_
  refine e_aload_n 0 1 rfl rfl rfl rfl ?_
  refine g_getI 1 4 1 ckX6 flX6_15 rfl rfl h.1.1 h.1.2.2.1 rfl rfl hlen ?_
  refine e_if_lt 2 39 7 rfl rfl rfl (by unfold xr at *; omega) (fun h9 => absurd h9 (by omega)) (fun _ => ?_)
  refine e_aload_n 3 8 rfl rfl rfl rfl ?_
  refine g_getI 4 11 1 ckX6 flX6_15 rfl rfl h.1.1 h.1.2.2.1 rfl rfl hlen ?_
  refine e_aload_n 5 12 rfl rfl rfl rfl ?_
  refine g_getR 6 15 ckX6 flX6_9 rfl rfl h.1.1 h.1.2.2.1 rfl ?_
  refine g_alen 7 16 rfl rfl h.1.2.1 h.1.2.2.2.1 (Nat.le_of_ble_eq_true rfl) ?_
  refine e_icmp_ge 8 39 19 rfl rfl rfl (by unfold xr at *; omega) (by unfold xr at *; omega) (fun h9 => absurd h9 (by omega)) (fun _ => ?_)
  refine e_aload_n 9 20 rfl rfl rfl rfl ?_
  refine g_getR 10 23 ckX6 flX6_9 rfl rfl h.1.1 h.1.2.2.1 rfl ?_
  refine e_aload_n 11 24 rfl rfl rfl rfl ?_
  refine g_getI 12 27 1 ckX6 flX6_15 rfl rfl h.1.1 h.1.2.2.1 rfl rfl hlen ?_
  refine e_iload_n 13 28 rfl rfl rfl rfl ?_
  refine g_iastore 14 29 rfl rfl h.1.2.1 h.1.2.2.2.1 (by omega) (by omega) (by omega) ?_
  refine e_aload_n 15 30 rfl rfl rfl rfl ?_
  refine e_dup 16 31 rfl rfl rfl ?_
  refine g_getI 17 34 1 ckX6 flX6_15 rfl rfl h.1.1 h.1.2.2.1 rfl rfl e1 ?_
  refine e_iconst 18 35 rfl rfl ?_
  refine e_iadd 19 36 rfl rfl ?_
  refine g_putI 20 39 1 ckX6 flX6_15 rfl rfl h.1.1 h.1.2.2.1 rfl rfl ?_
  exact e_return 21 rfl rfl (Nat.le_of_ble_eq_true rfl) (Nat.le_of_ble_eq_true rfl)
/-- the places of a row's parts, in the signs behind its own -/
def nsc : List Int → Int → Int → List Int
  | [], _, _ => []
  | x :: r, d, i => if d < 0 then [] else (if d = 0 ∧ x ≠ 0 then [i] else []) ++ nsc r (d + trn x) (i + 1)
/-- what is had at a place: it, and behind a row the places of its parts -/
def tkl (t : List Int) (i : Int) : List Int := if i < 0 then [] else i :: (if tok t i = 4000 then nsc (t.drop (i.toNat + 1)) 0 (i + 1) else [])
theorem PH.fr {σ σ' : xSig} {p a : Nat} {L : List Int} (h : PH σ p L) (h1 : σ' p = σ p) (h2 : σ' (p + 1) = σ (p + 1)) : PH σ' p L := by
  obtain ⟨q1, q2, q3, q4⟩ := h
  exact ⟨q1, by rw [h1]; exact q2, q3, fun i hi => by rw [h2]; exact q4 i hi⟩
theorem VH.pl {σ σ' : xSig} {p b cap : Nat} {t : List Int} (h : VH σ b cap t) (hb : vO b = true) (hp : isPl p) (hF : Fr p σ σ') : VH σ' b cap t := by
  have e1 : ∀ c, vA c = true → c ≠ p ∧ c ≠ p + 1 := fun c hc => ⟨(fun e => by rw [e, hp.2.2.2.2.1] at hc; cases hc), (fun e => by rw [e, hp.2.2.2.2.2] at hc; cases hc)⟩
  have e2 := e1 b (vA_of hb).1
  have e3 := e1 (b + 1) (vA_of hb).2
  exact h.same (hF b e2.1 e2.2) (hF (b + 1) e3.1 e3.2)
theorem sp_take {σ : xSig} {p a cap : Nat} {t L : List Int} (hV : VH σ a cap t) (ha : vO a = true) (h : PH σ p L) {i : Int} (hi : xr i) (h24 : L.length + (tkl t i).length ≤ 24) :
    ∃ σ' : xSig, x_Sp MX6_take 0 0 [.ref p, .ref a, .int (ii i)] (St σ) vv (St σ') ∧ PH σ' p (L ++ tkl t i) ∧ Fr p σ σ' := by
  unfold xr at hi
  by_cases hn : i < 0
  · refine ⟨σ, ?_, by unfold tkl; rw [if_pos hn, List.append_nil]; exact h, Fr.rf⟩
    refine e_entry okX6_take (Nat.le_of_ble_eq_true rfl) (ls := [some _, some _, some _, none, none, none]) rfl ?_
    refine e_iload_n 0 1 rfl rfl rfl rfl ?_
    refine e_if_ge 1 5 4 rfl rfl rfl (by unfold xr at *; omega) (fun h9 => absurd h9 (by omega)) (fun _ => ?_)
    exact e_return 2 rfl rfl (Nat.le_of_ble_eq_true rfl) (Nat.le_of_ble_eq_true rfl)
  · have hcap := hV.2.2.1
    have h200 := hV.2.2.2.1
    have e : tkl t i = i :: (if tok t i = 4000 then nsc (t.drop (i.toNat + 1)) 0 (i + 1) else []) := by unfold tkl; rw [if_neg hn]
    rw [e] at h24
    simp only [List.length_cons] at h24
    obtain ⟨σ1, h1, h2, h3⟩ := sp_note h (by omega) (i := i)
    have hV1 := hV.pl ha h.1 h3
    have hb := hV.bnd i
    by_cases h4 : tok t i = 4000
    · rw [if_pos h4] at e h24
      have hit : i < t.length := by
        rcases (by omega : i < (t.length : Int) ∨ (t.length : Int) ≤ i) with q | q
        · exact q
        · rw [tok_big q] at h4
          omega
      have loop : ∀ (r q9 L9 : List Int) (d : Int) (σ2 : xSig), t = q9 ++ r → VH σ2 a cap t → PH σ2 p L9 → Fr p σ σ2 → -(q9.length : Int) ≤ d → d ≤ q9.length → L9.length + (nsc r d q9.length).length ≤ 24 → ∃ σ' : xSig, x_E MX6_take 0 0 29 [some (.ref p), some (.ref a), some (.int (ii i)), some (.int (ii d)), some (.int (ii q9.length)), none] [] (St σ2) 0 0 vv (St σ') ∧ PH σ' p (L9 ++ nsc r d q9.length) ∧ Fr p σ σ' := by
        intro r
        induction r with
        | nil =>
          intro q9 L9 d σ2 ht hV2 hP2 hF2 hd1 hd2 hl9
          have hlen := hV2.2.1
          have hl : t.length = q9.length := by rw [ht]; simp
          refine ⟨σ2, ?_, by simpa [nsc] using hP2, hF2⟩
          refine e_iload 18 31 rfl rfl rfl ?_
          refine e_aload_n 19 32 rfl rfl rfl rfl ?_
          refine g_getIN 20 35 1 ckX10 fnX6_37 rfl rfl hV2.1.1 hV2.1.2.2.1 rfl rfl hlen ?_
          refine e_icmp_ge 21 79 38 rfl rfl rfl (by unfold xr at *; omega) (by unfold xr at *; omega) (fun _ => ?_) (fun h9 => absurd h9 (by omega))
          exact e_return 42 rfl rfl (Nat.le_of_ble_eq_true rfl) (Nat.le_of_ble_eq_true rfl)
        | cons x r ih =>
          intro q9 L9 d σ2 ht hV2 hP2 hF2 hd1 hd2 hl9
          have hlen := hV2.2.1
          have hl : t.length = q9.length + r.length + 1 := by rw [ht]; simp; omega
          have hx : tok t q9.length = x := by rw [ht]; exact tok_hd q9 x r
          have hxb := hV.bnd q9.length
          rw [hx] at hxb
          have htr := trn_in x
          by_cases hd : d < 0
          · refine ⟨σ2, ?_, by simp only [nsc]; rw [if_pos hd, List.append_nil]; exact hP2, hF2⟩
            refine e_iload 18 31 rfl rfl rfl ?_
            refine e_aload_n 19 32 rfl rfl rfl rfl ?_
            refine g_getIN 20 35 1 ckX10 fnX6_37 rfl rfl hV2.1.1 hV2.1.2.2.1 rfl rfl hlen ?_
            refine e_icmp_ge 21 79 38 rfl rfl rfl (by unfold xr at *; omega) (by unfold xr at *; omega) (fun h9 => absurd h9 (by omega)) (fun _ => ?_)
            refine e_iload_n 22 39 rfl rfl rfl rfl ?_
            refine e_if_lt 23 79 42 rfl rfl rfl (by unfold xr at *; omega) (fun _ => ?_) (fun h9 => absurd h9 (by omega))
            exact e_return 42 rfl rfl (Nat.le_of_ble_eq_true rfl) (Nat.le_of_ble_eq_true rfl)
          · have e3 : nsc (x :: r) d q9.length = (if d = 0 ∧ x ≠ 0 then [(q9.length : Int)] else []) ++ nsc r (d + trn x) (q9.length + 1) := by simp only [nsc]; rw [if_neg hd]
            rw [e3] at hl9 ⊢
            by_cases hc : d = 0 ∧ x ≠ 0
            · rw [if_pos hc] at hl9 ⊢
              simp only [List.length_append, List.length_singleton] at hl9
              obtain ⟨σ3, k1, k2, k3⟩ := sp_note hP2 (by omega) (i := q9.length)
              have hV3 := hV2.pl ha h.1 k3
              obtain ⟨σ', m1, m2, m3⟩ := ih (q9 ++ [x]) (L9 ++ [(q9.length : Int)]) (d + trn x) σ3 (by rw [ht, app_s]) hV3 k2 (hF2.tr k3) (by rw [len_s]; omega) (by rw [len_s]; omega) (by rw [len_s]; simp only [List.length_append, List.length_singleton]; omega)
              rw [len_s] at m1 m2
              refine ⟨σ', ?_, by simpa using m2, m3⟩
              refine e_iload 18 31 rfl rfl rfl ?_
              refine e_aload_n 19 32 rfl rfl rfl rfl ?_
              refine g_getIN 20 35 1 ckX10 fnX6_37 rfl rfl hV2.1.1 hV2.1.2.2.1 rfl rfl hlen ?_
              refine e_icmp_ge 21 79 38 rfl rfl rfl (by unfold xr at *; omega) (by unfold xr at *; omega) (fun h9 => absurd h9 (by omega)) (fun _ => ?_)
              refine e_iload_n 22 39 rfl rfl rfl rfl ?_
              refine e_if_lt 23 79 42 rfl rfl rfl (by unfold xr at *; omega) (fun h9 => absurd h9 (by omega)) (fun _ => ?_)
              refine e_aload_n 24 43 rfl rfl rfl rfl ?_
              refine e_iload 25 45 rfl rfl rfl ?_
              refine g_callV 26 48 (sp_signAt hV2 (i := q9.length) (by unfold xr; omega)) okX10_signAt cvX6_40 ⟨(Nat.le_of_ble_eq_true rfl), (Nat.le_of_ble_eq_true rfl)⟩ rfl rfl hV2.1.1 hV2.1.2.2.1 rfl rfl rfl rfl (Nat.le_of_ble_eq_true rfl) (Nat.le_of_ble_eq_true rfl) (Nat.le_of_ble_eq_true rfl) ?_
              rw [hx]
              refine e_istore 27 50 (ls' := [some _, some _, some _, some _, some _, some _]) rfl rfl (Nat.le_of_ble_eq_true rfl) rfl ?_
              refine e_iload_n 28 51 rfl rfl rfl rfl ?_
              refine e_if_ne 29 65 54 rfl rfl rfl (by unfold xr at *; omega) (fun h9 => absurd h9 (fun q => q hc.1)) (fun _ => ?_)
              refine e_iload 30 56 rfl rfl rfl ?_
              refine e_if_eq 31 65 59 rfl rfl rfl (by unfold xr at *; omega) (fun h9 => absurd h9 (hc.2)) (fun _ => ?_)
              refine e_aload_n 32 60 rfl rfl rfl rfl ?_
              refine e_iload 33 62 rfl rfl rfl ?_
              refine g_callV 34 65 (k1) okX6_note cvX6_46 ⟨(Nat.le_of_ble_eq_true rfl), (Nat.le_of_ble_eq_true rfl)⟩ rfl rfl h.1.1 h.1.2.2.1 rfl rfl rfl rfl (Nat.le_of_ble_eq_true rfl) (Nat.le_of_ble_eq_true rfl) (Nat.le_of_ble_eq_true rfl) ?_
              refine e_iload_n 35 66 rfl rfl rfl rfl ?_
              refine e_iload 36 68 rfl rfl rfl ?_
              refine g_callS 37 71 (sp_turnOf hxb) okX10_turnOf csX6_43 ⟨(Nat.le_of_ble_eq_true rfl), (Nat.le_of_ble_eq_true rfl)⟩ rfl rfl rfl rfl (Nat.le_of_ble_eq_true rfl) (Nat.le_of_ble_eq_true rfl) (Nat.le_of_ble_eq_true rfl) ?_
              refine e_iadd 38 72 rfl rfl ?_
              refine e_istore_n 39 73 (ls' := [some _, some _, some _, some _, some _, some _]) rfl rfl rfl (Nat.le_of_ble_eq_true rfl) rfl ?_
              refine e_iinc 40 76 (ls' := [some _, some _, some _, some _, some _, some _]) rfl rfl (Nat.le_of_ble_eq_true rfl) rfl rfl ?_
              refine e_goto 41 29 rfl rfl ?_
              refine e_dropm [true, true, true, true, true, false] (ls' := [some _, some _, some _, some _, some _, none]) rfl ?_
              exact m1
            · rw [if_neg hc] at hl9 ⊢
              rw [List.nil_append] at hl9
              obtain ⟨σ', m1, m2, m3⟩ := ih (q9 ++ [x]) L9 (d + trn x) σ2 (by rw [ht, app_s]) hV2 hP2 hF2 (by rw [len_s]; omega) (by rw [len_s]; omega) (by rw [len_s]; omega)
              rw [len_s] at m1 m2
              have on : x_E MX6_take 0 0 65 [some (.ref p), some (.ref a), some (.int (ii i)), some (.int (ii d)), some (.int (ii q9.length)), some (.int (ii x))] [] (St σ2) 0 0 vv (St σ') := by
                refine e_iload_n 35 66 rfl rfl rfl rfl ?_
                refine e_iload 36 68 rfl rfl rfl ?_
                refine g_callS 37 71 (sp_turnOf hxb) okX10_turnOf csX6_43 ⟨(Nat.le_of_ble_eq_true rfl), (Nat.le_of_ble_eq_true rfl)⟩ rfl rfl rfl rfl (Nat.le_of_ble_eq_true rfl) (Nat.le_of_ble_eq_true rfl) (Nat.le_of_ble_eq_true rfl) ?_
                refine e_iadd 38 72 rfl rfl ?_
                refine e_istore_n 39 73 (ls' := [some _, some _, some _, some _, some _, some _]) rfl rfl rfl (Nat.le_of_ble_eq_true rfl) rfl ?_
                refine e_iinc 40 76 (ls' := [some _, some _, some _, some _, some _, some _]) rfl rfl (Nat.le_of_ble_eq_true rfl) rfl rfl ?_
                refine e_goto 41 29 rfl rfl ?_
                refine e_dropm [true, true, true, true, true, false] (ls' := [some _, some _, some _, some _, some _, none]) rfl ?_
                exact m1
              refine ⟨σ', ?_, by simpa using m2, m3⟩
              refine e_iload 18 31 rfl rfl rfl ?_
              refine e_aload_n 19 32 rfl rfl rfl rfl ?_
              refine g_getIN 20 35 1 ckX10 fnX6_37 rfl rfl hV2.1.1 hV2.1.2.2.1 rfl rfl hlen ?_
              refine e_icmp_ge 21 79 38 rfl rfl rfl (by unfold xr at *; omega) (by unfold xr at *; omega) (fun h9 => absurd h9 (by omega)) (fun _ => ?_)
              refine e_iload_n 22 39 rfl rfl rfl rfl ?_
              refine e_if_lt 23 79 42 rfl rfl rfl (by unfold xr at *; omega) (fun h9 => absurd h9 (by omega)) (fun _ => ?_)
              refine e_aload_n 24 43 rfl rfl rfl rfl ?_
              refine e_iload 25 45 rfl rfl rfl ?_
              refine g_callV 26 48 (sp_signAt hV2 (i := q9.length) (by unfold xr; omega)) okX10_signAt cvX6_40 ⟨(Nat.le_of_ble_eq_true rfl), (Nat.le_of_ble_eq_true rfl)⟩ rfl rfl hV2.1.1 hV2.1.2.2.1 rfl rfl rfl rfl (Nat.le_of_ble_eq_true rfl) (Nat.le_of_ble_eq_true rfl) (Nat.le_of_ble_eq_true rfl) ?_
              rw [hx]
              refine e_istore 27 50 (ls' := [some _, some _, some _, some _, some _, some _]) rfl rfl (Nat.le_of_ble_eq_true rfl) rfl ?_
              refine e_iload_n 28 51 rfl rfl rfl rfl ?_
              refine e_if_ne 29 65 54 rfl rfl rfl (by unfold xr at *; omega) (fun h5 => ?_) (fun h5 => ?_)
              · skip
                exact on
              · skip
                refine e_iload 30 56 rfl rfl rfl ?_
                refine e_if_eq 31 65 59 rfl rfl rfl (by unfold xr at *; omega) (fun _ => ?_) (fun h9 => absurd h9 (fun q => hc ⟨h5, q⟩))
                exact on
      have ht2 : t = t.take (i.toNat + 1) ++ t.drop (i.toNat + 1) := (List.take_append_drop _ _).symm
      have hl2 : ((t.take (i.toNat + 1)).length : Int) = i + 1 := by rw [List.length_take]; omega
      obtain ⟨σ', m1, m2, m3⟩ := loop (t.drop (i.toNat + 1)) (t.take (i.toNat + 1)) (L ++ [i]) 0 σ1 ht2 hV1 h2 h3 (by omega) (by omega) (by rw [hl2]; simp only [List.length_append, List.length_singleton]; omega)
      rw [hl2] at m1 m2
      refine ⟨σ', ?_, by rw [e]; simpa using m2, m3⟩
      refine e_entry okX6_take (Nat.le_of_ble_eq_true rfl) (ls := [some _, some _, some _, none, none, none]) rfl ?_
      refine e_iload_n 0 1 rfl rfl rfl rfl ?_
      refine e_if_ge 1 5 4 rfl rfl rfl (by unfold xr at *; omega) (fun _ => ?_) (fun h9 => absurd h9 (by omega))
      refine e_aload_n 3 6 rfl rfl rfl rfl ?_
      refine e_iload_n 4 7 rfl rfl rfl rfl ?_
      refine g_callV 5 10 (h1) okX6_note cvX6_46 ⟨(Nat.le_of_ble_eq_true rfl), (Nat.le_of_ble_eq_true rfl)⟩ rfl rfl h.1.1 h.1.2.2.1 rfl rfl rfl rfl (Nat.le_of_ble_eq_true rfl) (Nat.le_of_ble_eq_true rfl) (Nat.le_of_ble_eq_true rfl) ?_
      refine e_aload_n 6 11 rfl rfl rfl rfl ?_
      refine e_iload_n 7 12 rfl rfl rfl rfl ?_
      refine g_callV 8 15 (sp_signAt hV1 (by unfold xr; omega)) okX10_signAt cvX6_40 ⟨(Nat.le_of_ble_eq_true rfl), (Nat.le_of_ble_eq_true rfl)⟩ rfl rfl hV.1.1 hV.1.2.2.1 rfl rfl rfl rfl (Nat.le_of_ble_eq_true rfl) (Nat.le_of_ble_eq_true rfl) (Nat.le_of_ble_eq_true rfl) ?_
      rw [h4]
      refine e_sipush 9 18 rfl rfl rfl ?_
      refine e_icmp_eq 10 22 21 rfl rfl rfl (by unfold xr at *; omega) (by unfold xr at *; omega) (fun _ => ?_) (fun h9 => absurd h9 (by omega))
      refine e_iconst 12 23 rfl rfl ?_
      refine e_istore_n 13 24 (ls' := [some _, some _, some _, some _, none, none]) rfl rfl rfl (Nat.le_of_ble_eq_true rfl) rfl ?_
      refine e_iload_n 14 25 rfl rfl rfl rfl ?_
      refine e_iconst 15 26 rfl rfl ?_
      refine e_iadd 16 27 rfl rfl ?_
      refine e_istore 17 29 (ls' := [some _, some _, some _, some _, some _, none]) rfl rfl (Nat.le_of_ble_eq_true rfl) rfl ?_
      exact m1
    · rw [if_neg h4] at e
      refine ⟨σ1, ?_, by rw [e]; exact h2, h3⟩
      refine e_entry okX6_take (Nat.le_of_ble_eq_true rfl) (ls := [some _, some _, some _, none, none, none]) rfl ?_
      refine e_iload_n 0 1 rfl rfl rfl rfl ?_
      refine e_if_ge 1 5 4 rfl rfl rfl (by unfold xr at *; omega) (fun _ => ?_) (fun h9 => absurd h9 (by omega))
      refine e_aload_n 3 6 rfl rfl rfl rfl ?_
      refine e_iload_n 4 7 rfl rfl rfl rfl ?_
      refine g_callV 5 10 (h1) okX6_note cvX6_46 ⟨(Nat.le_of_ble_eq_true rfl), (Nat.le_of_ble_eq_true rfl)⟩ rfl rfl h.1.1 h.1.2.2.1 rfl rfl rfl rfl (Nat.le_of_ble_eq_true rfl) (Nat.le_of_ble_eq_true rfl) (Nat.le_of_ble_eq_true rfl) ?_
      refine e_aload_n 6 11 rfl rfl rfl rfl ?_
      refine e_iload_n 7 12 rfl rfl rfl rfl ?_
      refine g_callV 8 15 (sp_signAt hV1 (by unfold xr; omega)) okX10_signAt cvX6_40 ⟨(Nat.le_of_ble_eq_true rfl), (Nat.le_of_ble_eq_true rfl)⟩ rfl rfl hV.1.1 hV.1.2.2.1 rfl rfl rfl rfl (Nat.le_of_ble_eq_true rfl) (Nat.le_of_ble_eq_true rfl) (Nat.le_of_ble_eq_true rfl) ?_
      refine e_sipush 9 18 rfl rfl rfl ?_
      refine e_icmp_eq 10 22 21 rfl rfl rfl (by unfold xr at *; omega) (by unfold xr at *; omega) (fun h9 => absurd h9 (by omega)) (fun _ => ?_)
      exact e_return 11 rfl rfl (Nat.le_of_ble_eq_true rfl) (Nat.le_of_ble_eq_true rfl)

/-- the places at a field of the objects that are parts of a row, in the signs behind the row's own -/
def tsc (t : List Int) : List Int → Int → Int → Int → List Int
  | [], _, _, _ => []
  | x :: r, f, d, i => if d < 0 then [] else (if d = 1 ∧ x = 1 + f then tkl t (i + 1) else []) ++ tsc t r f (d + trn x) (i + 1)
theorem sp_takeOfEach {σ : xSig} {p a cap : Nat} {t L : List Int} (hV : VH σ a cap t) (ha : vO a = true) (h : PH σ p L) {f : Int} (hf : 0 ≤ f ∧ f < 8) (p0 r0 : List Int) (h0 : t = p0 ++ r0) (hp0 : 0 < p0.length) (h24 : L.length + (tsc t r0 f 0 p0.length).length ≤ 24) :
    ∃ σ' : xSig, x_Sp MX6_takeOfEach 0 0 [.ref p, .ref a, .int (ii (p0.length - 1)), .int (ii f)] (St σ) vv (St σ') ∧ PH σ' p (L ++ tsc t r0 f 0 p0.length) ∧ Fr p σ σ' := by
  have hcap := hV.2.2.1
  have h200 := hV.2.2.2.1
  have hl0 : p0.length ≤ t.length := by rw [h0]; simp
  have loop : ∀ (r q9 L9 : List Int) (d : Int) (σ2 : xSig), t = q9 ++ r → VH σ2 a cap t → PH σ2 p L9 → Fr p σ σ2 → -(q9.length : Int) ≤ d → d ≤ q9.length → L9.length + (tsc t r f d q9.length).length ≤ 24 → ∃ σ' : xSig, x_E MX6_takeOfEach 0 0 8 [some (.ref p), some (.ref a), some (.int (ii (p0.length - 1))), some (.int (ii f)), some (.int (ii d)), some (.int (ii q9.length)), none] [] (St σ2) 0 0 vv (St σ') ∧ PH σ' p (L9 ++ tsc t r f d q9.length) ∧ Fr p σ σ' := by
    intro r
    induction r with
    | nil =>
      intro q9 L9 d σ2 ht hV2 hP2 hF2 hd1 hd2 hl9
      have hlen := hV2.2.1
      have hl : t.length = q9.length := by rw [ht]; simp
      refine ⟨σ2, ?_, by simpa [tsc] using hP2, hF2⟩
      refine e_iload 6 10 rfl rfl rfl ?_
      refine e_aload_n 7 11 rfl rfl rfl rfl ?_
      refine g_getIN 8 14 1 ckX10 fnX6_37 rfl rfl hV2.1.1 hV2.1.2.2.1 rfl rfl hlen ?_
      refine e_icmp_ge 9 69 17 rfl rfl rfl (by unfold xr at *; omega) (by unfold xr at *; omega) (fun _ => ?_) (fun h9 => absurd h9 (by omega))
      exact e_return 37 rfl rfl (Nat.le_of_ble_eq_true rfl) (Nat.le_of_ble_eq_true rfl)
    | cons x r ih =>
      intro q9 L9 d σ2 ht hV2 hP2 hF2 hd1 hd2 hl9
      have hlen := hV2.2.1
      have hl : t.length = q9.length + r.length + 1 := by rw [ht]; simp; omega
      have hx : tok t q9.length = x := by rw [ht]; exact tok_hd q9 x r
      have hxb := hV.bnd q9.length
      rw [hx] at hxb
      have htr := trn_in x
      by_cases hd : d < 0
      · refine ⟨σ2, ?_, by simp only [tsc]; rw [if_pos hd, List.append_nil]; exact hP2, hF2⟩
        refine e_iload 6 10 rfl rfl rfl ?_
        refine e_aload_n 7 11 rfl rfl rfl rfl ?_
        refine g_getIN 8 14 1 ckX10 fnX6_37 rfl rfl hV2.1.1 hV2.1.2.2.1 rfl rfl hlen ?_
        refine e_icmp_ge 9 69 17 rfl rfl rfl (by unfold xr at *; omega) (by unfold xr at *; omega) (fun h9 => absurd h9 (by omega)) (fun _ => ?_)
        refine e_iload 10 19 rfl rfl rfl ?_
        refine e_if_lt 11 69 22 rfl rfl rfl (by unfold xr at *; omega) (fun _ => ?_) (fun h9 => absurd h9 (by omega))
        exact e_return 37 rfl rfl (Nat.le_of_ble_eq_true rfl) (Nat.le_of_ble_eq_true rfl)
      · have e3 : tsc t (x :: r) f d q9.length = (if d = 1 ∧ x = 1 + f then tkl t (q9.length + 1) else []) ++ tsc t r f (d + trn x) (q9.length + 1) := by simp only [tsc]; rw [if_neg hd]
        rw [e3] at hl9 ⊢
        have on : ∀ (σ3 : xSig) (L3 : List Int), VH σ3 a cap t → PH σ3 p L3 → Fr p σ σ3 → L3.length + (tsc t r f (d + trn x) (q9.length + 1)).length ≤ 24 → ∃ σ' : xSig, x_E MX6_takeOfEach 0 0 53 [some (.ref p), some (.ref a), some (.int (ii (p0.length - 1))), some (.int (ii f)), some (.int (ii d)), some (.int (ii q9.length)), some (.int (ii x))] [] (St σ3) 0 0 vv (St σ') ∧ PH σ' p (L3 ++ tsc t r f (d + trn x) (q9.length + 1)) ∧ Fr p σ σ' := by
          intro σ3 L3 hV3 hP3 hF3 hl3
          obtain ⟨σ', m1, m2, m3⟩ := ih (q9 ++ [x]) L3 (d + trn x) σ3 (by rw [ht, app_s]) hV3 hP3 hF3 (by rw [len_s]; omega) (by rw [len_s]; omega) (by rw [len_s]; exact hl3)
          rw [len_s] at m1 m2
          refine ⟨σ', ?_, m2, m3⟩
          refine e_iload 30 55 rfl rfl rfl ?_
          refine e_iload 31 57 rfl rfl rfl ?_
          refine g_callS 32 60 (sp_turnOf hxb) okX10_turnOf csX6_43 ⟨(Nat.le_of_ble_eq_true rfl), (Nat.le_of_ble_eq_true rfl)⟩ rfl rfl rfl rfl (Nat.le_of_ble_eq_true rfl) (Nat.le_of_ble_eq_true rfl) (Nat.le_of_ble_eq_true rfl) ?_
          refine e_iadd 33 61 rfl rfl ?_
          refine e_istore 34 63 (ls' := [some _, some _, some _, some _, some _, some _, some _]) rfl rfl (Nat.le_of_ble_eq_true rfl) rfl ?_
          refine e_iinc 35 66 (ls' := [some _, some _, some _, some _, some _, some _, some _]) rfl rfl (Nat.le_of_ble_eq_true rfl) rfl rfl ?_
          refine e_goto 36 8 rfl rfl ?_
          refine e_dropm [true, true, true, true, true, true, false] (ls' := [some _, some _, some _, some _, some _, some _, none]) rfl ?_
          exact m1
        by_cases hc : d = 1 ∧ x = 1 + f
        · rw [if_pos hc] at hl9 ⊢
          simp only [List.length_append] at hl9
          obtain ⟨σ3, k1, k2, k3⟩ := sp_take hV2 ha hP2 (i := (q9.length : Int) + 1) (by unfold xr; omega) (by omega)
          obtain ⟨σ', m1, m2, m3⟩ := on σ3 _ (hV2.pl ha h.1 k3) k2 (hF2.tr k3) (by simp only [List.length_append]; omega)
          refine ⟨σ', ?_, by simpa using m2, m3⟩
          refine e_iload 6 10 rfl rfl rfl ?_
          refine e_aload_n 7 11 rfl rfl rfl rfl ?_
          refine g_getIN 8 14 1 ckX10 fnX6_37 rfl rfl hV2.1.1 hV2.1.2.2.1 rfl rfl hlen ?_
          refine e_icmp_ge 9 69 17 rfl rfl rfl (by unfold xr at *; omega) (by unfold xr at *; omega) (fun h9 => absurd h9 (by omega)) (fun _ => ?_)
          refine e_iload 10 19 rfl rfl rfl ?_
          refine e_if_lt 11 69 22 rfl rfl rfl (by unfold xr at *; omega) (fun h9 => absurd h9 (by omega)) (fun _ => ?_)
          refine e_aload_n 12 23 rfl rfl rfl rfl ?_
          refine e_iload 13 25 rfl rfl rfl ?_
          refine g_callV 14 28 (sp_signAt hV2 (i := q9.length) (by unfold xr; omega)) okX10_signAt cvX6_40 ⟨(Nat.le_of_ble_eq_true rfl), (Nat.le_of_ble_eq_true rfl)⟩ rfl rfl hV2.1.1 hV2.1.2.2.1 rfl rfl rfl rfl (Nat.le_of_ble_eq_true rfl) (Nat.le_of_ble_eq_true rfl) (Nat.le_of_ble_eq_true rfl) ?_
          rw [hx]
          refine e_istore 15 30 (ls' := [some _, some _, some _, some _, some _, some _, some _]) rfl rfl (Nat.le_of_ble_eq_true rfl) rfl ?_
          refine e_iload 16 32 rfl rfl rfl ?_
          refine e_iconst 17 33 rfl rfl ?_
          refine e_icmp_ne 18 53 36 rfl rfl rfl (by unfold xr at *; omega) (by unfold xr at *; omega) (fun h9 => absurd h9 (fun q => q hc.1)) (fun _ => ?_)
          refine e_iload 19 38 rfl rfl rfl ?_
          refine e_iconst 20 39 rfl rfl ?_
          refine e_iload_n 21 40 rfl rfl rfl rfl ?_
          refine e_iadd 22 41 rfl rfl ?_
          refine e_icmp_ne 23 53 44 rfl rfl rfl (by unfold xr at *; omega) (by unfold xr at *; omega) (fun h9 => absurd h9 (fun q => q hc.2)) (fun _ => ?_)
          refine e_aload_n 24 45 rfl rfl rfl rfl ?_
          refine e_aload_n 25 46 rfl rfl rfl rfl ?_
          refine e_iload 26 48 rfl rfl rfl ?_
          refine e_iconst 27 49 rfl rfl ?_
          refine e_iadd 28 50 rfl rfl ?_
          refine g_callV 29 53 (k1) okX6_take cvX6_25 ⟨(Nat.le_of_ble_eq_true rfl), (Nat.le_of_ble_eq_true rfl)⟩ rfl rfl h.1.1 h.1.2.2.1 rfl rfl rfl rfl (Nat.le_of_ble_eq_true rfl) (Nat.le_of_ble_eq_true rfl) (Nat.le_of_ble_eq_true rfl) ?_
          exact m1
        · rw [if_neg hc] at hl9 ⊢
          rw [List.nil_append] at hl9
          obtain ⟨σ', m1, m2, m3⟩ := on σ2 L9 hV2 hP2 hF2 (by omega)
          refine ⟨σ', ?_, by simpa using m2, m3⟩
          refine e_iload 6 10 rfl rfl rfl ?_
          refine e_aload_n 7 11 rfl rfl rfl rfl ?_
          refine g_getIN 8 14 1 ckX10 fnX6_37 rfl rfl hV2.1.1 hV2.1.2.2.1 rfl rfl hlen ?_
          refine e_icmp_ge 9 69 17 rfl rfl rfl (by unfold xr at *; omega) (by unfold xr at *; omega) (fun h9 => absurd h9 (by omega)) (fun _ => ?_)
          refine e_iload 10 19 rfl rfl rfl ?_
          refine e_if_lt 11 69 22 rfl rfl rfl (by unfold xr at *; omega) (fun h9 => absurd h9 (by omega)) (fun _ => ?_)
          refine e_aload_n 12 23 rfl rfl rfl rfl ?_
          refine e_iload 13 25 rfl rfl rfl ?_
          refine g_callV 14 28 (sp_signAt hV2 (i := q9.length) (by unfold xr; omega)) okX10_signAt cvX6_40 ⟨(Nat.le_of_ble_eq_true rfl), (Nat.le_of_ble_eq_true rfl)⟩ rfl rfl hV2.1.1 hV2.1.2.2.1 rfl rfl rfl rfl (Nat.le_of_ble_eq_true rfl) (Nat.le_of_ble_eq_true rfl) (Nat.le_of_ble_eq_true rfl) ?_
          rw [hx]
          refine e_istore 15 30 (ls' := [some _, some _, some _, some _, some _, some _, some _]) rfl rfl (Nat.le_of_ble_eq_true rfl) rfl ?_
          refine e_iload 16 32 rfl rfl rfl ?_
          refine e_iconst 17 33 rfl rfl ?_
          refine e_icmp_ne 18 53 36 rfl rfl rfl (by unfold xr at *; omega) (by unfold xr at *; omega) (fun h5 => ?_) (fun h5 => ?_)
          · skip
            exact m1
          · skip
            refine e_iload 19 38 rfl rfl rfl ?_
            refine e_iconst 20 39 rfl rfl ?_
            refine e_iload_n 21 40 rfl rfl rfl rfl ?_
            refine e_iadd 22 41 rfl rfl ?_
            refine e_icmp_ne 23 53 44 rfl rfl rfl (by unfold xr at *; omega) (by unfold xr at *; omega) (fun _ => ?_) (fun h9 => absurd h9 (fun q => hc ⟨h5, q⟩))
            exact m1
  obtain ⟨σ', m1, m2, m3⟩ := loop r0 p0 L 0 σ h0 hV h Fr.rf (by omega) (by omega) h24
  refine ⟨σ', ?_, m2, m3⟩
  refine e_entry okX6_takeOfEach (Nat.le_of_ble_eq_true rfl) (ls := [some _, some _, some _, some _, none, none, none]) rfl ?_
  refine e_iconst 0 1 rfl rfl ?_
  refine e_istore 1 3 (ls' := [some _, some _, some _, some _, some _, none, none]) rfl rfl (Nat.le_of_ble_eq_true rfl) rfl ?_
  refine e_iload_n 2 4 rfl rfl rfl rfl ?_
  refine e_iconst 3 5 rfl rfl ?_
  refine e_iadd 4 6 rfl rfl ?_
  refine e_istore 5 8 (ls' := [some _, some _, some _, some _, some _, some _, none]) rfl rfl (Nat.le_of_ble_eq_true rfl) rfl ?_
  rw [show (p0.length : Int) - 1 + 1 = p0.length by omega]
  exact m1
/-- the places of what a document has at a path -/
def atp (t : List Int) (path : Int) : List Int :=
  if path < 8 then tkl t (plc (t.take 1) (t.drop 1) path)
  else if knd (tok t (plc (t.take 1) (t.drop 1) (path / 8 - 1))) = 4 then tkl t (plc (t.take ((plc (t.take 1) (t.drop 1) (path / 8 - 1)).toNat + 1)) (t.drop ((plc (t.take 1) (t.drop 1) (path / 8 - 1)).toNat + 1)) (path % 8))
  else if knd (tok t (plc (t.take 1) (t.drop 1) (path / 8 - 1))) = 3 then tsc t (t.drop ((plc (t.take 1) (t.drop 1) (path / 8 - 1)).toNat + 1)) (path % 8) 0 (plc (t.take 1) (t.drop 1) (path / 8 - 1) + 1)
  else []
theorem plc_bnd (p0 r0 : List Int) (f : Int) : -1 ≤ plc p0 r0 f ∧ plc p0 r0 f ≤ p0.length + r0.length + 1 := by
  unfold plc
  have := ssc_le r0 f 0
  split <;> omega
theorem knd_tok_in {t : List Int} {i : Int} (h : knd (tok t i) ≠ 0) : 0 ≤ i ∧ i < t.length := by
  rcases (by omega : i < 0 ∨ (t.length : Int) ≤ i ∨ (0 ≤ i ∧ i < t.length)) with q | q | q
  · rw [tok_neg q] at h
    exact absurd rfl h
  · rw [tok_big q] at h
    exact absurd rfl h
  · exact q
theorem sp_gather {σ : xSig} {p a cap : Nat} {t L : List Int} (hV : VH σ a cap t) (ha : vO a = true) (ht : 0 < t.length) (hP : PH σ p L) {path : Int} (hp : 0 ≤ path ∧ path < 72) (h24 : (atp t path).length ≤ 24) :
    ∃ σ' : xSig, x_Sp MX6_gather 0 0 [.ref p, .ref a, .int (ii path)] (St σ) vv (St σ') ∧ PH σ' p (atp t path) ∧ Fr p σ σ' := by
  have hcap := hV.2.2.1
  have h200 := hV.2.2.2.1
  have hP0 : PH (xu σ p 1 0) p [] := ⟨hP.1, by rw [xu_same]; rfl, by simp, fun i hi => by simp at hi⟩
  have hV0 := hV.pl ha hP.1 (Fr.xu0 (σ := σ) (a := p) (j := 1) (v := 0))
  have ht1 : t = t.take 1 ++ t.drop 1 := (List.take_append_drop 1 t).symm
  have hl1 : (t.take 1).length = 1 := by rw [List.length_take]; omega
  have hplc : ∀ f : Int, 0 ≤ f ∧ f < 8 → Rd MX10_placeOf [.ref a, .int (ii 0), .int (ii f)] (xu σ p 1 0) (iv (plc (t.take 1) (t.drop 1) f)) := by
    intro f hf
    have := sp_placeOf hV0 hf (t.take 1) (t.drop 1) ht1 (by omega)
    rw [hl1] at this
    exact this
  have hb1 : ∀ f : Int, -1 ≤ plc (t.take 1) (t.drop 1) f ∧ plc (t.take 1) (t.drop 1) f ≤ 300 := fun f => by
    have := plc_bnd (t.take 1) (t.drop 1) f
    rw [hl1, List.length_drop] at this
    omega
  by_cases h8 : path < 8
  · have e : atp t path = tkl t (plc (t.take 1) (t.drop 1) path) := by unfold atp; rw [if_pos h8]
    have hq := hb1 path
    obtain ⟨σ', k1, k2, k3⟩ := sp_take hV0 ha hP0 (i := plc (t.take 1) (t.drop 1) path) (by unfold xr; omega) (by rw [← e]; simpa using h24)
    refine ⟨σ', ?_, by rw [e]; simpa using k2, Fr.xu0.tr k3⟩
    refine e_entry okX6_gather (Nat.le_of_ble_eq_true rfl) (ls := [some _, some _, some _, none, none, none]) rfl ?_
    refine e_aload_n 0 1 rfl rfl rfl rfl ?_
    refine e_iconst 1 2 rfl rfl ?_
    refine g_putI 2 5 1 ckX6 flX6_15 rfl rfl hP.1.1 hP.1.2.2.1 rfl rfl ?_
    refine e_iload_n 3 6 rfl rfl rfl rfl ?_
    refine e_bipush 4 8 rfl rfl rfl ?_
    refine e_icmp_ge 5 23 11 rfl rfl rfl (by unfold xr at *; omega) (by unfold xr at *; omega) (fun h9 => absurd h9 (by omega)) (fun _ => ?_)
    refine e_aload_n 6 12 rfl rfl rfl rfl ?_
    refine e_aload_n 7 13 rfl rfl rfl rfl ?_
    refine e_aload_n 8 14 rfl rfl rfl rfl ?_
    refine e_iconst 9 15 rfl rfl ?_
    refine e_iload_n 10 16 rfl rfl rfl rfl ?_
    refine g_callV 11 19 (hplc path ⟨hp.1, h8⟩) okX10_placeOf cvX6_19 ⟨(Nat.le_of_ble_eq_true rfl), (Nat.le_of_ble_eq_true rfl)⟩ rfl rfl hV.1.1 hV.1.2.2.1 rfl rfl rfl rfl (Nat.le_of_ble_eq_true rfl) (Nat.le_of_ble_eq_true rfl) (Nat.le_of_ble_eq_true rfl) ?_
    refine g_callV 12 22 (k1) okX6_take cvX6_25 ⟨(Nat.le_of_ble_eq_true rfl), (Nat.le_of_ble_eq_true rfl)⟩ rfl rfl hP.1.1 hP.1.2.2.1 rfl rfl rfl rfl (Nat.le_of_ble_eq_true rfl) (Nat.le_of_ble_eq_true rfl) (Nat.le_of_ble_eq_true rfl) ?_
    exact e_return 13 rfl rfl (Nat.le_of_ble_eq_true rfl) (Nat.le_of_ble_eq_true rfl)
  · have hf1 : 0 ≤ path / 8 - 1 ∧ path / 8 - 1 < 8 := by omega
    have hf2 : 0 ≤ path % 8 ∧ path % 8 < 8 := by omega
    have hq := hb1 (path / 8 - 1)
    generalize hz : plc (t.take 1) (t.drop 1) (path / 8 - 1) = z at hq
    have hk := hplc (path / 8 - 1) hf1
    rw [hz] at hk
    have hkn := knd_bnd (tok t z)
    have hxz : xr z := by unfold xr; omega
    by_cases h4 : knd (tok t z) = 4
    · have e : atp t path = tkl t (plc (t.take (z.toNat + 1)) (t.drop (z.toNat + 1)) (path % 8)) := by unfold atp; rw [if_neg h8, hz, if_pos h4]
      have hzi := knd_tok_in (t := t) (i := z) (by omega)
      have hl2 : ((t.take (z.toNat + 1)).length : Int) = z + 1 := by rw [List.length_take]; omega
      have hk2 := sp_placeOf hV0 hf2 (t.take (z.toNat + 1)) (t.drop (z.toNat + 1)) (List.take_append_drop _ t).symm (by omega)
      rw [hl2, show z + 1 - 1 = z by omega] at hk2
      have hq2 := plc_bnd (t.take (z.toNat + 1)) (t.drop (z.toNat + 1)) (path % 8)
      rw [List.length_drop] at hq2
      obtain ⟨σ', k1, k2, k3⟩ := sp_take hV0 ha hP0 (i := plc (t.take (z.toNat + 1)) (t.drop (z.toNat + 1)) (path % 8)) (by unfold xr; omega) (by rw [← e]; simpa using h24)
      refine ⟨σ', ?_, by rw [e]; simpa using k2, Fr.xu0.tr k3⟩
      refine e_entry okX6_gather (Nat.le_of_ble_eq_true rfl) (ls := [some _, some _, some _, none, none, none]) rfl ?_
      refine e_aload_n 0 1 rfl rfl rfl rfl ?_
      refine e_iconst 1 2 rfl rfl ?_
      refine g_putI 2 5 1 ckX6 flX6_15 rfl rfl hP.1.1 hP.1.2.2.1 rfl rfl ?_
      refine e_iload_n 3 6 rfl rfl rfl rfl ?_
      refine e_bipush 4 8 rfl rfl rfl ?_
      refine e_icmp_ge 5 23 11 rfl rfl rfl (by unfold xr at *; omega) (by unfold xr at *; omega) (fun _ => ?_) (fun h9 => absurd h9 (by omega))
      refine e_aload_n 14 24 rfl rfl rfl rfl ?_
      refine e_iconst 15 25 rfl rfl ?_
      refine e_iload_n 16 26 rfl rfl rfl rfl ?_
      refine e_bipush 17 28 rfl rfl rfl ?_
      refine e_idiv 18 29 rfl rfl (by decide) (ii_div (by omega) (by omega)) ?_
      refine e_iconst 19 30 rfl rfl ?_
      refine e_isub 20 31 rfl rfl ?_
      refine g_callV 21 34 (hk) okX10_placeOf cvX6_19 ⟨(Nat.le_of_ble_eq_true rfl), (Nat.le_of_ble_eq_true rfl)⟩ rfl rfl hV.1.1 hV.1.2.2.1 rfl rfl rfl rfl (Nat.le_of_ble_eq_true rfl) (Nat.le_of_ble_eq_true rfl) (Nat.le_of_ble_eq_true rfl) ?_
      refine e_istore_n 22 35 (ls' := [some _, some _, some _, some _, none, none]) rfl rfl rfl (Nat.le_of_ble_eq_true rfl) rfl ?_
      refine e_iload_n 23 36 rfl rfl rfl rfl ?_
      refine e_bipush 24 38 rfl rfl rfl ?_
      refine e_irem 25 39 rfl rfl (by decide) (ii_rem (by omega) (by omega)) ?_
      refine e_istore 26 41 (ls' := [some _, some _, some _, some _, some _, none]) rfl rfl (Nat.le_of_ble_eq_true rfl) rfl ?_
      refine e_aload_n 27 42 rfl rfl rfl rfl ?_
      refine e_iload_n 28 43 rfl rfl rfl rfl ?_
      refine g_callV 29 46 (sp_kindAt hV0 hxz) okX10_kindAt cvX6_29 ⟨(Nat.le_of_ble_eq_true rfl), (Nat.le_of_ble_eq_true rfl)⟩ rfl rfl hV.1.1 hV.1.2.2.1 rfl rfl rfl rfl (Nat.le_of_ble_eq_true rfl) (Nat.le_of_ble_eq_true rfl) (Nat.le_of_ble_eq_true rfl) ?_
      rw [h4]
      refine e_istore 30 48 (ls' := [some _, some _, some _, some _, some _, some _]) rfl rfl (Nat.le_of_ble_eq_true rfl) rfl ?_
      refine e_iload 31 50 rfl rfl rfl ?_
      refine e_iconst 32 51 rfl rfl ?_
      refine e_icmp_ne 33 66 54 rfl rfl rfl (by unfold xr at *; omega) (by unfold xr at *; omega) (fun h9 => absurd h9 (by omega)) (fun _ => ?_)
      refine e_aload_n 34 55 rfl rfl rfl rfl ?_
      refine e_aload_n 35 56 rfl rfl rfl rfl ?_
      refine e_aload_n 36 57 rfl rfl rfl rfl ?_
      refine e_iload_n 37 58 rfl rfl rfl rfl ?_
      refine e_iload 38 60 rfl rfl rfl ?_
      refine g_callV 39 63 (hk2) okX10_placeOf cvX6_19 ⟨(Nat.le_of_ble_eq_true rfl), (Nat.le_of_ble_eq_true rfl)⟩ rfl rfl hV.1.1 hV.1.2.2.1 rfl rfl rfl rfl (Nat.le_of_ble_eq_true rfl) (Nat.le_of_ble_eq_true rfl) (Nat.le_of_ble_eq_true rfl) ?_
      refine g_callV 40 66 (k1) okX6_take cvX6_25 ⟨(Nat.le_of_ble_eq_true rfl), (Nat.le_of_ble_eq_true rfl)⟩ rfl rfl hP.1.1 hP.1.2.2.1 rfl rfl rfl rfl (Nat.le_of_ble_eq_true rfl) (Nat.le_of_ble_eq_true rfl) (Nat.le_of_ble_eq_true rfl) ?_
      refine e_iload 41 68 rfl rfl rfl ?_
      refine e_iconst 42 69 rfl rfl ?_
      refine e_icmp_ne 43 80 72 rfl rfl rfl (by unfold xr at *; omega) (by unfold xr at *; omega) (fun _ => ?_) (fun h9 => absurd h9 (by omega))
      exact e_return 49 rfl rfl (Nat.le_of_ble_eq_true rfl) (Nat.le_of_ble_eq_true rfl)
    · by_cases h3 : knd (tok t z) = 3
      · have e : atp t path = tsc t (t.drop (z.toNat + 1)) (path % 8) 0 (z + 1) := by unfold atp; rw [if_neg h8, hz, if_neg h4, if_pos h3]
        have hzi := knd_tok_in (t := t) (i := z) (by omega)
        have hl2 : ((t.take (z.toNat + 1)).length : Int) = z + 1 := by rw [List.length_take]; omega
        obtain ⟨σ', k1, k2, k3⟩ := sp_takeOfEach hV0 ha hP0 hf2 (t.take (z.toNat + 1)) (t.drop (z.toNat + 1)) (List.take_append_drop _ t).symm (by omega) (by rw [hl2, ← e]; simpa using h24)
        rw [hl2] at k1 k2
        rw [show z + 1 - 1 = z by omega] at k1
        refine ⟨σ', ?_, by rw [e]; simpa using k2, Fr.xu0.tr k3⟩
        refine e_entry okX6_gather (Nat.le_of_ble_eq_true rfl) (ls := [some _, some _, some _, none, none, none]) rfl ?_
        refine e_aload_n 0 1 rfl rfl rfl rfl ?_
        refine e_iconst 1 2 rfl rfl ?_
        refine g_putI 2 5 1 ckX6 flX6_15 rfl rfl hP.1.1 hP.1.2.2.1 rfl rfl ?_
        refine e_iload_n 3 6 rfl rfl rfl rfl ?_
        refine e_bipush 4 8 rfl rfl rfl ?_
        refine e_icmp_ge 5 23 11 rfl rfl rfl (by unfold xr at *; omega) (by unfold xr at *; omega) (fun _ => ?_) (fun h9 => absurd h9 (by omega))
        refine e_aload_n 14 24 rfl rfl rfl rfl ?_
        refine e_iconst 15 25 rfl rfl ?_
        refine e_iload_n 16 26 rfl rfl rfl rfl ?_
        refine e_bipush 17 28 rfl rfl rfl ?_
        refine e_idiv 18 29 rfl rfl (by decide) (ii_div (by omega) (by omega)) ?_
        refine e_iconst 19 30 rfl rfl ?_
        refine e_isub 20 31 rfl rfl ?_
        refine g_callV 21 34 (hk) okX10_placeOf cvX6_19 ⟨(Nat.le_of_ble_eq_true rfl), (Nat.le_of_ble_eq_true rfl)⟩ rfl rfl hV.1.1 hV.1.2.2.1 rfl rfl rfl rfl (Nat.le_of_ble_eq_true rfl) (Nat.le_of_ble_eq_true rfl) (Nat.le_of_ble_eq_true rfl) ?_
        refine e_istore_n 22 35 (ls' := [some _, some _, some _, some _, none, none]) rfl rfl rfl (Nat.le_of_ble_eq_true rfl) rfl ?_
        refine e_iload_n 23 36 rfl rfl rfl rfl ?_
        refine e_bipush 24 38 rfl rfl rfl ?_
        refine e_irem 25 39 rfl rfl (by decide) (ii_rem (by omega) (by omega)) ?_
        refine e_istore 26 41 (ls' := [some _, some _, some _, some _, some _, none]) rfl rfl (Nat.le_of_ble_eq_true rfl) rfl ?_
        refine e_aload_n 27 42 rfl rfl rfl rfl ?_
        refine e_iload_n 28 43 rfl rfl rfl rfl ?_
        refine g_callV 29 46 (sp_kindAt hV0 hxz) okX10_kindAt cvX6_29 ⟨(Nat.le_of_ble_eq_true rfl), (Nat.le_of_ble_eq_true rfl)⟩ rfl rfl hV.1.1 hV.1.2.2.1 rfl rfl rfl rfl (Nat.le_of_ble_eq_true rfl) (Nat.le_of_ble_eq_true rfl) (Nat.le_of_ble_eq_true rfl) ?_
        rw [h3]
        refine e_istore 30 48 (ls' := [some _, some _, some _, some _, some _, some _]) rfl rfl (Nat.le_of_ble_eq_true rfl) rfl ?_
        refine e_iload 31 50 rfl rfl rfl ?_
        refine e_iconst 32 51 rfl rfl ?_
        refine e_icmp_ne 33 66 54 rfl rfl rfl (by unfold xr at *; omega) (by unfold xr at *; omega) (fun _ => ?_) (fun h9 => absurd h9 (by omega))
        refine e_iload 41 68 rfl rfl rfl ?_
        refine e_iconst 42 69 rfl rfl ?_
        refine e_icmp_ne 43 80 72 rfl rfl rfl (by unfold xr at *; omega) (by unfold xr at *; omega) (fun h9 => absurd h9 (by omega)) (fun _ => ?_)
        refine e_aload_n 44 73 rfl rfl rfl rfl ?_
        refine e_aload_n 45 74 rfl rfl rfl rfl ?_
        refine e_iload_n 46 75 rfl rfl rfl rfl ?_
        refine e_iload 47 77 rfl rfl rfl ?_
        refine g_callV 48 80 (k1) okX6_takeOfEach cvX6_33 ⟨(Nat.le_of_ble_eq_true rfl), (Nat.le_of_ble_eq_true rfl)⟩ rfl rfl hP.1.1 hP.1.2.2.1 rfl rfl rfl rfl (Nat.le_of_ble_eq_true rfl) (Nat.le_of_ble_eq_true rfl) (Nat.le_of_ble_eq_true rfl) ?_
        exact e_return 49 rfl rfl (Nat.le_of_ble_eq_true rfl) (Nat.le_of_ble_eq_true rfl)
      · have e : atp t path = [] := by unfold atp; rw [if_neg h8, hz, if_neg h4, if_neg h3]
        refine ⟨xu σ p 1 0, ?_, by rw [e]; exact hP0, Fr.xu0⟩
        refine e_entry okX6_gather (Nat.le_of_ble_eq_true rfl) (ls := [some _, some _, some _, none, none, none]) rfl ?_
        refine e_aload_n 0 1 rfl rfl rfl rfl ?_
        refine e_iconst 1 2 rfl rfl ?_
        refine g_putI 2 5 1 ckX6 flX6_15 rfl rfl hP.1.1 hP.1.2.2.1 rfl rfl ?_
        refine e_iload_n 3 6 rfl rfl rfl rfl ?_
        refine e_bipush 4 8 rfl rfl rfl ?_
        refine e_icmp_ge 5 23 11 rfl rfl rfl (by unfold xr at *; omega) (by unfold xr at *; omega) (fun _ => ?_) (fun h9 => absurd h9 (by omega))
        refine e_aload_n 14 24 rfl rfl rfl rfl ?_
        refine e_iconst 15 25 rfl rfl ?_
        refine e_iload_n 16 26 rfl rfl rfl rfl ?_
        refine e_bipush 17 28 rfl rfl rfl ?_
        refine e_idiv 18 29 rfl rfl (by decide) (ii_div (by omega) (by omega)) ?_
        refine e_iconst 19 30 rfl rfl ?_
        refine e_isub 20 31 rfl rfl ?_
        refine g_callV 21 34 (hk) okX10_placeOf cvX6_19 ⟨(Nat.le_of_ble_eq_true rfl), (Nat.le_of_ble_eq_true rfl)⟩ rfl rfl hV.1.1 hV.1.2.2.1 rfl rfl rfl rfl (Nat.le_of_ble_eq_true rfl) (Nat.le_of_ble_eq_true rfl) (Nat.le_of_ble_eq_true rfl) ?_
        refine e_istore_n 22 35 (ls' := [some _, some _, some _, some _, none, none]) rfl rfl rfl (Nat.le_of_ble_eq_true rfl) rfl ?_
        refine e_iload_n 23 36 rfl rfl rfl rfl ?_
        refine e_bipush 24 38 rfl rfl rfl ?_
        refine e_irem 25 39 rfl rfl (by decide) (ii_rem (by omega) (by omega)) ?_
        refine e_istore 26 41 (ls' := [some _, some _, some _, some _, some _, none]) rfl rfl (Nat.le_of_ble_eq_true rfl) rfl ?_
        refine e_aload_n 27 42 rfl rfl rfl rfl ?_
        refine e_iload_n 28 43 rfl rfl rfl rfl ?_
        refine g_callV 29 46 (sp_kindAt hV0 hxz) okX10_kindAt cvX6_29 ⟨(Nat.le_of_ble_eq_true rfl), (Nat.le_of_ble_eq_true rfl)⟩ rfl rfl hV.1.1 hV.1.2.2.1 rfl rfl rfl rfl (Nat.le_of_ble_eq_true rfl) (Nat.le_of_ble_eq_true rfl) (Nat.le_of_ble_eq_true rfl) ?_
        refine e_istore 30 48 (ls' := [some _, some _, some _, some _, some _, some _]) rfl rfl (Nat.le_of_ble_eq_true rfl) rfl ?_
        refine e_iload 31 50 rfl rfl rfl ?_
        refine e_iconst 32 51 rfl rfl ?_
        refine e_icmp_ne 33 66 54 rfl rfl rfl (by unfold xr at *; omega) (by unfold xr at *; omega) (fun _ => ?_) (fun h9 => absurd h9 (by omega))
        refine e_iload 41 68 rfl rfl rfl ?_
        refine e_iconst 42 69 rfl rfl ?_
        refine e_icmp_ne 43 80 72 rfl rfl rfl (by unfold xr at *; omega) (by unfold xr at *; omega) (fun _ => ?_) (fun h9 => absurd h9 (by omega))
        exact e_return 49 rfl rfl (Nat.le_of_ble_eq_true rfl) (Nat.le_of_ble_eq_true rfl)
end
section
/-! ===== Store, Stream ===== -/
def alN (P : Nat → Bool) : Nat → Nat → Bool
  | _, 0 => true
  | i, n + 1 => P i && alN P (i + 1) n
def smN (f : Nat → Int) : Nat → Nat → Int
  | _, 0 => 0
  | i, n + 1 => f i + smN f (i + 1) n
theorem smN_bnd {f : Nat → Int} (h : ∀ i, 0 ≤ f i ∧ f i ≤ 1) : ∀ (n i : Nat), 0 ≤ smN f i n ∧ smN f i n ≤ n := by
  intro n
  induction n with
  | zero => intro i; simp [smN]
  | succ n ih => intro i; have := ih (i + 1); have := h i; simp only [smN]; omega
theorem smN_congr {f g : Nat → Int} : ∀ (n i : Nat), (∀ j, i ≤ j → j < i + n → f j = g j) → smN f i n = smN g i n := by
  intro n
  induction n with
  | zero => intro i _; rfl
  | succ n ih => intro i h; simp only [smN]; rw [h i (Nat.le_refl i) (by omega), ih (i + 1) (fun j h1 h2 => h j (by omega) (by omega))]
theorem alN_congr {f g : Nat → Bool} : ∀ (n i : Nat), (∀ j, i ≤ j → j < i + n → f j = g j) → alN f i n = alN g i n := by
  intro n
  induction n with
  | zero => intro i _; rfl
  | succ n ih => intro i h; simp only [alN]; rw [h i (Nat.le_refl i) (by omega), ih (i + 1) (fun j h1 h2 => h j (by omega) (by omega))]
theorem alN_true {f : Nat → Bool} : ∀ (n i : Nat), alN f i n = true ↔ ∀ j, i ≤ j → j < i + n → f j = true := by
  intro n
  induction n with
  | zero => intro i; simp [alN]; omega
  | succ n ih =>
    intro i
    simp only [alN, Bool.and_eq_true, ih]
    constructor
    · rintro ⟨h1, h2⟩ j h3 h4
      by_cases e : j = i
      · rw [e]; exact h1
      · exact h2 j (by omega) (by omega)
    · intro h
      exact ⟨h i (Nat.le_refl i) (by omega), fun j h1 h2 => h j (by omega) (by omega)⟩
abbrev n01 (σ : xSig) (a : Nat) : Prop := ∀ i : Int, σ a i = 0 ∨ σ a i = 1
def hasd (σ : xSig) (n : Int) : Bool := decide (0 ≤ n ∧ n < 100 ∧ σ 27 n = 1)
def da (σ : xSig) (n : Int) : Nat := if hasd σ n = true then 31 + 2 * n.toNat else 29
theorem hasd_in {σ : xSig} {n : Int} (h : hasd σ n = true) : 0 ≤ n ∧ n < 100 ∧ σ 27 n = 1 := by simpa [hasd] using h
theorem da_vO (σ : xSig) (n : Int) : vO (da σ n) = true := by
  unfold da
  split
  · next h => exact (vO_s _ (by have := hasd_in h; omega)).1
  · exact vO_29.1
theorem da_has {σ : xSig} {n : Nat} (h : hasd σ n = true) : da σ n = 31 + 2 * n := by unfold da; rw [if_pos h]; rfl
theorem da_no {σ : xSig} {n : Int} (h : hasd σ n = false) : da σ n = 29 := by unfold da; rw [h]; rfl
/-- the place, and the kind, of a field of an object -/
def pl1 (t : List Int) (f : Int) : Int := plc (t.take 1) (t.drop 1) f
def fk (t : List Int) (f : Int) : Int := knd (tok t (pl1 t f))
theorem pl1_bnd {σ : xSig} {a cap : Nat} {t : List Int} (hV : VH σ a cap t) (f : Int) : -1 ≤ pl1 t f ∧ pl1 t f ≤ 300 := by
  have := plc_bnd (t.take 1) (t.drop 1) f
  have h1 := hV.2.2.1
  have h2 := hV.2.2.2.1
  rw [List.length_take, List.length_drop] at this
  unfold pl1
  omega
theorem sp_pl1 {σ : xSig} {a cap : Nat} {t : List Int} (hV : VH σ a cap t) {f : Int} (hf : 0 ≤ f ∧ f < 8) : Rd MX10_placeOf [.ref a, .int (ii 0), .int (ii f)] σ (iv (pl1 t f)) := by
  cases t with
  | nil =>
    have e : pl1 [] f = -1 := by
      unfold pl1 plc
      rw [show tok (List.drop 1 ([] : List Int)) ((ssc (List.drop 1 ([] : List Int)) f 0 : Nat) : Int) = 0 from tok_big (by simp), if_neg (by omega)]
    rw [e]
    exact sp_placeOf0 hV hf
  | cons x r => exact sp_placeOf hV hf [x] r rfl (by simp)
theorem sp_stSize {σ : xSig} : Rd MX8_size [.ref 25] σ (iv (σ 25 4)) := by
  refine e_entry okX8_size (Nat.le_of_ble_eq_true rfl) (ls := [some _]) rfl ?_
  refine e_aload_n 0 1 rfl rfl rfl rfl ?_
  refine g_getI 1 4 4 ckX8 flX8_32 rfl rfl (Nat.le_of_ble_eq_true rfl) rfl rfl rfl rfl ?_
  exact e_ireturn 2 rfl rfl (Nat.le_of_ble_eq_true rfl) (Nat.le_of_ble_eq_true rfl)
theorem sp_has {σ : xSig} (h01 : n01 σ 27) {n : Int} (hn : xr n) : Rd MX8_has [.ref 25, .int (ii n)] σ (zv (hasd σ n)) := by
  unfold xr at hn
  have h2 := h01 n
  have no : hasd σ n = false → x_E MX8_has 0 0 26 [some (.ref 25), some (.int (ii n))] [] (St σ) 0 0 (zv (hasd σ n)) (St σ) := by
    intro e
    rw [e]
    refine e_iconst 14 27 rfl rfl ?_
    exact e_zreturn (x := 0) 15 rfl rfl (by omega) (Nat.le_of_ble_eq_true rfl) (Nat.le_of_ble_eq_true rfl)
  refine e_entry okX8_has (Nat.le_of_ble_eq_true rfl) (ls := [some _, some _]) rfl ?_
  refine e_iload_n 0 1 rfl rfl rfl rfl ?_
  refine e_if_lt 1 26 4 rfl rfl rfl (by unfold xr at *; omega) (fun h => ?_) (fun h => ?_)
  · skip
    exact no (by unfold hasd; exact decide_eq_false (by omega))
  · skip
    refine e_iload_n 2 5 rfl rfl rfl rfl ?_
    refine e_aload_n 3 6 rfl rfl rfl rfl ?_
    refine g_getR 4 9 ckX8 flX8_17 rfl rfl (Nat.le_of_ble_eq_true rfl) rfl rfl ?_
    refine g_alen 5 10 rfl rfl (Nat.le_of_ble_eq_true rfl) rfl (Nat.le_of_ble_eq_true rfl) ?_
    refine e_icmp_ge 6 26 13 rfl rfl rfl (by unfold xr at *; omega) (by unfold xr at *; omega) (fun h3 => ?_) (fun h3 => ?_)
    · skip
      exact no (by unfold hasd; exact decide_eq_false (by omega))
    · skip
      refine e_aload_n 7 14 rfl rfl rfl rfl ?_
      refine g_getR 8 17 ckX8 flX8_17 rfl rfl (Nat.le_of_ble_eq_true rfl) rfl rfl ?_
      refine e_iload_n 9 18 rfl rfl rfl rfl ?_
      refine g_baload 10 19 rfl rfl (Nat.le_of_ble_eq_true rfl) rfl (by omega) (by omega) (by omega) rfl ?_
      refine e_if_eq 11 26 22 rfl rfl rfl (by unfold xr at *; omega) (fun h4 => ?_) (fun h4 => ?_)
      · skip
        exact no (by unfold hasd; exact decide_eq_false (by omega))
      · skip
        rw [show hasd σ n = true by unfold hasd; exact decide_eq_true ⟨h, by omega, by omega⟩]
        refine e_iconst 12 23 rfl rfl ?_
        refine e_goto 13 27 rfl rfl ?_
        exact e_zreturn (x := 1) 15 rfl rfl (by omega) (Nat.le_of_ble_eq_true rfl) (Nat.le_of_ble_eq_true rfl)
theorem sp_stAt {σ : xSig} (h01 : n01 σ 27) {n : Int} (hn : xr n) : Rd MX8_at [.ref 25, .int (ii n)] σ (rv (da σ n)) := by
  unfold xr at hn
  refine e_entry okX8_at (Nat.le_of_ble_eq_true rfl) (ls := [some _, some _, none]) rfl ?_
  refine e_aload_n 0 1 rfl rfl rfl rfl ?_
  refine e_iload_n 1 2 rfl rfl rfl rfl ?_
  refine g_callV 2 5 (sp_has h01 hn) okX8_has cvX8_36 ⟨(Nat.le_of_ble_eq_true rfl), (Nat.le_of_ble_eq_true rfl)⟩ rfl rfl (Nat.le_of_ble_eq_true rfl) rfl rfl rfl rfl rfl (Nat.le_of_ble_eq_true rfl) (Nat.le_of_ble_eq_true rfl) (Nat.le_of_ble_eq_true rfl) ?_
  refine e_ifb_eq 3 26 8 rfl rfl rfl (fun h => ?_) (fun h => ?_)
  · skip
    rw [da_no h]
    refine e_aload_n 14 27 rfl rfl rfl rfl ?_
    refine g_getR 15 30 ckX8 flX8_28 rfl rfl (Nat.le_of_ble_eq_true rfl) rfl rfl ?_
    refine e_astore_n 16 31 (ls' := [some _, some _, some _]) rfl rfl rfl (Nat.le_of_ble_eq_true rfl) rfl ?_
    refine e_aload_n 17 32 rfl rfl rfl rfl ?_
    refine e_ifnonnull 18 42 rfl rfl ?_
    refine e_aload_n 22 43 rfl rfl rfl rfl ?_
    exact e_areturn 23 rfl rfl (Nat.le_of_ble_eq_true rfl) (Nat.le_of_ble_eq_true rfl)
  · skip
    have hi := hasd_in h
    rw [show da σ n = 31 + 2 * n.toNat by unfold da; rw [if_pos h]]
    refine e_iload_n 4 9 rfl rfl rfl rfl ?_
    refine e_aload_n 5 10 rfl rfl rfl rfl ?_
    refine g_getR 6 13 ckX8 flX8_11 rfl rfl (Nat.le_of_ble_eq_true rfl) rfl rfl ?_
    refine g_alenR 7 14 rfl rfl (Nat.le_of_ble_eq_true rfl) SH_26 (Or.inl rfl) ?_
    simp only [List.length_map, List.length_range]
    refine e_icmp_ge 8 26 17 rfl rfl rfl (by unfold xr at *; omega) (by unfold xr at *; omega) (fun h9 => absurd h9 (by omega)) (fun _ => ?_)
    refine e_aload_n 9 18 rfl rfl rfl rfl ?_
    refine g_getR 10 21 ckX8 flX8_11 rfl rfl (Nat.le_of_ble_eq_true rfl) rfl rfl ?_
    refine e_iload_n 11 22 rfl rfl rfl rfl ?_
    refine g_aaload 12 23 rfl rfl (Nat.le_of_ble_eq_true rfl) SH_26 (Or.inl rfl) (by omega) (rng_at (by omega)) (by simp) ?_
    refine e_goto 13 30 rfl rfl ?_
    refine e_astore_n 16 31 (ls' := [some _, some _, some _]) rfl rfl rfl (Nat.le_of_ble_eq_true rfl) rfl ?_
    refine e_aload_n 17 32 rfl rfl rfl rfl ?_
    refine e_ifnonnull 18 42 rfl rfl ?_
    refine e_aload_n 22 43 rfl rfl rfl rfl ?_
    exact e_areturn 23 rfl rfl (Nat.le_of_ble_eq_true rfl) (Nat.le_of_ble_eq_true rfl)
/-- a document is put: that it is there, how many there are -/
def putd (σ : xSig) (n : Int) : xSig := if hasd σ n = true then σ else xu (xu σ 27 n 1) 25 4 (σ 25 4 + 1)
theorem sp_stPut {σ : xSig} {T : Nat → List Int} (hA : VAll σ T) (h01 : n01 σ 27) {n b : Nat} (hn : n < 100) (hb : vO b = true) (hne : b ≠ 31 + 2 * n) (hl : (T b).length ≤ 72) :
    ∃ σ' : xSig, x_Sp MX8_put 0 0 [.ref 25, .int (ii n), .ref b] (St σ) vv (St σ') ∧ VAll σ' (uT T (31 + 2 * n) (T b)) ∧ NV [] (putd σ n) σ' := by
  have hv := vO_s n hn
  have e4 : xu σ 27 n 1 25 4 = σ 25 4 := by rw [xu_other _ _ _ (by decide)]
  have hA1 : VAll (putd σ n) T := by
    unfold putd
    split
    · exact hA
    · exact (hA.xu _ _ (by decide +kernel)).xu _ _ (by decide +kernel)
  have h01' : n01 (putd σ n) 27 := by
    intro i
    unfold putd
    split
    · exact h01 i
    · rw [xu_other _ _ _ (by decide)]
      unfold xu
      split
      · exact Or.inr rfl
      · exact h01 i
  have hh : hasd (putd σ n) n = true := by
    unfold putd
    split
    · assumption
    · unfold hasd
      exact decide_eq_true ⟨by omega, by omega, by rw [xu_other _ _ _ (by decide), xu_same]⟩
  obtain ⟨e1, e2⟩ := vO_apart hv.1 hb hne
  obtain ⟨σ', h1, h2, h3⟩ := sp_becomeV (hA1 _ hv.1) (hA1 b hb) (by rw [hv.2]; exact hl) hne e1 e2
  refine ⟨σ', ?_, hA1.put hv.1 h2 h3, h3.nv hv.1⟩
  have hat := sp_stAt h01' (n := n) (by unfold xr; omega)
  rw [da_has hh] at hat
  have fin : x_E MX8_put 0 0 40 [some (.ref 25), some (.int (ii n)), some (.ref b)] [] (St (putd σ n)) 0 0 vv (St σ') := by
    refine e_aload_n 24 41 rfl rfl rfl rfl ?_
    refine e_iload_n 25 42 rfl rfl rfl rfl ?_
    refine g_callV 26 45 (hat) okX8_at cvX8_40 ⟨(Nat.le_of_ble_eq_true rfl), (Nat.le_of_ble_eq_true rfl)⟩ rfl rfl (Nat.le_of_ble_eq_true rfl) rfl rfl rfl rfl rfl (Nat.le_of_ble_eq_true rfl) (Nat.le_of_ble_eq_true rfl) (Nat.le_of_ble_eq_true rfl) ?_
    refine e_aload_n 27 46 rfl rfl rfl rfl ?_
    refine g_callV 28 49 (h1) okX10_become_ cvX8_44 ⟨(Nat.le_of_ble_eq_true rfl), (Nat.le_of_ble_eq_true rfl)⟩ rfl rfl (vO_val hv.1).1 (vO_val hv.1).2.2.1 rfl rfl rfl rfl (Nat.le_of_ble_eq_true rfl) (Nat.le_of_ble_eq_true rfl) (Nat.le_of_ble_eq_true rfl) ?_
    exact e_return 29 rfl rfl (Nat.le_of_ble_eq_true rfl) (Nat.le_of_ble_eq_true rfl)
  refine e_entry okX8_put (Nat.le_of_ble_eq_true rfl) (ls := [some _, some _, some _]) rfl ?_
  refine e_iload_n 0 1 rfl rfl rfl rfl ?_
  refine e_if_lt 1 13 4 rfl rfl rfl (by unfold xr at *; omega) (fun h9 => absurd h9 (by omega)) (fun _ => ?_)
  refine e_iload_n 2 5 rfl rfl rfl rfl ?_
  refine e_aload_n 3 6 rfl rfl rfl rfl ?_
  refine g_getR 4 9 ckX8 flX8_17 rfl rfl (Nat.le_of_ble_eq_true rfl) rfl rfl ?_
  refine g_alen 5 10 rfl rfl (Nat.le_of_ble_eq_true rfl) rfl (Nat.le_of_ble_eq_true rfl) ?_
  refine e_icmp_lt 6 14 13 rfl rfl rfl (by unfold xr at *; omega) (by unfold xr at *; omega) (fun _ => ?_) (fun h9 => absurd h9 (by omega))
  refine e_aload_n 8 15 rfl rfl rfl rfl ?_
  refine g_getR 9 18 ckX8 flX8_17 rfl rfl (Nat.le_of_ble_eq_true rfl) rfl rfl ?_
  refine e_iload_n 10 19 rfl rfl rfl rfl ?_
  refine g_baload 11 20 rfl rfl (Nat.le_of_ble_eq_true rfl) rfl (by omega) (by omega) (by omega) rfl ?_
  have h2 := h01 n
  refine e_if_ne 12 40 23 rfl rfl rfl (by unfold xr at *; omega) (fun h => ?_) (fun h => ?_)
  · skip
    rw [show putd σ n = σ by unfold putd; rw [if_pos (by unfold hasd; exact decide_eq_true ⟨by omega, by omega, by omega⟩)]] at fin
    exact fin
  · skip
    rw [show putd σ n = xu (xu σ 27 n 1) 25 4 (σ 25 4 + 1) by unfold putd; rw [if_neg (fun q => by have := hasd_in q; omega)]] at fin
    refine e_aload_n 13 24 rfl rfl rfl rfl ?_
    refine g_getR 14 27 ckX8 flX8_17 rfl rfl (Nat.le_of_ble_eq_true rfl) rfl rfl ?_
    refine e_iload_n 15 28 rfl rfl rfl rfl ?_
    refine e_iconst 16 29 rfl rfl ?_
    refine g_bastore 17 30 rfl rfl (by omega) (Nat.le_of_ble_eq_true rfl) rfl (by omega) (by omega) (by omega) ?_
    refine e_aload_n 18 31 rfl rfl rfl rfl ?_
    refine e_dup 19 32 rfl rfl rfl ?_
    refine g_getI 20 35 4 ckX8 flX8_32 rfl rfl (Nat.le_of_ble_eq_true rfl) rfl rfl rfl e4 ?_
    refine e_iconst 21 36 rfl rfl ?_
    refine e_iadd 22 37 rfl rfl ?_
    refine g_putI 23 40 4 ckX8 flX8_32 rfl rfl (Nat.le_of_ble_eq_true rfl) rfl rfl rfl ?_
    exact fin
def outd (σ : xSig) (n : Int) : xSig := xu (xu σ 27 n 0) 25 4 (σ 25 4 - 1)
theorem sp_stOut {σ : xSig} {n : Nat} (hh : hasd σ n = true) : x_Sp MX8_takeOut 0 0 [.ref 25, .int (ii n)] (St σ) vv (St (outd σ n)) := by
  have hi := hasd_in hh
  have e4 : xu σ 27 n 0 25 4 = σ 25 4 := by rw [xu_other _ _ _ (by decide)]
  unfold outd
  refine e_entry okX8_takeOut (Nat.le_of_ble_eq_true rfl) (ls := [some _, some _]) rfl ?_
  refine e_iload_n 0 1 rfl rfl rfl rfl ?_
  refine e_if_lt 1 39 4 rfl rfl rfl (by unfold xr at *; omega) (fun h9 => absurd h9 (by omega)) (fun _ => ?_)
  refine e_iload_n 2 5 rfl rfl rfl rfl ?_
  refine e_aload_n 3 6 rfl rfl rfl rfl ?_
  refine g_getR 4 9 ckX8 flX8_17 rfl rfl (Nat.le_of_ble_eq_true rfl) rfl rfl ?_
  refine g_alen 5 10 rfl rfl (Nat.le_of_ble_eq_true rfl) rfl (Nat.le_of_ble_eq_true rfl) ?_
  refine e_icmp_ge 6 39 13 rfl rfl rfl (by unfold xr at *; omega) (by unfold xr at *; omega) (fun h9 => absurd h9 (by omega)) (fun _ => ?_)
  refine e_aload_n 7 14 rfl rfl rfl rfl ?_
  refine g_getR 8 17 ckX8 flX8_17 rfl rfl (Nat.le_of_ble_eq_true rfl) rfl rfl ?_
  refine e_iload_n 9 18 rfl rfl rfl rfl ?_
  refine g_baload 10 19 rfl rfl (Nat.le_of_ble_eq_true rfl) rfl (by omega) (by omega) (by omega) rfl ?_
  refine e_if_eq 11 39 22 rfl rfl rfl (by unfold xr at *; omega) (fun h9 => absurd h9 (by omega)) (fun _ => ?_)
  refine e_aload_n 12 23 rfl rfl rfl rfl ?_
  refine g_getR 13 26 ckX8 flX8_17 rfl rfl (Nat.le_of_ble_eq_true rfl) rfl rfl ?_
  refine e_iload_n 14 27 rfl rfl rfl rfl ?_
  refine e_iconst 15 28 rfl rfl ?_
  refine g_bastore 16 29 rfl rfl (by omega) (Nat.le_of_ble_eq_true rfl) rfl (by omega) (by omega) (by omega) ?_
  refine e_aload_n 17 30 rfl rfl rfl rfl ?_
  refine e_dup 18 31 rfl rfl rfl ?_
  refine g_getI 19 34 4 ckX8 flX8_32 rfl rfl (Nat.le_of_ble_eq_true rfl) rfl rfl rfl e4 ?_
  refine e_iconst 20 35 rfl rfl ?_
  refine e_isub 21 36 rfl rfl ?_
  refine g_putI 22 39 4 ckX8 flX8_32 rfl rfl (Nat.le_of_ble_eq_true rfl) rfl rfl rfl ?_
  exact e_return 23 rfl rfl (Nat.le_of_ble_eq_true rfl) (Nat.le_of_ble_eq_true rfl)
theorem sp_keeps {σ : xSig} {a cap : Nat} {t : List Int} (hV : VH σ a cap t) {f kd : Int} (hf : 0 ≤ f ∧ f < 8) (hk : xr kd) : Rd MX8_keeps [.ref a, .int (ii f), .int (ii kd)] σ (zv (decide (kd = 0 ∨ fk t f = kd))) := by
  have hb := pl1_bnd hV f
  have hkb := knd_bnd (tok t (pl1 t f))
  unfold xr at hk
  refine e_entry okX8_keeps (Nat.le_of_ble_eq_true rfl) (ls := [some _, some _, some _]) rfl ?_
  refine e_iload_n 0 1 rfl rfl rfl rfl ?_
  refine e_if_eq 1 18 4 rfl rfl rfl (by unfold xr at *; omega) (fun h => ?_) (fun h => ?_)
  · skip
    rw [decide_eq_true (Or.inl h)]
    refine e_iconst 10 19 rfl rfl ?_
    refine e_goto 11 23 rfl rfl ?_
    exact e_zreturn (x := 1) 13 rfl rfl (by omega) (Nat.le_of_ble_eq_true rfl) (Nat.le_of_ble_eq_true rfl)
  · skip
    refine e_aload_n 2 5 rfl rfl rfl rfl ?_
    refine e_aload_n 3 6 rfl rfl rfl rfl ?_
    refine e_iconst 4 7 rfl rfl ?_
    refine e_iload_n 5 8 rfl rfl rfl rfl ?_
    refine g_callV 6 11 (sp_pl1 hV hf) okX10_placeOf cvX8_52 ⟨(Nat.le_of_ble_eq_true rfl), (Nat.le_of_ble_eq_true rfl)⟩ rfl rfl hV.1.1 hV.1.2.2.1 rfl rfl rfl rfl (Nat.le_of_ble_eq_true rfl) (Nat.le_of_ble_eq_true rfl) (Nat.le_of_ble_eq_true rfl) ?_
    refine g_callV 7 14 (sp_kindAt hV (i := pl1 t f) (by unfold xr; omega)) okX10_kindAt cvX8_56 ⟨(Nat.le_of_ble_eq_true rfl), (Nat.le_of_ble_eq_true rfl)⟩ rfl rfl hV.1.1 hV.1.2.2.1 rfl rfl rfl rfl (Nat.le_of_ble_eq_true rfl) (Nat.le_of_ble_eq_true rfl) (Nat.le_of_ble_eq_true rfl) ?_
    refine e_iload_n 8 15 rfl rfl rfl rfl ?_
    refine e_icmp_ne 9 22 18 rfl rfl rfl (by unfold xr at *; omega) (by unfold xr at *; omega) (fun h2 => ?_) (fun h2 => ?_)
    · skip
      rw [show decide (kd = 0 ∨ fk t f = kd) = false from decide_eq_false (fun q => q.elim h h2)]
      refine e_iconst 12 23 rfl rfl ?_
      exact e_zreturn (x := 0) 13 rfl rfl (by omega) (Nat.le_of_ble_eq_true rfl) (Nat.le_of_ble_eq_true rfl)
    · skip
      rw [show decide (kd = 0 ∨ fk t f = kd) = true from decide_eq_true (Or.inr h2)]
      refine e_iconst 10 19 rfl rfl ?_
      refine e_goto 11 23 rfl rfl ?_
      exact e_zreturn (x := 1) 13 rfl rfl (by omega) (Nat.le_of_ble_eq_true rfl) (Nat.le_of_ble_eq_true rfl)
def krl (σ : xSig) (t : List Int) : Bool := alN (fun f => decide (σ 28 f = 0 ∨ fk t f = σ 28 f)) 0 8
theorem sp_keepsRules {σ : xSig} {a cap : Nat} {t : List Int} (hV : VH σ a cap t) (hr : ∀ i : Int, 0 ≤ σ 28 i ∧ σ 28 i ≤ 4) : Rd MX8_keepsRules [.ref 25, .ref a] σ (zv (krl σ t)) := by
  have loop : ∀ (n i : Nat), i + n = 8 → x_E MX8_keepsRules 0 0 2 [some (.ref 25), some (.ref a), some (.int (ii i))] [] (St σ) 0 0 (zv (alN (fun f => decide (σ 28 f = 0 ∨ fk t f = σ 28 f)) i n)) (St σ) := by
    intro n
    induction n with
    | zero =>
      intro i hi
      refine e_iload_n 2 3 rfl rfl rfl rfl ?_
      refine e_aload_n 3 4 rfl rfl rfl rfl ?_
      refine g_getR 4 7 ckX8 flX8_21 rfl rfl (Nat.le_of_ble_eq_true rfl) rfl rfl ?_
      refine g_alen 5 8 rfl rfl (Nat.le_of_ble_eq_true rfl) rfl (Nat.le_of_ble_eq_true rfl) ?_
      refine e_icmp_ge 6 33 11 rfl rfl rfl (by unfold xr at *; omega) (by unfold xr at *; omega) (fun _ => ?_) (fun h9 => absurd h9 (by omega))
      refine e_iconst 19 34 rfl rfl ?_
      exact e_zreturn (x := 1) 20 rfl rfl (by omega) (Nat.le_of_ble_eq_true rfl) (Nat.le_of_ble_eq_true rfl)
    | succ n ih =>
      intro i hi
      have hr1 := hr i
      have hn := ih (i + 1) (by omega)
      rw [show (((i + 1 : Nat)) : Int) = (i : Int) + 1 by omega] at hn
      simp only [alN]
      refine e_iload_n 2 3 rfl rfl rfl rfl ?_
      refine e_aload_n 3 4 rfl rfl rfl rfl ?_
      refine g_getR 4 7 ckX8 flX8_21 rfl rfl (Nat.le_of_ble_eq_true rfl) rfl rfl ?_
      refine g_alen 5 8 rfl rfl (Nat.le_of_ble_eq_true rfl) rfl (Nat.le_of_ble_eq_true rfl) ?_
      refine e_icmp_ge 6 33 11 rfl rfl rfl (by unfold xr at *; omega) (by unfold xr at *; omega) (fun h9 => absurd h9 (by omega)) (fun _ => ?_)
      refine e_aload_n 7 12 rfl rfl rfl rfl ?_
      refine e_iload_n 8 13 rfl rfl rfl rfl ?_
      refine e_aload_n 9 14 rfl rfl rfl rfl ?_
      refine g_getR 10 17 ckX8 flX8_21 rfl rfl (Nat.le_of_ble_eq_true rfl) rfl rfl ?_
      refine e_iload_n 11 18 rfl rfl rfl rfl ?_
      refine g_iaload 12 19 rfl rfl (Nat.le_of_ble_eq_true rfl) rfl (by omega) (by omega) (by omega) rfl ?_
      refine g_callS 13 22 (sp_keeps hV (f := i) (kd := σ 28 i) (by omega) (by unfold xr; omega)) okX8_keeps csX8_48 ⟨(Nat.le_of_ble_eq_true rfl), (Nat.le_of_ble_eq_true rfl)⟩ rfl rfl rfl rfl (Nat.le_of_ble_eq_true rfl) (Nat.le_of_ble_eq_true rfl) (Nat.le_of_ble_eq_true rfl) ?_
      refine e_ifb_ne 14 27 25 rfl rfl rfl (fun h => ?_) (fun h => ?_)
      · skip
        rw [h, Bool.true_and]
        refine e_iinc 17 30 (ls' := [some _, some _, some _]) rfl rfl (Nat.le_of_ble_eq_true rfl) rfl rfl ?_
        refine e_goto 18 2 rfl rfl ?_
        exact hn
      · skip
        rw [h, Bool.false_and]
        refine e_iconst 15 26 rfl rfl ?_
        exact e_zreturn (x := 0) 16 rfl rfl (by omega) (Nat.le_of_ble_eq_true rfl) (Nat.le_of_ble_eq_true rfl)
  refine e_entry okX8_keepsRules (Nat.le_of_ble_eq_true rfl) (ls := [some _, some _, none]) rfl ?_
  refine e_iconst 0 1 rfl rfl ?_
  refine e_istore_n 1 2 (ls' := [some _, some _, some _]) rfl rfl rfl (Nat.le_of_ble_eq_true rfl) rfl ?_
  exact loop 8 0 rfl
def akp (σ : xSig) (T : Nat → List Int) (f kd : Int) : Bool := alN (fun n => !hasd σ n || decide (kd = 0 ∨ fk (T (31 + 2 * n)) f = kd)) 0 100
theorem sp_allKeep {σ : xSig} {T : Nat → List Int} (hA : VAll σ T) (h01 : n01 σ 27) {f kd : Int} (hf : 0 ≤ f ∧ f < 8) (hk : xr kd) : Rd MX8_allKeep [.ref 25, .int (ii f), .int (ii kd)] σ (zv (akp σ T f kd)) := by
  have loop : ∀ (n i : Nat), i + n = 100 → x_E MX8_allKeep 0 0 2 [some (.ref 25), some (.int (ii f)), some (.int (ii kd)), some (.int (ii i))] [] (St σ) 0 0 (zv (alN (fun n => !hasd σ n || decide (kd = 0 ∨ fk (T (31 + 2 * n)) f = kd)) i n)) (St σ) := by
    intro n
    induction n with
    | zero =>
      intro i hi
      refine e_iload_n 2 3 rfl rfl rfl rfl ?_
      refine e_bipush 3 5 rfl rfl rfl ?_
      refine e_icmp_ge 4 37 8 rfl rfl rfl (by unfold xr at *; omega) (by unfold xr at *; omega) (fun _ => ?_) (fun h9 => absurd h9 (by omega))
      refine e_iconst 20 38 rfl rfl ?_
      exact e_zreturn (x := 1) 21 rfl rfl (by omega) (Nat.le_of_ble_eq_true rfl) (Nat.le_of_ble_eq_true rfl)
    | succ n ih =>
      intro i hi
      have hn := ih (i + 1) (by omega)
      rw [show (((i + 1 : Nat)) : Int) = (i : Int) + 1 by omega] at hn
      simp only [alN]
      refine e_iload_n 2 3 rfl rfl rfl rfl ?_
      refine e_bipush 3 5 rfl rfl rfl ?_
      refine e_icmp_ge 4 37 8 rfl rfl rfl (by unfold xr at *; omega) (by unfold xr at *; omega) (fun h9 => absurd h9 (by omega)) (fun _ => ?_)
      refine e_aload_n 5 9 rfl rfl rfl rfl ?_
      refine e_iload_n 6 10 rfl rfl rfl rfl ?_
      refine g_callV 7 13 (sp_has h01 (n := i) (by unfold xr; omega)) okX8_has cvX8_36 ⟨(Nat.le_of_ble_eq_true rfl), (Nat.le_of_ble_eq_true rfl)⟩ rfl rfl (Nat.le_of_ble_eq_true rfl) rfl rfl rfl rfl rfl (Nat.le_of_ble_eq_true rfl) (Nat.le_of_ble_eq_true rfl) (Nat.le_of_ble_eq_true rfl) ?_
      refine e_ifb_eq 8 31 16 rfl rfl rfl (fun h => ?_) (fun h => ?_)
      · skip
        rw [h, Bool.not_false, Bool.true_or, Bool.true_and]
        refine e_iinc 18 34 (ls' := [some _, some _, some _, some _]) rfl rfl (Nat.le_of_ble_eq_true rfl) rfl rfl ?_
        refine e_goto 19 2 rfl rfl ?_
        exact hn
      · skip
        rw [h, Bool.not_true, Bool.false_or]
        have hat := sp_stAt h01 (n := i) (by unfold xr; omega)
        rw [da_has h] at hat
        refine e_aload_n 9 17 rfl rfl rfl rfl ?_
        refine e_iload_n 10 18 rfl rfl rfl rfl ?_
        refine g_callV 11 21 (hat) okX8_at cvX8_40 ⟨(Nat.le_of_ble_eq_true rfl), (Nat.le_of_ble_eq_true rfl)⟩ rfl rfl (Nat.le_of_ble_eq_true rfl) rfl rfl rfl rfl rfl (Nat.le_of_ble_eq_true rfl) (Nat.le_of_ble_eq_true rfl) (Nat.le_of_ble_eq_true rfl) ?_
        refine e_iload_n 12 22 rfl rfl rfl rfl ?_
        refine e_iload_n 13 23 rfl rfl rfl rfl ?_
        refine g_callS 14 26 (sp_keeps (hA _ (vO_s i (by omega)).1) hf hk) okX8_keeps csX8_48 ⟨(Nat.le_of_ble_eq_true rfl), (Nat.le_of_ble_eq_true rfl)⟩ rfl rfl rfl rfl (Nat.le_of_ble_eq_true rfl) (Nat.le_of_ble_eq_true rfl) (Nat.le_of_ble_eq_true rfl) ?_
        refine e_ifb_ne 15 31 29 rfl rfl rfl (fun h2 => ?_) (fun h2 => ?_)
        · skip
          rw [h2, Bool.true_and]
          refine e_iinc 18 34 (ls' := [some _, some _, some _, some _]) rfl rfl (Nat.le_of_ble_eq_true rfl) rfl rfl ?_
          refine e_goto 19 2 rfl rfl ?_
          exact hn
        · skip
          rw [h2, Bool.false_and]
          refine e_iconst 16 30 rfl rfl ?_
          exact e_zreturn (x := 0) 17 rfl rfl (by omega) (Nat.le_of_ble_eq_true rfl) (Nat.le_of_ble_eq_true rfl)
  refine e_entry okX8_allKeep (Nat.le_of_ble_eq_true rfl) (ls := [some _, some _, some _, none]) rfl ?_
  refine e_iconst 0 1 rfl rfl ?_
  refine e_istore_n 1 2 (ls' := [some _, some _, some _, some _]) rfl rfl rfl (Nat.le_of_ble_eq_true rfl) rfl ?_
  exact loop 100 0 rfl
theorem sp_setRule {σ : xSig} {f kd : Int} (hf : 0 ≤ f ∧ f < 8) : x_Sp MX8_setRule 0 0 [.ref 25, .int (ii f), .int (ii kd)] (St σ) (iv (σ 28 f)) (St (xu σ 28 f kd)) := by
  refine e_entry okX8_setRule (Nat.le_of_ble_eq_true rfl) (ls := [some _, some _, some _, none]) rfl ?_
  refine e_iload_n 0 1 rfl rfl rfl rfl ?_
  refine e_if_lt 1 13 4 rfl rfl rfl (by unfold xr at *; omega) (fun h9 => absurd h9 (by omega)) (fun _ => ?_)
  refine e_iload_n 2 5 rfl rfl rfl rfl ?_
  refine e_aload_n 3 6 rfl rfl rfl rfl ?_
  refine g_getR 4 9 ckX8 flX8_21 rfl rfl (Nat.le_of_ble_eq_true rfl) rfl rfl ?_
  refine g_alen 5 10 rfl rfl (Nat.le_of_ble_eq_true rfl) rfl (Nat.le_of_ble_eq_true rfl) ?_
  refine e_icmp_lt 6 15 13 rfl rfl rfl (by unfold xr at *; omega) (by unfold xr at *; omega) (fun _ => ?_) (fun h9 => absurd h9 (by omega))
  refine e_aload_n 9 16 rfl rfl rfl rfl ?_
  refine g_getR 10 19 ckX8 flX8_21 rfl rfl (Nat.le_of_ble_eq_true rfl) rfl rfl ?_
  refine e_iload_n 11 20 rfl rfl rfl rfl ?_
  refine g_iaload 12 21 rfl rfl (Nat.le_of_ble_eq_true rfl) rfl (by omega) (by omega) (by omega) rfl ?_
  refine e_istore_n 13 22 (ls' := [some _, some _, some _, some _]) rfl rfl rfl (Nat.le_of_ble_eq_true rfl) rfl ?_
  refine e_aload_n 14 23 rfl rfl rfl rfl ?_
  refine g_getR 15 26 ckX8 flX8_21 rfl rfl (Nat.le_of_ble_eq_true rfl) rfl rfl ?_
  refine e_iload_n 16 27 rfl rfl rfl rfl ?_
  refine e_iload_n 17 28 rfl rfl rfl rfl ?_
  refine g_iastore 18 29 rfl rfl (Nat.le_of_ble_eq_true rfl) rfl (by omega) (by omega) (by omega) ?_
  refine e_iload_n 19 30 rfl rfl rfl rfl ?_
  exact e_ireturn 20 rfl rfl (Nat.le_of_ble_eq_true rfl) (Nat.le_of_ble_eq_true rfl)
/-! Stream -/
def entd (σ : xSig) (w n s : Int) : xSig := xu (xu (xu (xu σ 240 (σ 239 3) w) 241 (σ 239 3) n) 242 (σ 239 3) s) 239 3 (σ 239 3 + 1)
theorem sp_enPut {σ : xSig} (hc : 0 ≤ σ 239 3 ∧ σ 239 3 < 1024) {w n s : Int} : x_Sp MX9_put 0 0 [.ref 239, .int (ii w), .int (ii n), .int (ii s)] (St σ) vv (St (entd σ w n s)) := by
  unfold entd
  have e1 : xu σ 240 (σ 239 3) w 239 3 = σ 239 3 := xu_ne σ (Or.inl (by decide))
  have e2 : xu (xu σ 240 (σ 239 3) w) 241 (σ 239 3) n 239 3 = σ 239 3 := (xu_ne _ (Or.inl (by decide))).trans e1
  have e3 : xu (xu (xu σ 240 (σ 239 3) w) 241 (σ 239 3) n) 242 (σ 239 3) s 239 3 = σ 239 3 := (xu_ne _ (Or.inl (by decide))).trans e2
  refine e_entry okX9_put (Nat.le_of_ble_eq_true rfl) (ls := [some _, some _, some _, some _]) rfl ?_
  refine e_aload_n 0 1 rfl rfl rfl rfl ?_
  refine g_getI 1 4 3 ckX9 flX9_21 rfl rfl (Nat.le_of_ble_eq_true rfl) rfl rfl rfl rfl ?_
  refine e_if_lt 2 57 7 rfl rfl rfl (by unfold xr at *; omega) (fun h9 => absurd h9 (by omega)) (fun _ => ?_)
  refine e_aload_n 3 8 rfl rfl rfl rfl ?_
  refine g_getI 4 11 3 ckX9 flX9_21 rfl rfl (Nat.le_of_ble_eq_true rfl) rfl rfl rfl rfl ?_
  refine e_sipush 5 14 rfl rfl rfl ?_
  refine e_icmp_ge 6 57 17 rfl rfl rfl (by unfold xr at *; omega) (by unfold xr at *; omega) (fun h9 => absurd h9 (by omega)) (fun _ => ?_)
  refine e_aload_n 7 18 rfl rfl rfl rfl ?_
  refine g_getR 8 21 ckX9 flX9_9 rfl rfl (Nat.le_of_ble_eq_true rfl) rfl rfl ?_
  refine e_aload_n 9 22 rfl rfl rfl rfl ?_
  refine g_getI 10 25 3 ckX9 flX9_21 rfl rfl (Nat.le_of_ble_eq_true rfl) rfl rfl rfl rfl ?_
  refine e_iload_n 11 26 rfl rfl rfl rfl ?_
  refine g_iastore 12 27 rfl rfl (Nat.le_of_ble_eq_true rfl) rfl (by omega) (by omega) (by omega) ?_
  refine e_aload_n 13 28 rfl rfl rfl rfl ?_
  refine g_getR 14 31 ckX9 flX9_15 rfl rfl (Nat.le_of_ble_eq_true rfl) rfl rfl ?_
  refine e_aload_n 15 32 rfl rfl rfl rfl ?_
  refine g_getI 16 35 3 ckX9 flX9_21 rfl rfl (Nat.le_of_ble_eq_true rfl) rfl rfl rfl e1 ?_
  refine e_iload_n 17 36 rfl rfl rfl rfl ?_
  refine g_iastore 18 37 rfl rfl (Nat.le_of_ble_eq_true rfl) rfl (by omega) (by omega) (by omega) ?_
  refine e_aload_n 19 38 rfl rfl rfl rfl ?_
  refine g_getR 20 41 ckX9 flX9_18 rfl rfl (Nat.le_of_ble_eq_true rfl) rfl rfl ?_
  refine e_aload_n 21 42 rfl rfl rfl rfl ?_
  refine g_getI 22 45 3 ckX9 flX9_21 rfl rfl (Nat.le_of_ble_eq_true rfl) rfl rfl rfl e2 ?_
  refine e_iload_n 23 46 rfl rfl rfl rfl ?_
  refine g_iastore 24 47 rfl rfl (Nat.le_of_ble_eq_true rfl) rfl (by omega) (by omega) (by omega) ?_
  refine e_aload_n 25 48 rfl rfl rfl rfl ?_
  refine e_dup 26 49 rfl rfl rfl ?_
  refine g_getI 27 52 3 ckX9 flX9_21 rfl rfl (Nat.le_of_ble_eq_true rfl) rfl rfl rfl e3 ?_
  refine e_iconst 28 53 rfl rfl ?_
  refine e_iadd 29 54 rfl rfl ?_
  refine g_putI 30 57 3 ckX9 flX9_21 rfl rfl (Nat.le_of_ble_eq_true rfl) rfl rfl rfl ?_
  exact e_return 31 rfl rfl (Nat.le_of_ble_eq_true rfl) (Nat.le_of_ble_eq_true rfl)
theorem sp_enHas {σ : xSig} (hc : 0 ≤ σ 239 3 ∧ σ 239 3 ≤ 1024) {i : Int} (hi : xr i) : Rd MX9_has [.ref 239, .int (ii i)] σ (zv (decide (1 ≤ i ∧ i ≤ σ 239 3))) := by
  unfold xr at hi
  refine e_entry okX9_has (Nat.le_of_ble_eq_true rfl) (ls := [some _, some _]) rfl ?_
  refine e_iload_n 0 1 rfl rfl rfl rfl ?_
  refine e_iconst 1 2 rfl rfl ?_
  refine e_icmp_lt 2 17 5 rfl rfl rfl (by unfold xr at *; omega) (by unfold xr at *; omega) (fun h => ?_) (fun h => ?_)
  · skip
    rw [decide_eq_false (by omega)]
    refine e_iconst 9 18 rfl rfl ?_
    exact e_zreturn (x := 0) 10 rfl rfl (by omega) (Nat.le_of_ble_eq_true rfl) (Nat.le_of_ble_eq_true rfl)
  · skip
    refine e_iload_n 3 6 rfl rfl rfl rfl ?_
    refine e_aload_n 4 7 rfl rfl rfl rfl ?_
    refine g_getI 5 10 3 ckX9 flX9_21 rfl rfl (Nat.le_of_ble_eq_true rfl) rfl rfl rfl rfl ?_
    refine e_icmp_gt 6 17 13 rfl rfl rfl (by unfold xr at *; omega) (by unfold xr at *; omega) (fun h2 => ?_) (fun h2 => ?_)
    · skip
      rw [decide_eq_false (by omega)]
      refine e_iconst 9 18 rfl rfl ?_
      exact e_zreturn (x := 0) 10 rfl rfl (by omega) (Nat.le_of_ble_eq_true rfl) (Nat.le_of_ble_eq_true rfl)
    · skip
      rw [decide_eq_true (by omega)]
      refine e_iconst 7 14 rfl rfl ?_
      refine e_goto 8 18 rfl rfl ?_
      exact e_zreturn (x := 1) 10 rfl rfl (by omega) (Nat.le_of_ble_eq_true rfl) (Nat.le_of_ble_eq_true rfl)
theorem sp_firstBehind {σ : xSig} (hc : 0 ≤ σ 239 3 ∧ σ 239 3 ≤ 1024) {i : Int} (hi : xr i) : Rd MX9_firstBehind [.ref 239, .int (ii i)] σ (iv (if (if i < 0 then 0 else i) < σ 239 3 then (if i < 0 then 0 else i) + 1 else -1)) := by
  unfold xr at hi
  refine e_entry okX9_firstBehind (Nat.le_of_ble_eq_true rfl) (ls := [some _, some _, none]) rfl ?_
  refine e_iload_n 0 1 rfl rfl rfl rfl ?_
  refine e_iconst 1 2 rfl rfl ?_
  refine e_max 2 5 rfl rfl mxX9_25 (Nat.le_of_ble_eq_true rfl) (Nat.le_of_ble_eq_true rfl) (Nat.le_of_ble_eq_true rfl) (Nat.le_of_ble_eq_true rfl) (Nat.le_of_ble_eq_true rfl) (by unfold xr at *; omega) (by unfold xr at *; omega) ?_
  refine e_istore_n 3 6 (ls' := [some _, some _, some _]) rfl rfl rfl (Nat.le_of_ble_eq_true rfl) rfl ?_
  refine e_iload_n 4 7 rfl rfl rfl rfl ?_
  refine e_aload_n 5 8 rfl rfl rfl rfl ?_
  refine g_getI 6 11 3 ckX9 flX9_21 rfl rfl (Nat.le_of_ble_eq_true rfl) rfl rfl rfl rfl ?_
  have hz : 0 ≤ (if i < 0 then (0 : Int) else i) ∧ (if i < 0 then (0 : Int) else i) < 2147483648 := by split <;> omega
  generalize (if i < 0 then (0 : Int) else i) = z at hz
  refine e_icmp_ge 7 20 14 rfl rfl rfl (by unfold xr at *; omega) (by unfold xr at *; omega) (fun h => ?_) (fun h => ?_)
  · skip
    rw [if_neg (by omega)]
    refine e_iconst 12 21 rfl rfl ?_
    exact e_ireturn 13 rfl rfl (Nat.le_of_ble_eq_true rfl) (Nat.le_of_ble_eq_true rfl)
  · skip
    rw [if_pos h]
    refine e_iload_n 8 15 rfl rfl rfl rfl ?_
    refine e_iconst 9 16 rfl rfl ?_
    refine e_iadd 10 17 rfl rfl ?_
    refine e_goto 11 21 rfl rfl ?_
    exact e_ireturn 13 rfl rfl (Nat.le_of_ble_eq_true rfl) (Nat.le_of_ble_eq_true rfl)
theorem sp_enTell {σ : xSig} (hc : 0 ≤ σ 239 3 ∧ σ 239 3 ≤ 1024) {i w : Int} (hi : 1 ≤ i ∧ i ≤ σ 239 3) (hw : xr w) : Rd MX9_tell [.ref 239, .int (ii i), .int (ii w)] σ (iv (if w = 0 then σ 240 (i - 1) else if w = 1 then σ 241 (i - 1) else σ 242 (i - 1))) := by
  unfold xr at hw
  refine e_entry okX9_tell (Nat.le_of_ble_eq_true rfl) (ls := [some _, some _, some _, none]) rfl ?_
  refine e_iload_n 0 1 rfl rfl rfl rfl ?_
  refine e_iconst 1 2 rfl rfl ?_
  refine e_isub 2 3 rfl rfl ?_
  refine e_istore_n 3 4 (ls' := [some _, some _, some _, some _]) rfl rfl rfl (Nat.le_of_ble_eq_true rfl) rfl ?_
  refine e_iload_n 4 5 rfl rfl rfl rfl ?_
  refine e_if_lt 5 23 8 rfl rfl rfl (by unfold xr at *; omega) (fun h9 => absurd h9 (by omega)) (fun _ => ?_)
  refine e_iload_n 6 9 rfl rfl rfl rfl ?_
  refine e_aload_n 7 10 rfl rfl rfl rfl ?_
  refine g_getI 8 13 3 ckX9 flX9_21 rfl rfl (Nat.le_of_ble_eq_true rfl) rfl rfl rfl rfl ?_
  refine e_icmp_ge 9 23 16 rfl rfl rfl (by unfold xr at *; omega) (by unfold xr at *; omega) (fun h9 => absurd h9 (by omega)) (fun _ => ?_)
  refine e_iload_n 10 17 rfl rfl rfl rfl ?_
  refine e_sipush 11 20 rfl rfl rfl ?_
  refine e_icmp_lt 12 25 23 rfl rfl rfl (by unfold xr at *; omega) (by unfold xr at *; omega) (fun _ => ?_) (fun h9 => absurd h9 (by omega))
  refine e_iload_n 15 26 rfl rfl rfl rfl ?_
  refine e_if_ne 16 36 29 rfl rfl rfl (by unfold xr at *; omega) (fun h => ?_) (fun h => ?_)
  · skip
    rw [if_neg h]
    refine e_iload_n 22 37 rfl rfl rfl rfl ?_
    refine e_iconst 23 38 rfl rfl ?_
    refine e_icmp_ne 24 50 41 rfl rfl rfl (by unfold xr at *; omega) (by unfold xr at *; omega) (fun h2 => ?_) (fun h2 => ?_)
    · skip
      rw [if_neg h2]
      refine e_aload_n 30 51 rfl rfl rfl rfl ?_
      refine g_getR 31 54 ckX9 flX9_18 rfl rfl (Nat.le_of_ble_eq_true rfl) rfl rfl ?_
      refine e_iload_n 32 55 rfl rfl rfl rfl ?_
      refine g_iaload 33 56 rfl rfl (Nat.le_of_ble_eq_true rfl) rfl (by omega) (by omega) (by omega) rfl ?_
      exact e_ireturn 34 rfl rfl (Nat.le_of_ble_eq_true rfl) (Nat.le_of_ble_eq_true rfl)
    · skip
      rw [if_pos h2]
      refine e_aload_n 25 42 rfl rfl rfl rfl ?_
      refine g_getR 26 45 ckX9 flX9_15 rfl rfl (Nat.le_of_ble_eq_true rfl) rfl rfl ?_
      refine e_iload_n 27 46 rfl rfl rfl rfl ?_
      refine g_iaload 28 47 rfl rfl (Nat.le_of_ble_eq_true rfl) rfl (by omega) (by omega) (by omega) rfl ?_
      refine e_goto 29 56 rfl rfl ?_
      exact e_ireturn 34 rfl rfl (Nat.le_of_ble_eq_true rfl) (Nat.le_of_ble_eq_true rfl)
  · skip
    rw [if_pos h]
    refine e_aload_n 17 30 rfl rfl rfl rfl ?_
    refine g_getR 18 33 ckX9 flX9_9 rfl rfl (Nat.le_of_ble_eq_true rfl) rfl rfl ?_
    refine e_iload_n 19 34 rfl rfl rfl rfl ?_
    refine g_iaload 20 35 rfl rfl (Nat.le_of_ble_eq_true rfl) rfl (by omega) (by omega) (by omega) rfl ?_
    exact e_ireturn 21 rfl rfl (Nat.le_of_ble_eq_true rfl) (Nat.le_of_ble_eq_true rfl)
end
section
/-! ===== Chart: reading ===== -/
/-- the chart's numbers are in their ranges -/
def CHR (σ : xSig) : Prop := (1 ≤ σ 231 7 ∧ σ 231 7 ≤ 12) ∧ (0 ≤ σ 231 9 ∧ σ 231 9 < 8) ∧ (σ 231 10 = 0 ∨ σ 231 10 = 1) ∧ (-1 ≤ σ 231 11 ∧ σ 231 11 < 12) ∧ (-1 ≤ σ 231 12 ∧ σ 231 12 < 3) ∧ (∀ i : Int, 0 ≤ σ 232 i ∧ σ 232 i ≤ 1000) ∧ (∀ i : Int, 0 ≤ σ 233 i ∧ σ 233 i < 3) ∧ n01 σ 235
theorem sp_chSize {σ : xSig} : Rd MX0_size [.ref 231] σ (iv (σ 231 7)) := by
  refine e_entry okX0_size (Nat.le_of_ble_eq_true rfl) (ls := [some _]) rfl ?_
  refine e_aload_n 0 1 rfl rfl rfl rfl ?_
  refine g_getI 1 4 7 ckX0 flX0_34 rfl rfl (Nat.le_of_ble_eq_true rfl) rfl rfl rfl rfl ?_
  exact e_ireturn 2 rfl rfl (Nat.le_of_ble_eq_true rfl) (Nat.le_of_ble_eq_true rfl)
def chas (σ : xSig) (c : Int) : Bool := decide (0 ≤ c ∧ c < σ 231 7)
theorem sp_chHas {σ : xSig} (h : CHR σ) {c : Int} (hc : xr c) : Rd MX0_has [.ref 231, .int (ii c)] σ (zv (chas σ c)) := by
  have h1 := h.1
  unfold xr at hc
  have no : chas σ c = false → x_E MX0_has 0 0 22 [some (.ref 231), some (.int (ii c))] [] (St σ) 0 0 (zv (chas σ c)) (St σ) := by
    intro e
    rw [e]
    refine e_iconst 11 23 rfl rfl ?_
    exact e_zreturn (x := 0) 12 rfl rfl (by omega) (Nat.le_of_ble_eq_true rfl) (Nat.le_of_ble_eq_true rfl)
  refine e_entry okX0_has (Nat.le_of_ble_eq_true rfl) (ls := [some _, some _]) rfl ?_
  refine e_iload_n 0 1 rfl rfl rfl rfl ?_
  refine e_if_lt 1 22 4 rfl rfl rfl (by unfold xr at *; omega) (fun h2 => ?_) (fun h2 => ?_)
  · skip
    exact no (decide_eq_false (by omega))
  · skip
    refine e_iload_n 2 5 rfl rfl rfl rfl ?_
    refine e_aload_n 3 6 rfl rfl rfl rfl ?_
    refine g_getI 4 9 7 ckX0 flX0_34 rfl rfl (Nat.le_of_ble_eq_true rfl) rfl rfl rfl rfl ?_
    refine e_icmp_ge 5 22 12 rfl rfl rfl (by unfold xr at *; omega) (by unfold xr at *; omega) (fun h3 => ?_) (fun h3 => ?_)
    · skip
      exact no (decide_eq_false (by omega))
    · skip
      refine e_iload_n 6 13 rfl rfl rfl rfl ?_
      refine e_bipush 7 15 rfl rfl rfl ?_
      refine e_icmp_ge 8 22 18 rfl rfl rfl (by unfold xr at *; omega) (by unfold xr at *; omega) (fun h9 => absurd h9 (by omega)) (fun _ => ?_)
      rw [show chas σ c = true from decide_eq_true (by omega)]
      refine e_iconst 9 19 rfl rfl ?_
      refine e_goto 10 23 rfl rfl ?_
      exact e_zreturn (x := 1) 12 rfl rfl (by omega) (Nat.le_of_ble_eq_true rfl) (Nat.le_of_ble_eq_true rfl)
def cfst (σ : xSig) (c : Int) : Int := if chas σ c = true then σ 232 c else 1000
def cown (σ : xSig) (c : Int) : Int := if chas σ c = true then σ 233 c else -1
theorem cfst_bnd {σ : xSig} (h : CHR σ) (c : Int) : 0 ≤ cfst σ c ∧ cfst σ c ≤ 1000 := by
  unfold cfst
  split
  · exact h.2.2.2.2.2.1 c
  · omega
theorem cown_bnd {σ : xSig} (h : CHR σ) (c : Int) : -1 ≤ cown σ c ∧ cown σ c < 3 := by
  unfold cown
  split
  · have := h.2.2.2.2.2.2.1 c; omega
  · omega
theorem sp_firstOf {σ : xSig} (h : CHR σ) {c : Int} (hc : xr c) : Rd MX0_firstOf [.ref 231, .int (ii c)] σ (iv (cfst σ c)) := by
  have h1 := h.1
  refine e_entry okX0_firstOf (Nat.le_of_ble_eq_true rfl) (ls := [some _, some _]) rfl ?_
  refine e_aload_n 0 1 rfl rfl rfl rfl ?_
  refine e_iload_n 1 2 rfl rfl rfl rfl ?_
  refine g_callV 2 5 (sp_chHas h hc) okX0_has cvX0_57 ⟨(Nat.le_of_ble_eq_true rfl), (Nat.le_of_ble_eq_true rfl)⟩ rfl rfl (Nat.le_of_ble_eq_true rfl) rfl rfl rfl rfl rfl (Nat.le_of_ble_eq_true rfl) (Nat.le_of_ble_eq_true rfl) (Nat.le_of_ble_eq_true rfl) ?_
  refine e_ifb_eq 3 17 8 rfl rfl rfl (fun h2 => ?_) (fun h2 => ?_)
  · skip
    rw [show cfst σ c = 1000 by unfold cfst; rw [h2]; rfl]
    refine e_sipush 9 20 rfl rfl rfl ?_
    exact e_ireturn 10 rfl rfl (Nat.le_of_ble_eq_true rfl) (Nat.le_of_ble_eq_true rfl)
  · skip
    have h3 : 0 ≤ c ∧ c < σ 231 7 := of_decide_eq_true h2
    rw [show cfst σ c = σ 232 c by unfold cfst; rw [if_pos h2]]
    refine e_aload_n 4 9 rfl rfl rfl rfl ?_
    refine g_getR 5 12 ckX0 flX0_9 rfl rfl (Nat.le_of_ble_eq_true rfl) rfl rfl ?_
    refine e_iload_n 6 13 rfl rfl rfl rfl ?_
    refine g_iaload 7 14 rfl rfl (Nat.le_of_ble_eq_true rfl) rfl (by omega) (by omega) (by omega) rfl ?_
    refine e_goto 8 20 rfl rfl ?_
    exact e_ireturn 10 rfl rfl (Nat.le_of_ble_eq_true rfl) (Nat.le_of_ble_eq_true rfl)
theorem sp_chEndOf {σ : xSig} (h : CHR σ) {c : Int} (hc : xr (c + 1)) : Rd MX0_endOf [.ref 231, .int (ii c)] σ (iv (cfst σ (c + 1))) := by
  refine e_entry okX0_endOf (Nat.le_of_ble_eq_true rfl) (ls := [some _, some _]) rfl ?_
  refine e_aload_n 0 1 rfl rfl rfl rfl ?_
  refine e_iload_n 1 2 rfl rfl rfl rfl ?_
  refine e_iconst 2 3 rfl rfl ?_
  refine e_iadd 3 4 rfl rfl ?_
  refine g_callV 4 7 (sp_firstOf h hc) okX0_firstOf cvX0_61 ⟨(Nat.le_of_ble_eq_true rfl), (Nat.le_of_ble_eq_true rfl)⟩ rfl rfl (Nat.le_of_ble_eq_true rfl) rfl rfl rfl rfl rfl (Nat.le_of_ble_eq_true rfl) (Nat.le_of_ble_eq_true rfl) (Nat.le_of_ble_eq_true rfl) ?_
  exact e_ireturn 5 rfl rfl (Nat.le_of_ble_eq_true rfl) (Nat.le_of_ble_eq_true rfl)
theorem sp_ownerOf {σ : xSig} (h : CHR σ) {c : Int} (hc : xr c) : Rd MX0_ownerOf [.ref 231, .int (ii c)] σ (iv (cown σ c)) := by
  have h1 := h.1
  refine e_entry okX0_ownerOf (Nat.le_of_ble_eq_true rfl) (ls := [some _, some _]) rfl ?_
  refine e_aload_n 0 1 rfl rfl rfl rfl ?_
  refine e_iload_n 1 2 rfl rfl rfl rfl ?_
  refine g_callV 2 5 (sp_chHas h hc) okX0_has cvX0_57 ⟨(Nat.le_of_ble_eq_true rfl), (Nat.le_of_ble_eq_true rfl)⟩ rfl rfl (Nat.le_of_ble_eq_true rfl) rfl rfl rfl rfl rfl (Nat.le_of_ble_eq_true rfl) (Nat.le_of_ble_eq_true rfl) (Nat.le_of_ble_eq_true rfl) ?_
  refine e_ifb_eq 3 17 8 rfl rfl rfl (fun h2 => ?_) (fun h2 => ?_)
  · skip
    rw [show cown σ c = -1 by unfold cown; rw [h2]; rfl]
    refine e_iconst 9 18 rfl rfl ?_
    exact e_ireturn 10 rfl rfl (Nat.le_of_ble_eq_true rfl) (Nat.le_of_ble_eq_true rfl)
  · skip
    have h3 : 0 ≤ c ∧ c < σ 231 7 := of_decide_eq_true h2
    rw [show cown σ c = σ 233 c by unfold cown; rw [if_pos h2]]
    refine e_aload_n 4 9 rfl rfl rfl rfl ?_
    refine g_getR 5 12 ckX0 flX0_15 rfl rfl (Nat.le_of_ble_eq_true rfl) rfl rfl ?_
    refine e_iload_n 6 13 rfl rfl rfl rfl ?_
    refine g_iaload 7 14 rfl rfl (Nat.le_of_ble_eq_true rfl) rfl (by omega) (by omega) (by omega) rfl ?_
    refine e_goto 8 18 rfl rfl ?_
    exact e_ireturn 10 rfl rfl (Nat.le_of_ble_eq_true rfl) (Nat.le_of_ble_eq_true rfl)
def fnum (t : List Int) (f : Int) : Int := tok t (pl1 t f) - 2000
def fwrd (t : List Int) (f : Int) : Int := tok t (pl1 t f) - 3000
def kyo (σ : xSig) (t : List Int) : Int :=
  if σ 231 10 = 0 then (if fk t (σ 231 9) = 1 then (if 0 < fnum t (σ 231 9) then fnum t (σ 231 9) else 0) else 0)
  else if fk t (σ 231 9) = 1 then 7919 * (fnum t (σ 231 9) + 1000) % 1000 else if fk t (σ 231 9) = 2 then (104729 * fwrd t (σ 231 9) + 500) % 1000 else 250
theorem knd_1 {x : Int} (h : knd x = 1) : 1001 ≤ x ∧ x < 3000 := by
  unfold knd at h
  split at h
  · omega
  · split at h
    · omega
    · split at h
      · omega
      · split at h
        · omega
        · omega
theorem knd_2 {x : Int} (h : knd x = 2) : 3000 ≤ x ∧ x < 4000 := by
  unfold knd at h
  split at h
  · omega
  · split at h
    · omega
    · split at h
      · omega
      · split at h <;> omega
theorem kyo_bnd (σ : xSig) (t : List Int) : 0 ≤ kyo σ t ∧ kyo σ t < 1000 := by
  unfold kyo
  split
  · split
    · next h =>
      have := knd_1 h
      unfold fnum
      split <;> omega
    · omega
  · split
    · omega
    · split <;> omega
theorem sp_keyOf {σ : xSig} (h : CHR σ) {a cap : Nat} {t : List Int} (hV : VH σ a cap t) : Rd MX0_keyOf [.ref 231, .ref a] σ (iv (kyo σ t)) := by
  have hkf := h.2.1
  have hhs := h.2.2.1
  have hb := pl1_bnd hV (σ 231 9)
  have hkb := knd_bnd (tok t (pl1 t (σ 231 9)))
  have hxr : xr (pl1 t (σ 231 9)) := by unfold xr; omega
  unfold kyo fk fnum fwrd
  refine e_entry okX0_keyOf (Nat.le_of_ble_eq_true rfl) (ls := [some _, some _, none, none]) rfl ?_
  refine e_aload_n 0 1 rfl rfl rfl rfl ?_
  refine e_iconst 1 2 rfl rfl ?_
  refine e_aload_n 2 3 rfl rfl rfl rfl ?_
  refine g_getI 3 6 9 ckX0 flX0_41 rfl rfl (Nat.le_of_ble_eq_true rfl) rfl rfl rfl rfl ?_
  refine g_callV 4 9 (sp_pl1 hV hkf) okX10_placeOf cvX0_65 ⟨(Nat.le_of_ble_eq_true rfl), (Nat.le_of_ble_eq_true rfl)⟩ rfl rfl hV.1.1 hV.1.2.2.1 rfl rfl rfl rfl (Nat.le_of_ble_eq_true rfl) (Nat.le_of_ble_eq_true rfl) (Nat.le_of_ble_eq_true rfl) ?_
  refine e_istore_n 5 10 (ls' := [some _, some _, some _, none]) rfl rfl rfl (Nat.le_of_ble_eq_true rfl) rfl ?_
  refine e_aload_n 6 11 rfl rfl rfl rfl ?_
  refine e_iload_n 7 12 rfl rfl rfl rfl ?_
  refine g_callV 8 15 (sp_kindAt hV hxr) okX10_kindAt cvX0_71 ⟨(Nat.le_of_ble_eq_true rfl), (Nat.le_of_ble_eq_true rfl)⟩ rfl rfl hV.1.1 hV.1.2.2.1 rfl rfl rfl rfl (Nat.le_of_ble_eq_true rfl) (Nat.le_of_ble_eq_true rfl) (Nat.le_of_ble_eq_true rfl) ?_
  refine e_istore_n 9 16 (ls' := [some _, some _, some _, some _]) rfl rfl rfl (Nat.le_of_ble_eq_true rfl) rfl ?_
  refine e_aload_n 10 17 rfl rfl rfl rfl ?_
  refine g_getI 11 20 10 ckX0 flX0_44 rfl rfl (Nat.le_of_ble_eq_true rfl) rfl rfl rfl rfl ?_
  refine e_if_ne 12 42 23 rfl rfl rfl (by unfold xr at *; omega) (fun h1 => ?_) (fun h1 => ?_)
  · skip
    rw [if_neg h1]
    refine e_iload_n 24 43 rfl rfl rfl rfl ?_
    refine e_iconst 25 44 rfl rfl ?_
    refine e_icmp_ne 26 65 47 rfl rfl rfl (by unfold xr at *; omega) (by unfold xr at *; omega) (fun h2 => ?_) (fun h2 => ?_)
    · skip
      rw [if_neg h2]
      refine e_iload_n 37 66 rfl rfl rfl rfl ?_
      refine e_iconst 38 67 rfl rfl ?_
      refine e_icmp_ne 39 89 70 rfl rfl rfl (by unfold xr at *; omega) (by unfold xr at *; omega) (fun h3 => ?_) (fun h3 => ?_)
      · skip
        rw [if_neg h3]
        refine e_sipush 50 92 rfl rfl rfl ?_
        exact e_ireturn 51 rfl rfl (Nat.le_of_ble_eq_true rfl) (Nat.le_of_ble_eq_true rfl)
      · skip
        have hw := knd_2 h3
        rw [if_pos h3]
        refine e_ldc 40 72 kcX0_82 (by rfl : _ = ii 104729) rfl rfl ?_
        refine e_aload_n 41 73 rfl rfl rfl rfl ?_
        refine e_iload_n 42 74 rfl rfl rfl rfl ?_
        refine g_callV 43 77 (sp_wordAt hV hxr) okX10_wordAt cvX0_83 ⟨(Nat.le_of_ble_eq_true rfl), (Nat.le_of_ble_eq_true rfl)⟩ rfl rfl hV.1.1 hV.1.2.2.1 rfl rfl rfl rfl (Nat.le_of_ble_eq_true rfl) (Nat.le_of_ble_eq_true rfl) (Nat.le_of_ble_eq_true rfl) ?_
        refine e_imul 44 78 rfl rfl ?_
        refine e_sipush 45 81 rfl rfl rfl ?_
        refine e_iadd 46 82 rfl rfl ?_
        refine e_sipush 47 85 rfl rfl rfl ?_
        refine e_irem 48 86 rfl rfl (by decide) (ii_rem (by omega) (by omega)) ?_
        refine e_goto 49 92 rfl rfl ?_
        exact e_ireturn 51 rfl rfl (Nat.le_of_ble_eq_true rfl) (Nat.le_of_ble_eq_true rfl)
    · skip
      have hw := knd_1 h2
      rw [if_pos h2]
      refine e_sipush 27 50 rfl rfl rfl ?_
      refine e_aload_n 28 51 rfl rfl rfl rfl ?_
      refine e_iload_n 29 52 rfl rfl rfl rfl ?_
      refine g_callV 30 55 (sp_numberAt hV hxr) okX10_numberAt cvX0_74 ⟨(Nat.le_of_ble_eq_true rfl), (Nat.le_of_ble_eq_true rfl)⟩ rfl rfl hV.1.1 hV.1.2.2.1 rfl rfl rfl rfl (Nat.le_of_ble_eq_true rfl) (Nat.le_of_ble_eq_true rfl) (Nat.le_of_ble_eq_true rfl) ?_
      refine e_sipush 31 58 rfl rfl rfl ?_
      refine e_iadd 32 59 rfl rfl ?_
      refine e_imul 33 60 rfl rfl ?_
      refine e_sipush 34 63 rfl rfl rfl ?_
      refine e_irem 35 64 rfl rfl (by decide) (ii_rem (by omega) (by omega)) ?_
      exact e_ireturn 36 rfl rfl (Nat.le_of_ble_eq_true rfl) (Nat.le_of_ble_eq_true rfl)
  · skip
    rw [if_pos h1]
    refine e_iload_n 13 24 rfl rfl rfl rfl ?_
    refine e_iconst 14 25 rfl rfl ?_
    refine e_icmp_ne 15 40 28 rfl rfl rfl (by unfold xr at *; omega) (by unfold xr at *; omega) (fun h2 => ?_) (fun h2 => ?_)
    · skip
      rw [if_neg h2]
      refine e_iconst 22 41 rfl rfl ?_
      exact e_ireturn 23 rfl rfl (Nat.le_of_ble_eq_true rfl) (Nat.le_of_ble_eq_true rfl)
    · skip
      have hw := knd_1 h2
      rw [if_pos h2]
      refine e_iconst 16 29 rfl rfl ?_
      refine e_aload_n 17 30 rfl rfl rfl rfl ?_
      refine e_iload_n 18 31 rfl rfl rfl rfl ?_
      refine g_callV 19 34 (sp_numberAt hV hxr) okX10_numberAt cvX0_74 ⟨(Nat.le_of_ble_eq_true rfl), (Nat.le_of_ble_eq_true rfl)⟩ rfl rfl hV.1.1 hV.1.2.2.1 rfl rfl rfl rfl (Nat.le_of_ble_eq_true rfl) (Nat.le_of_ble_eq_true rfl) (Nat.le_of_ble_eq_true rfl) ?_
      refine e_max 20 37 rfl rfl mxX0_77 (Nat.le_of_ble_eq_true rfl) (Nat.le_of_ble_eq_true rfl) (Nat.le_of_ble_eq_true rfl) (Nat.le_of_ble_eq_true rfl) (Nat.le_of_ble_eq_true rfl) (by unfold xr at *; omega) (by unfold xr at *; omega) ?_
      refine e_goto 21 41 rfl rfl ?_
      exact e_ireturn 23 rfl rfl (Nat.le_of_ble_eq_true rfl) (Nat.le_of_ble_eq_true rfl)
/-- the last place from i on, n places, whose key is not above k; else c -/
def lstLe (f : Int → Int) (k : Int) : Nat → Nat → Int → Int
  | _, 0, c => c
  | i, n + 1, c => lstLe f k (i + 1) n (if f i ≤ k then (i : Int) else c)
theorem lstLe_bnd {f : Int → Int} {k : Int} : ∀ (n i : Nat) (c : Int), 0 ≤ c → c < i → 0 ≤ lstLe f k i n c ∧ lstLe f k i n c < i + n := by
  intro n
  induction n with
  | zero => intro i c h1 h2; simp only [lstLe]; omega
  | succ n ih =>
    intro i c h1 h2
    simp only [lstLe]
    have := ih (i + 1) (if f i ≤ k then (i : Int) else c) (by split <;> omega) (by split <;> omega)
    omega
def chk (σ : xSig) (t : List Int) : Int := lstLe (cfst σ) (kyo σ t) 1 (σ 231 7 - 1).toNat 0
theorem chk_bnd {σ : xSig} (h : CHR σ) (t : List Int) : 0 ≤ chk σ t ∧ chk σ t < σ 231 7 := by
  have h1 := h.1
  have := lstLe_bnd (f := cfst σ) (k := kyo σ t) (σ 231 7 - 1).toNat 1 0 (by omega) (by omega)
  unfold chk
  omega
theorem sp_chunkOf {σ : xSig} (h : CHR σ) {a cap : Nat} {t : List Int} (hV : VH σ a cap t) : Rd MX0_chunkOf [.ref 231, .ref a] σ (iv (chk σ t)) := by
  have h1 := h.1
  have hkb := kyo_bnd σ t
  have loop : ∀ (n i : Nat) (c : Int), (i : Int) + n = σ 231 7 → 0 ≤ c → c < i → x_E MX0_chunkOf 0 0 11 [some (.ref 231), some (.ref a), some (.int (ii (kyo σ t))), some (.int (ii c)), some (.int (ii i))] [] (St σ) 0 0 (iv (lstLe (cfst σ) (kyo σ t) i n c)) (St σ) := by
    intro n
    induction n with
    | zero =>
      intro i c hi h0 h2
      refine e_iload 8 13 rfl rfl rfl ?_
      refine e_aload_n 9 14 rfl rfl rfl rfl ?_
      refine g_getI 10 17 7 ckX0 flX0_34 rfl rfl (Nat.le_of_ble_eq_true rfl) rfl rfl rfl rfl ?_
      refine e_icmp_ge 11 39 20 rfl rfl rfl (by unfold xr at *; omega) (by unfold xr at *; omega) (fun _ => ?_) (fun h9 => absurd h9 (by omega))
      refine e_iload_n 21 40 rfl rfl rfl rfl ?_
      exact e_ireturn 22 rfl rfl (Nat.le_of_ble_eq_true rfl) (Nat.le_of_ble_eq_true rfl)
    | succ n ih =>
      intro i c hi h0 h2
      have hf := cfst_bnd h i
      simp only [lstLe]
      have hn := fun c' (q0 : 0 ≤ c') (q1 : c' < (i : Int) + 1) => ih (i + 1) c' (by omega) q0 (by omega)
      rw [show (((i + 1 : Nat)) : Int) = (i : Int) + 1 by omega] at hn
      refine e_iload 8 13 rfl rfl rfl ?_
      refine e_aload_n 9 14 rfl rfl rfl rfl ?_
      refine g_getI 10 17 7 ckX0 flX0_34 rfl rfl (Nat.le_of_ble_eq_true rfl) rfl rfl rfl rfl ?_
      refine e_icmp_ge 11 39 20 rfl rfl rfl (by unfold xr at *; omega) (by unfold xr at *; omega) (fun h9 => absurd h9 (by omega)) (fun _ => ?_)
      refine e_aload_n 12 21 rfl rfl rfl rfl ?_
      refine e_iload 13 23 rfl rfl rfl ?_
      refine g_callV 14 26 (sp_firstOf h (c := i) (by unfold xr; omega)) okX0_firstOf cvX0_61 ⟨(Nat.le_of_ble_eq_true rfl), (Nat.le_of_ble_eq_true rfl)⟩ rfl rfl (Nat.le_of_ble_eq_true rfl) rfl rfl rfl rfl rfl (Nat.le_of_ble_eq_true rfl) (Nat.le_of_ble_eq_true rfl) (Nat.le_of_ble_eq_true rfl) ?_
      refine e_iload_n 15 27 rfl rfl rfl rfl ?_
      refine e_icmp_gt 16 33 30 rfl rfl rfl (by unfold xr at *; omega) (by unfold xr at *; omega) (fun h3 => ?_) (fun h3 => ?_)
      · skip
        rw [if_neg (by omega)]
        refine e_iinc 19 36 (ls' := [some _, some _, some _, some _, some _]) rfl rfl (Nat.le_of_ble_eq_true rfl) rfl rfl ?_
        refine e_goto 20 11 rfl rfl ?_
        exact hn c h0 (by omega)
      · skip
        rw [if_pos h3]
        refine e_iload 17 32 rfl rfl rfl ?_
        refine e_istore_n 18 33 (ls' := [some _, some _, some _, some _, some _]) rfl rfl rfl (Nat.le_of_ble_eq_true rfl) rfl ?_
        refine e_iinc 19 36 (ls' := [some _, some _, some _, some _, some _]) rfl rfl (Nat.le_of_ble_eq_true rfl) rfl rfl ?_
        refine e_goto 20 11 rfl rfl ?_
        exact hn i (by omega) (by omega)
  refine e_entry okX0_chunkOf (Nat.le_of_ble_eq_true rfl) (ls := [some _, some _, none, none, none]) rfl ?_
  refine e_aload_n 0 1 rfl rfl rfl rfl ?_
  refine e_aload_n 1 2 rfl rfl rfl rfl ?_
  refine g_callV 2 5 (sp_keyOf h hV) okX0_keyOf cvX0_86 ⟨(Nat.le_of_ble_eq_true rfl), (Nat.le_of_ble_eq_true rfl)⟩ rfl rfl (Nat.le_of_ble_eq_true rfl) rfl rfl rfl rfl rfl (Nat.le_of_ble_eq_true rfl) (Nat.le_of_ble_eq_true rfl) (Nat.le_of_ble_eq_true rfl) ?_
  refine e_istore_n 3 6 (ls' := [some _, some _, some _, none, none]) rfl rfl rfl (Nat.le_of_ble_eq_true rfl) rfl ?_
  refine e_iconst 4 7 rfl rfl ?_
  refine e_istore_n 5 8 (ls' := [some _, some _, some _, some _, none]) rfl rfl rfl (Nat.le_of_ble_eq_true rfl) rfl ?_
  refine e_iconst 6 9 rfl rfl ?_
  refine e_istore 7 11 (ls' := [some _, some _, some _, some _, some _]) rfl rfl (Nat.le_of_ble_eq_true rfl) rfl ?_
  exact loop (σ 231 7 - 1).toNat 1 0 (by omega) (by omega) (by omega)
def shd (σ : xSig) (t : List Int) : Int := cown σ (chk σ t)
theorem shd_eq {σ : xSig} (h : CHR σ) (t : List Int) : shd σ t = σ 233 (chk σ t) := by
  have := chk_bnd h t
  unfold shd cown chas
  rw [if_pos (decide_eq_true this)]
theorem sp_shardOf {σ : xSig} (h : CHR σ) {a cap : Nat} {t : List Int} (hV : VH σ a cap t) : Rd MX0_shardOf [.ref 231, .ref a] σ (iv (shd σ t)) := by
  have h1 := h.1
  have hb := chk_bnd h t
  refine e_entry okX0_shardOf (Nat.le_of_ble_eq_true rfl) (ls := [some _, some _]) rfl ?_
  refine e_aload_n 0 1 rfl rfl rfl rfl ?_
  refine e_aload_n 1 2 rfl rfl rfl rfl ?_
  refine e_aload_n 2 3 rfl rfl rfl rfl ?_
  refine g_callV 3 6 (sp_chunkOf h hV) okX0_chunkOf cvX0_90 ⟨(Nat.le_of_ble_eq_true rfl), (Nat.le_of_ble_eq_true rfl)⟩ rfl rfl (Nat.le_of_ble_eq_true rfl) rfl rfl rfl rfl rfl (Nat.le_of_ble_eq_true rfl) (Nat.le_of_ble_eq_true rfl) (Nat.le_of_ble_eq_true rfl) ?_
  refine g_callV 4 9 (sp_ownerOf h (by unfold xr; omega)) okX0_ownerOf cvX0_93 ⟨(Nat.le_of_ble_eq_true rfl), (Nat.le_of_ble_eq_true rfl)⟩ rfl rfl (Nat.le_of_ble_eq_true rfl) rfl rfl rfl rfl rfl (Nat.le_of_ble_eq_true rfl) (Nat.le_of_ble_eq_true rfl) (Nat.le_of_ble_eq_true rfl) ?_
  exact e_ireturn 5 rfl rfl (Nat.le_of_ble_eq_true rfl) (Nat.le_of_ble_eq_true rfl)
def cin (σ : xSig) (T : Nat → List Int) (c : Int) : Int := smN (fun n => if hasd σ n = true ∧ chk σ (T (31 + 2 * n)) = c then 1 else 0) 0 100
def cat9 (σ : xSig) (T : Nat → List Int) (c : Int) : Int := smN (fun n => if hasd σ n = true ∧ shd σ (T (31 + 2 * n)) = c then 1 else 0) 0 100
theorem sp_countIn {σ : xSig} {T : Nat → List Int} (hA : VAll σ T) (h01 : n01 σ 27) (h : CHR σ) {c : Int} (hc : xr c) : Rd MX0_countIn [.ref 231, .ref 25, .int (ii c)] σ (iv (cin σ T c)) := by
  have h1 := h.1
  have loop : ∀ (n i : Nat) (w : Int), i + n = 100 → 0 ≤ w → w ≤ i → x_E MX0_countIn 0 0 5 [some (.ref 231), some (.ref 25), some (.int (ii c)), some (.int (ii w)), some (.int (ii i))] [] (St σ) 0 0 (iv (w + smN (fun n => if hasd σ n = true ∧ chk σ (T (31 + 2 * n)) = c then 1 else 0) i n)) (St σ) := by
    intro n
    induction n with
    | zero =>
      intro i w hi h0 h2
      simp only [smN, Int.add_zero]
      refine e_iload 4 7 rfl rfl rfl ?_
      refine e_bipush 5 9 rfl rfl rfl ?_
      refine e_icmp_ge 6 44 12 rfl rfl rfl (by unfold xr at *; omega) (by unfold xr at *; omega) (fun _ => ?_) (fun h9 => absurd h9 (by omega))
      refine e_iload_n 21 45 rfl rfl rfl rfl ?_
      exact e_ireturn 22 rfl rfl (Nat.le_of_ble_eq_true rfl) (Nat.le_of_ble_eq_true rfl)
    | succ n ih =>
      intro i w hi h0 h2
      have hn := fun w' (q0 : 0 ≤ w') (q1 : w' ≤ (i : Int) + 1) => ih (i + 1) w' (by omega) q0 (by omega)
      rw [show (((i + 1 : Nat)) : Int) = (i : Int) + 1 by omega] at hn
      simp only [smN]
      refine e_iload 4 7 rfl rfl rfl ?_
      refine e_bipush 5 9 rfl rfl rfl ?_
      refine e_icmp_ge 6 44 12 rfl rfl rfl (by unfold xr at *; omega) (by unfold xr at *; omega) (fun h9 => absurd h9 (by omega)) (fun _ => ?_)
      refine e_aload_n 7 13 rfl rfl rfl rfl ?_
      refine e_iload 8 15 rfl rfl rfl ?_
      refine g_callV 9 18 (sp_has h01 (n := i) (by unfold xr; omega)) okX8_has cvX0_96 ⟨(Nat.le_of_ble_eq_true rfl), (Nat.le_of_ble_eq_true rfl)⟩ rfl rfl (Nat.le_of_ble_eq_true rfl) rfl rfl rfl rfl rfl (Nat.le_of_ble_eq_true rfl) (Nat.le_of_ble_eq_true rfl) (Nat.le_of_ble_eq_true rfl) ?_
      refine e_ifb_eq 10 38 21 rfl rfl rfl (fun h3 => ?_) (fun h3 => ?_)
      · skip
        rw [if_neg (fun q => by rw [h3] at q; cases q.1), Int.zero_add]
        refine e_iinc 19 41 (ls' := [some _, some _, some _, some _, some _]) rfl rfl (Nat.le_of_ble_eq_true rfl) rfl rfl ?_
        refine e_goto 20 5 rfl rfl ?_
        exact hn w h0 (by omega)
      · skip
        have hat := sp_stAt h01 (n := i) (by unfold xr; omega)
        rw [da_has h3] at hat
        have hb := chk_bnd h (T (31 + 2 * i))
        refine e_aload_n 11 22 rfl rfl rfl rfl ?_
        refine e_aload_n 12 23 rfl rfl rfl rfl ?_
        refine e_iload 13 25 rfl rfl rfl ?_
        refine g_callV 14 28 (hat) okX8_at cvX0_99 ⟨(Nat.le_of_ble_eq_true rfl), (Nat.le_of_ble_eq_true rfl)⟩ rfl rfl (Nat.le_of_ble_eq_true rfl) rfl rfl rfl rfl rfl (Nat.le_of_ble_eq_true rfl) (Nat.le_of_ble_eq_true rfl) (Nat.le_of_ble_eq_true rfl) ?_
        refine g_callV 15 31 (sp_chunkOf h (hA _ (vO_s i (by omega)).1)) okX0_chunkOf cvX0_90 ⟨(Nat.le_of_ble_eq_true rfl), (Nat.le_of_ble_eq_true rfl)⟩ rfl rfl (Nat.le_of_ble_eq_true rfl) rfl rfl rfl rfl rfl (Nat.le_of_ble_eq_true rfl) (Nat.le_of_ble_eq_true rfl) (Nat.le_of_ble_eq_true rfl) ?_
        refine e_iload_n 16 32 rfl rfl rfl rfl ?_
        refine e_icmp_ne 17 38 35 rfl rfl rfl (by unfold xr at *; omega) (by unfold xr at *; omega) (fun h4 => ?_) (fun h4 => ?_)
        · skip
          rw [if_neg (fun q => h4 q.2), Int.zero_add]
          refine e_iinc 19 41 (ls' := [some _, some _, some _, some _, some _]) rfl rfl (Nat.le_of_ble_eq_true rfl) rfl rfl ?_
          refine e_goto 20 5 rfl rfl ?_
          exact hn w h0 (by omega)
        · skip
          rw [if_pos ⟨h3, h4⟩, ← Int.add_assoc]
          refine e_iinc 18 38 (ls' := [some _, some _, some _, some _, some _]) rfl rfl (Nat.le_of_ble_eq_true rfl) rfl rfl ?_
          refine e_iinc 19 41 (ls' := [some _, some _, some _, some _, some _]) rfl rfl (Nat.le_of_ble_eq_true rfl) rfl rfl ?_
          refine e_goto 20 5 rfl rfl ?_
          exact hn (w + 1) (by omega) (by omega)
  refine e_entry okX0_countIn (Nat.le_of_ble_eq_true rfl) (ls := [some _, some _, some _, none, none]) rfl ?_
  refine e_iconst 0 1 rfl rfl ?_
  refine e_istore_n 1 2 (ls' := [some _, some _, some _, some _, none]) rfl rfl rfl (Nat.le_of_ble_eq_true rfl) rfl ?_
  refine e_iconst 2 3 rfl rfl ?_
  refine e_istore 3 5 (ls' := [some _, some _, some _, some _, some _]) rfl rfl (Nat.le_of_ble_eq_true rfl) rfl ?_
  have h9 := loop 100 0 0 rfl (by omega) (by omega)
  rw [Int.zero_add] at h9
  exact h9
theorem sp_countAt {σ : xSig} {T : Nat → List Int} (hA : VAll σ T) (h01 : n01 σ 27) (h : CHR σ) {c : Int} (hc : xr c) : Rd MX0_countAt [.ref 231, .ref 25, .int (ii c)] σ (iv (cat9 σ T c)) := by
  have h1 := h.1
  have loop : ∀ (n i : Nat) (w : Int), i + n = 100 → 0 ≤ w → w ≤ i → x_E MX0_countAt 0 0 5 [some (.ref 231), some (.ref 25), some (.int (ii c)), some (.int (ii w)), some (.int (ii i))] [] (St σ) 0 0 (iv (w + smN (fun n => if hasd σ n = true ∧ shd σ (T (31 + 2 * n)) = c then 1 else 0) i n)) (St σ) := by
    intro n
    induction n with
    | zero =>
      intro i w hi h0 h2
      simp only [smN, Int.add_zero]
      refine e_iload 4 7 rfl rfl rfl ?_
      refine e_bipush 5 9 rfl rfl rfl ?_
      refine e_icmp_ge 6 44 12 rfl rfl rfl (by unfold xr at *; omega) (by unfold xr at *; omega) (fun _ => ?_) (fun h9 => absurd h9 (by omega))
      refine e_iload_n 21 45 rfl rfl rfl rfl ?_
      exact e_ireturn 22 rfl rfl (Nat.le_of_ble_eq_true rfl) (Nat.le_of_ble_eq_true rfl)
    | succ n ih =>
      intro i w hi h0 h2
      have hn := fun w' (q0 : 0 ≤ w') (q1 : w' ≤ (i : Int) + 1) => ih (i + 1) w' (by omega) q0 (by omega)
      rw [show (((i + 1 : Nat)) : Int) = (i : Int) + 1 by omega] at hn
      simp only [smN]
      refine e_iload 4 7 rfl rfl rfl ?_
      refine e_bipush 5 9 rfl rfl rfl ?_
      refine e_icmp_ge 6 44 12 rfl rfl rfl (by unfold xr at *; omega) (by unfold xr at *; omega) (fun h9 => absurd h9 (by omega)) (fun _ => ?_)
      refine e_aload_n 7 13 rfl rfl rfl rfl ?_
      refine e_iload 8 15 rfl rfl rfl ?_
      refine g_callV 9 18 (sp_has h01 (n := i) (by unfold xr; omega)) okX8_has cvX0_96 ⟨(Nat.le_of_ble_eq_true rfl), (Nat.le_of_ble_eq_true rfl)⟩ rfl rfl (Nat.le_of_ble_eq_true rfl) rfl rfl rfl rfl rfl (Nat.le_of_ble_eq_true rfl) (Nat.le_of_ble_eq_true rfl) (Nat.le_of_ble_eq_true rfl) ?_
      refine e_ifb_eq 10 38 21 rfl rfl rfl (fun h3 => ?_) (fun h3 => ?_)
      · skip
        rw [if_neg (fun q => by rw [h3] at q; cases q.1), Int.zero_add]
        refine e_iinc 19 41 (ls' := [some _, some _, some _, some _, some _]) rfl rfl (Nat.le_of_ble_eq_true rfl) rfl rfl ?_
        refine e_goto 20 5 rfl rfl ?_
        exact hn w h0 (by omega)
      · skip
        have hat := sp_stAt h01 (n := i) (by unfold xr; omega)
        rw [da_has h3] at hat
        have hb := cown_bnd h (chk σ (T (31 + 2 * i)))
        have hb2 : shd σ (T (31 + 2 * i)) = cown σ (chk σ (T (31 + 2 * i))) := rfl
        refine e_aload_n 11 22 rfl rfl rfl rfl ?_
        refine e_aload_n 12 23 rfl rfl rfl rfl ?_
        refine e_iload 13 25 rfl rfl rfl ?_
        refine g_callV 14 28 (hat) okX8_at cvX0_99 ⟨(Nat.le_of_ble_eq_true rfl), (Nat.le_of_ble_eq_true rfl)⟩ rfl rfl (Nat.le_of_ble_eq_true rfl) rfl rfl rfl rfl rfl (Nat.le_of_ble_eq_true rfl) (Nat.le_of_ble_eq_true rfl) (Nat.le_of_ble_eq_true rfl) ?_
        refine g_callV 15 31 (sp_shardOf h (hA _ (vO_s i (by omega)).1)) okX0_shardOf cvX0_103 ⟨(Nat.le_of_ble_eq_true rfl), (Nat.le_of_ble_eq_true rfl)⟩ rfl rfl (Nat.le_of_ble_eq_true rfl) rfl rfl rfl rfl rfl (Nat.le_of_ble_eq_true rfl) (Nat.le_of_ble_eq_true rfl) (Nat.le_of_ble_eq_true rfl) ?_
        refine e_iload_n 16 32 rfl rfl rfl rfl ?_
        refine e_icmp_ne 17 38 35 rfl rfl rfl (by unfold xr at *; omega) (by unfold xr at *; omega) (fun h4 => ?_) (fun h4 => ?_)
        · skip
          rw [if_neg (fun q => h4 q.2), Int.zero_add]
          refine e_iinc 19 41 (ls' := [some _, some _, some _, some _, some _]) rfl rfl (Nat.le_of_ble_eq_true rfl) rfl rfl ?_
          refine e_goto 20 5 rfl rfl ?_
          exact hn w h0 (by omega)
        · skip
          rw [if_pos ⟨h3, h4⟩, ← Int.add_assoc]
          refine e_iinc 18 38 (ls' := [some _, some _, some _, some _, some _]) rfl rfl (Nat.le_of_ble_eq_true rfl) rfl rfl ?_
          refine e_iinc 19 41 (ls' := [some _, some _, some _, some _, some _]) rfl rfl (Nat.le_of_ble_eq_true rfl) rfl rfl ?_
          refine e_goto 20 5 rfl rfl ?_
          exact hn (w + 1) (by omega) (by omega)
  refine e_entry okX0_countAt (Nat.le_of_ble_eq_true rfl) (ls := [some _, some _, some _, none, none]) rfl ?_
  refine e_iconst 0 1 rfl rfl ?_
  refine e_istore_n 1 2 (ls' := [some _, some _, some _, some _, none]) rfl rfl rfl (Nat.le_of_ble_eq_true rfl) rfl ?_
  refine e_iconst 2 3 rfl rfl ?_
  refine e_istore 3 5 (ls' := [some _, some _, some _, some _, some _]) rfl rfl (Nat.le_of_ble_eq_true rfl) rfl ?_
  have h9 := loop 100 0 0 rfl (by omega) (by omega)
  rw [Int.zero_add] at h9
  exact h9
def hmv (σ : xSig) : Bool := decide (σ 231 11 ≠ -1)
theorem sp_hasMove {σ : xSig} (h : CHR σ) : Rd MX0_hasMove [.ref 231] σ (zv (hmv σ)) := by
  have h1 := h.2.2.2.1
  refine e_entry okX0_hasMove (Nat.le_of_ble_eq_true rfl) (ls := [some _]) rfl ?_
  refine e_aload_n 0 1 rfl rfl rfl rfl ?_
  refine g_getI 1 4 11 ckX0 flX0_48 rfl rfl (Nat.le_of_ble_eq_true rfl) rfl rfl rfl rfl ?_
  refine e_iconst 2 5 rfl rfl ?_
  refine e_icmp_eq 3 12 8 rfl rfl rfl (by unfold xr at *; omega) (by unfold xr at *; omega) (fun h2 => ?_) (fun h2 => ?_)
  · skip
    rw [show hmv σ = false from decide_eq_false (fun q => q h2)]
    refine e_iconst 6 13 rfl rfl ?_
    exact e_zreturn (x := 0) 7 rfl rfl (by omega) (Nat.le_of_ble_eq_true rfl) (Nat.le_of_ble_eq_true rfl)
  · skip
    rw [show hmv σ = true from decide_eq_true h2]
    refine e_iconst 4 9 rfl rfl ?_
    refine e_goto 5 13 rfl rfl ?_
    exact e_zreturn (x := 1) 7 rfl rfl (by omega) (Nat.le_of_ble_eq_true rfl) (Nat.le_of_ble_eq_true rfl)
def ismv (σ : xSig) (c : Int) : Bool := decide (σ 231 11 ≠ -1 ∧ c = σ 231 11)
theorem sp_isMoving {σ : xSig} (h : CHR σ) {c : Int} (hc : xr c) : Rd MX0_isMoving [.ref 231, .int (ii c)] σ (zv (ismv σ c)) := by
  have h1 := h.2.2.2.1
  unfold xr at hc
  refine e_entry okX0_isMoving (Nat.le_of_ble_eq_true rfl) (ls := [some _, some _]) rfl ?_
  refine e_aload_n 0 1 rfl rfl rfl rfl ?_
  refine g_callV 1 4 (sp_hasMove h) okX0_hasMove cvX0_106 ⟨(Nat.le_of_ble_eq_true rfl), (Nat.le_of_ble_eq_true rfl)⟩ rfl rfl (Nat.le_of_ble_eq_true rfl) rfl rfl rfl rfl rfl (Nat.le_of_ble_eq_true rfl) (Nat.le_of_ble_eq_true rfl) (Nat.le_of_ble_eq_true rfl) ?_
  refine e_ifb_eq 2 19 7 rfl rfl rfl (fun h2 => ?_) (fun h2 => ?_)
  · skip
    rw [show ismv σ c = false from decide_eq_false (fun q => (of_decide_eq_false h2) q.1)]
    refine e_iconst 9 20 rfl rfl ?_
    exact e_zreturn (x := 0) 10 rfl rfl (by omega) (Nat.le_of_ble_eq_true rfl) (Nat.le_of_ble_eq_true rfl)
  · skip
    refine e_iload_n 3 8 rfl rfl rfl rfl ?_
    refine e_aload_n 4 9 rfl rfl rfl rfl ?_
    refine g_getI 5 12 11 ckX0 flX0_48 rfl rfl (Nat.le_of_ble_eq_true rfl) rfl rfl rfl rfl ?_
    refine e_icmp_ne 6 19 15 rfl rfl rfl (by unfold xr at *; omega) (by unfold xr at *; omega) (fun h3 => ?_) (fun h3 => ?_)
    · skip
      rw [show ismv σ c = false from decide_eq_false (fun q => h3 q.2)]
      refine e_iconst 9 20 rfl rfl ?_
      exact e_zreturn (x := 0) 10 rfl rfl (by omega) (Nat.le_of_ble_eq_true rfl) (Nat.le_of_ble_eq_true rfl)
    · skip
      rw [show ismv σ c = true from decide_eq_true ⟨of_decide_eq_true h2, h3⟩]
      refine e_iconst 7 16 rfl rfl ?_
      refine e_goto 8 20 rfl rfl ?_
      exact e_zreturn (x := 1) 10 rfl rfl (by omega) (Nat.le_of_ble_eq_true rfl) (Nat.le_of_ble_eq_true rfl)
def ilf (σ : xSig) (T : Nat → List Int) (n : Nat) : Bool := hasd σ n && decide (chk σ (T (31 + 2 * n)) = σ 231 11 ∧ σ 235 n = 0)
theorem sp_isLeft {σ : xSig} {T : Nat → List Int} (hA : VAll σ T) (h01 : n01 σ 27) (h : CHR σ) {n : Nat} (hn : n < 100) : Rd MX0_isLeft [.ref 231, .ref 25, .int (ii n)] σ (zv (ilf σ T n)) := by
  have h1 := h.2.2.2.1
  have h2 := h.2.2.2.2.2.2.2 n
  have h0 := h.1
  refine e_entry okX0_isLeft (Nat.le_of_ble_eq_true rfl) (ls := [some _, some _, some _]) rfl ?_
  refine e_aload_n 0 1 rfl rfl rfl rfl ?_
  refine e_iload_n 1 2 rfl rfl rfl rfl ?_
  refine g_callV 2 5 (sp_has h01 (n := n) (by unfold xr; omega)) okX8_has cvX0_96 ⟨(Nat.le_of_ble_eq_true rfl), (Nat.le_of_ble_eq_true rfl)⟩ rfl rfl (Nat.le_of_ble_eq_true rfl) rfl rfl rfl rfl rfl (Nat.le_of_ble_eq_true rfl) (Nat.le_of_ble_eq_true rfl) (Nat.le_of_ble_eq_true rfl) ?_
  refine e_ifb_eq 3 50 8 rfl rfl rfl (fun h3 => ?_) (fun h3 => ?_)
  · skip
    rw [show ilf σ T n = false by unfold ilf; rw [h3]; rfl]
    refine e_iconst 26 51 rfl rfl ?_
    exact e_zreturn (x := 0) 27 rfl rfl (by omega) (Nat.le_of_ble_eq_true rfl) (Nat.le_of_ble_eq_true rfl)
  · skip
    have hat := sp_stAt h01 (n := n) (by unfold xr; omega)
    rw [da_has h3] at hat
    have hb := chk_bnd h (T (31 + 2 * n))
    refine e_aload_n 4 9 rfl rfl rfl rfl ?_
    refine e_aload_n 5 10 rfl rfl rfl rfl ?_
    refine e_iload_n 6 11 rfl rfl rfl rfl ?_
    refine g_callV 7 14 (hat) okX8_at cvX0_99 ⟨(Nat.le_of_ble_eq_true rfl), (Nat.le_of_ble_eq_true rfl)⟩ rfl rfl (Nat.le_of_ble_eq_true rfl) rfl rfl rfl rfl rfl (Nat.le_of_ble_eq_true rfl) (Nat.le_of_ble_eq_true rfl) (Nat.le_of_ble_eq_true rfl) ?_
    refine g_callV 8 17 (sp_chunkOf h (hA _ (vO_s n hn).1)) okX0_chunkOf cvX0_90 ⟨(Nat.le_of_ble_eq_true rfl), (Nat.le_of_ble_eq_true rfl)⟩ rfl rfl (Nat.le_of_ble_eq_true rfl) rfl rfl rfl rfl rfl (Nat.le_of_ble_eq_true rfl) (Nat.le_of_ble_eq_true rfl) (Nat.le_of_ble_eq_true rfl) ?_
    refine e_aload_n 9 18 rfl rfl rfl rfl ?_
    refine g_getI 10 21 11 ckX0 flX0_48 rfl rfl (Nat.le_of_ble_eq_true rfl) rfl rfl rfl rfl ?_
    refine e_icmp_ne 11 50 24 rfl rfl rfl (by unfold xr at *; omega) (by unfold xr at *; omega) (fun h4 => ?_) (fun h4 => ?_)
    · skip
      rw [show ilf σ T n = false by unfold ilf; rw [h3, Bool.true_and]; exact decide_eq_false (fun q => h4 q.1)]
      refine e_iconst 26 51 rfl rfl ?_
      exact e_zreturn (x := 0) 27 rfl rfl (by omega) (Nat.le_of_ble_eq_true rfl) (Nat.le_of_ble_eq_true rfl)
    · skip
      refine e_iload_n 12 25 rfl rfl rfl rfl ?_
      refine e_if_lt 13 50 28 rfl rfl rfl (by unfold xr at *; omega) (fun h9 => absurd h9 (by omega)) (fun _ => ?_)
      refine e_iload_n 14 29 rfl rfl rfl rfl ?_
      refine e_aload_n 15 30 rfl rfl rfl rfl ?_
      refine g_getR 16 33 ckX0 flX0_21 rfl rfl (Nat.le_of_ble_eq_true rfl) rfl rfl ?_
      refine g_alen 17 34 rfl rfl (Nat.le_of_ble_eq_true rfl) rfl (Nat.le_of_ble_eq_true rfl) ?_
      refine e_icmp_ge 18 50 37 rfl rfl rfl (by unfold xr at *; omega) (by unfold xr at *; omega) (fun h9 => absurd h9 (by omega)) (fun _ => ?_)
      refine e_aload_n 19 38 rfl rfl rfl rfl ?_
      refine g_getR 20 41 ckX0 flX0_21 rfl rfl (Nat.le_of_ble_eq_true rfl) rfl rfl ?_
      refine e_iload_n 21 42 rfl rfl rfl rfl ?_
      refine g_baload 22 43 rfl rfl (Nat.le_of_ble_eq_true rfl) rfl (by omega) (by omega) (by omega) rfl ?_
      refine e_if_ne 23 50 46 rfl rfl rfl (by unfold xr at *; omega) (fun h5 => ?_) (fun h5 => ?_)
      · skip
        rw [show ilf σ T n = false by unfold ilf; rw [h3, Bool.true_and]; exact decide_eq_false (fun q => h5 q.2)]
        refine e_iconst 26 51 rfl rfl ?_
        exact e_zreturn (x := 0) 27 rfl rfl (by omega) (Nat.le_of_ble_eq_true rfl) (Nat.le_of_ble_eq_true rfl)
      · skip
        rw [show ilf σ T n = true by unfold ilf; rw [h3, Bool.true_and]; exact decide_eq_true ⟨h4, h5⟩]
        refine e_iconst 24 47 rfl rfl ?_
        refine e_goto 25 51 rfl rfl ?_
        exact e_zreturn (x := 1) 27 rfl rfl (by omega) (Nat.le_of_ble_eq_true rfl) (Nat.le_of_ble_eq_true rfl)
def clf (σ : xSig) (T : Nat → List Int) : Int := smN (fun n => bi (ilf σ T n)) 0 100
theorem sp_countLeft {σ : xSig} {T : Nat → List Int} (hA : VAll σ T) (h01 : n01 σ 27) (h : CHR σ) : Rd MX0_countLeft [.ref 231, .ref 25] σ (iv (clf σ T)) := by
  have loop : ∀ (n i : Nat) (w : Int), i + n = 100 → 0 ≤ w → w ≤ i → x_E MX0_countLeft 0 0 4 [some (.ref 231), some (.ref 25), some (.int (ii w)), some (.int (ii i))] [] (St σ) 0 0 (iv (w + smN (fun n => bi (ilf σ T n)) i n)) (St σ) := by
    intro n
    induction n with
    | zero =>
      intro i w hi h0 h2
      simp only [smN, Int.add_zero]
      refine e_iload_n 4 5 rfl rfl rfl rfl ?_
      refine e_bipush 5 7 rfl rfl rfl ?_
      refine e_icmp_ge 6 28 10 rfl rfl rfl (by unfold xr at *; omega) (by unfold xr at *; omega) (fun _ => ?_) (fun h9 => absurd h9 (by omega))
      refine e_iload_n 15 29 rfl rfl rfl rfl ?_
      exact e_ireturn 16 rfl rfl (Nat.le_of_ble_eq_true rfl) (Nat.le_of_ble_eq_true rfl)
    | succ n ih =>
      intro i w hi h0 h2
      have hn := fun w' (q0 : 0 ≤ w') (q1 : w' ≤ (i : Int) + 1) => ih (i + 1) w' (by omega) q0 (by omega)
      rw [show (((i + 1 : Nat)) : Int) = (i : Int) + 1 by omega] at hn
      simp only [smN]
      refine e_iload_n 4 5 rfl rfl rfl rfl ?_
      refine e_bipush 5 7 rfl rfl rfl ?_
      refine e_icmp_ge 6 28 10 rfl rfl rfl (by unfold xr at *; omega) (by unfold xr at *; omega) (fun h9 => absurd h9 (by omega)) (fun _ => ?_)
      refine e_aload_n 7 11 rfl rfl rfl rfl ?_
      refine e_aload_n 8 12 rfl rfl rfl rfl ?_
      refine e_iload_n 9 13 rfl rfl rfl rfl ?_
      refine g_callV 10 16 (sp_isLeft hA h01 h (n := i) (by omega)) okX0_isLeft cvX0_110 ⟨(Nat.le_of_ble_eq_true rfl), (Nat.le_of_ble_eq_true rfl)⟩ rfl rfl (Nat.le_of_ble_eq_true rfl) rfl rfl rfl rfl rfl (Nat.le_of_ble_eq_true rfl) (Nat.le_of_ble_eq_true rfl) (Nat.le_of_ble_eq_true rfl) ?_
      refine e_ifb_eq 11 22 19 rfl rfl rfl (fun h3 => ?_) (fun h3 => ?_)
      · skip
        rw [h3, show bi false = 0 from rfl, Int.zero_add]
        refine e_iinc 13 25 (ls' := [some _, some _, some _, some _]) rfl rfl (Nat.le_of_ble_eq_true rfl) rfl rfl ?_
        refine e_goto 14 4 rfl rfl ?_
        exact hn w h0 (by omega)
      · skip
        rw [h3, show bi true = 1 from rfl, ← Int.add_assoc]
        refine e_iinc 12 22 (ls' := [some _, some _, some _, some _]) rfl rfl (Nat.le_of_ble_eq_true rfl) rfl rfl ?_
        refine e_iinc 13 25 (ls' := [some _, some _, some _, some _]) rfl rfl (Nat.le_of_ble_eq_true rfl) rfl rfl ?_
        refine e_goto 14 4 rfl rfl ?_
        exact hn (w + 1) (by omega) (by omega)
  refine e_entry okX0_countLeft (Nat.le_of_ble_eq_true rfl) (ls := [some _, some _, none, none]) rfl ?_
  refine e_iconst 0 1 rfl rfl ?_
  refine e_istore_n 1 2 (ls' := [some _, some _, some _, none]) rfl rfl rfl (Nat.le_of_ble_eq_true rfl) rfl ?_
  refine e_iconst 2 3 rfl rfl ?_
  refine e_istore_n 3 4 (ls' := [some _, some _, some _, some _]) rfl rfl rfl (Nat.le_of_ble_eq_true rfl) rfl ?_
  have h9 := loop 100 0 0 rfl (by omega) (by omega)
  rw [Int.zero_add] at h9
  exact h9
end
section
/-! ===== Chart: writing ===== -/
theorem bi_t : bi true = 1 := rfl
theorem bi_f : bi false = 0 := rfl
/-- the reads of a chart hang on its rows alone -/
def eqC (σ σ' : xSig) : Prop := σ' 231 = σ 231 ∧ σ' 232 = σ 232 ∧ σ' 233 = σ 233
theorem chk_congr {σ σ' : xSig} (h : eqC σ σ') (t : List Int) : chk σ' t = chk σ t ∧ shd σ' t = shd σ t ∧ kyo σ' t = kyo σ t := by
  obtain ⟨h1, h2, h3⟩ := h
  have e1 : kyo σ' t = kyo σ t := by unfold kyo; rw [h1]
  have e2 : chas σ' = chas σ := by funext c; unfold chas; rw [h1]
  have e3 : cfst σ' = cfst σ := by funext c; unfold cfst; rw [e2, h2]
  have e4 : cown σ' = cown σ := by funext c; unfold cown; rw [e2, h3]
  have e5 : chk σ' t = chk σ t := by unfold chk; rw [e3, e1, h1]
  exact ⟨e5, by unfold shd; rw [e5, e4], e1⟩
theorem hasd_congr {σ σ' : xSig} (h : σ' 27 = σ 27) (n : Int) : hasd σ' n = hasd σ n := by unfold hasd; rw [h]
theorem CHR.same {σ σ' : xSig} (h : CHR σ) (he : eqC σ σ') (h5 : n01 σ' 235) : CHR σ' := by
  obtain ⟨h1, h2, h3⟩ := he
  obtain ⟨q1, q2, q3, q4, q5, q6, q7, q8⟩ := h
  refine ⟨by rw [h1]; exact q1, by rw [h1]; exact q2, by rw [h1]; exact q3, by rw [h1]; exact q4, by rw [h1]; exact q5, by rw [h2]; exact q6, by rw [h3]; exact q7, h5⟩
theorem n01_xu {σ : xSig} {a : Nat} (h : n01 σ a) (j v : Int) (hv : v = 0 ∨ v = 1) : n01 (xu σ a j v) a := by
  intro i
  unfold xu
  split
  · exact hv
  · exact h i
def cpn (T : Nat → List Int) : Nat → Nat → Int → xSig → xSig
  | _, 0, _, σ => σ
  | i, n + 1, l, σ => if l ≤ 0 then σ else if ilf σ T i = true then cpn T (i + 1) n (l - 1) (xu σ 235 i 1) else cpn T (i + 1) n l σ
theorem sp_copySome {σ : xSig} {T : Nat → List Int} (hA : VAll σ T) (h01 : n01 σ 27) (h : CHR σ) {l : Int} (hl : 1 ≤ l ∧ l ≤ 20) : x_Sp MX0_copySome 0 0 [.ref 231, .ref 25, .int (ii l)] (St σ) vv (St (cpn T 0 100 l σ)) := by
  have loop : ∀ (n i : Nat) (w : Int) (σ : xSig), VAll σ T → n01 σ 27 → CHR σ → i + n = 100 → 0 ≤ w → w ≤ 20 → x_E MX0_copySome 0 0 5 [some (.ref 231), some (.ref 25), some (.int (ii l)), some (.int (ii w)), some (.int (ii i))] [] (St σ) 0 0 vv (St (cpn T i n w σ)) := by
    intro n
    induction n with
    | zero =>
      intro i w σ hA h01 h hi h0 h2
      refine e_iload 4 7 rfl rfl rfl ?_
      refine e_aload_n 5 8 rfl rfl rfl rfl ?_
      refine g_getR 6 11 ckX0 flX0_21 rfl rfl (Nat.le_of_ble_eq_true rfl) rfl rfl ?_
      refine g_alen 7 12 rfl rfl (Nat.le_of_ble_eq_true rfl) rfl (Nat.le_of_ble_eq_true rfl) ?_
      refine e_icmp_ge 8 46 15 rfl rfl rfl (by unfold xr at *; omega) (by unfold xr at *; omega) (fun _ => ?_) (fun h9 => absurd h9 (by omega))
      exact e_return 24 rfl rfl (Nat.le_of_ble_eq_true rfl) (Nat.le_of_ble_eq_true rfl)
    | succ n ih =>
      intro i w σ hA h01 h hi h0 h2
      simp only [cpn]
      refine e_iload 4 7 rfl rfl rfl ?_
      refine e_aload_n 5 8 rfl rfl rfl rfl ?_
      refine g_getR 6 11 ckX0 flX0_21 rfl rfl (Nat.le_of_ble_eq_true rfl) rfl rfl ?_
      refine g_alen 7 12 rfl rfl (Nat.le_of_ble_eq_true rfl) rfl (Nat.le_of_ble_eq_true rfl) ?_
      refine e_icmp_ge 8 46 15 rfl rfl rfl (by unfold xr at *; omega) (by unfold xr at *; omega) (fun h9 => absurd h9 (by omega)) (fun _ => ?_)
      refine e_iload_n 9 16 rfl rfl rfl rfl ?_
      refine e_if_le 10 46 19 rfl rfl rfl (by unfold xr at *; omega) (fun h3 => ?_) (fun h3 => ?_)
      · skip
        rw [if_pos h3]
        exact e_return 24 rfl rfl (Nat.le_of_ble_eq_true rfl) (Nat.le_of_ble_eq_true rfl)
      · skip
        rw [if_neg (by omega)]
        refine e_aload_n 11 20 rfl rfl rfl rfl ?_
        refine e_aload_n 12 21 rfl rfl rfl rfl ?_
        refine e_iload 13 23 rfl rfl rfl ?_
        refine g_callV 14 26 (sp_isLeft hA h01 h (n := i) (by omega)) okX0_isLeft cvX0_110 ⟨(Nat.le_of_ble_eq_true rfl), (Nat.le_of_ble_eq_true rfl)⟩ rfl rfl (Nat.le_of_ble_eq_true rfl) rfl rfl rfl rfl rfl (Nat.le_of_ble_eq_true rfl) (Nat.le_of_ble_eq_true rfl) (Nat.le_of_ble_eq_true rfl) ?_
        refine e_ifb_eq 15 40 29 rfl rfl rfl (fun h4 => ?_) (fun h4 => ?_)
        · skip
          rw [h4]
          have hn := ih (i + 1) w σ hA h01 h (by omega) h0 h2
          rw [show (((i + 1 : Nat)) : Int) = (i : Int) + 1 by omega] at hn
          refine e_iinc 22 43 (ls' := [some _, some _, some _, some _, some _]) rfl rfl (Nat.le_of_ble_eq_true rfl) rfl rfl ?_
          refine e_goto 23 5 rfl rfl ?_
          exact hn
        · skip
          rw [if_pos h4]
          have hn := ih (i + 1) (w - 1) (xu σ 235 i 1) (hA.xu _ _ (by decide +kernel)) (by intro j; rw [xu_other _ _ _ (by decide)]; exact h01 j) (h.same ⟨xu_other _ _ _ (by decide), xu_other _ _ _ (by decide), xu_other _ _ _ (by decide)⟩ (n01_xu h.2.2.2.2.2.2.2 i 1 (Or.inr rfl))) (by omega) (by omega) (by omega)
          rw [show (((i + 1 : Nat)) : Int) = (i : Int) + 1 by omega] at hn
          refine e_aload_n 16 30 rfl rfl rfl rfl ?_
          refine g_getR 17 33 ckX0 flX0_21 rfl rfl (Nat.le_of_ble_eq_true rfl) rfl rfl ?_
          refine e_iload 18 35 rfl rfl rfl ?_
          refine e_iconst 19 36 rfl rfl ?_
          refine g_bastore 20 37 rfl rfl (by omega) (Nat.le_of_ble_eq_true rfl) rfl (by omega) (by omega) (by omega) ?_
          refine e_iinc 21 40 (ls' := [some _, some _, some _, some _, some _]) rfl rfl (Nat.le_of_ble_eq_true rfl) rfl rfl ?_
          refine e_iinc 22 43 (ls' := [some _, some _, some _, some _, some _]) rfl rfl (Nat.le_of_ble_eq_true rfl) rfl rfl ?_
          refine e_goto 23 5 rfl rfl ?_
          exact hn
  refine e_entry okX0_copySome (Nat.le_of_ble_eq_true rfl) (ls := [some _, some _, some _, none, none]) rfl ?_
  refine e_iload_n 0 1 rfl rfl rfl rfl ?_
  refine e_istore_n 1 2 (ls' := [some _, some _, some _, some _, none]) rfl rfl rfl (Nat.le_of_ble_eq_true rfl) rfl ?_
  refine e_iconst 2 3 rfl rfl ?_
  refine e_istore 3 5 (ls' := [some _, some _, some _, some _, some _]) rfl rfl (Nat.le_of_ble_eq_true rfl) rfl ?_
  exact loop 100 0 l σ hA h01 h rfl (by omega) (by omega)
def cao (σ : xSig) (n : Int) (t : List Int) : xSig := xu σ 235 n (bi (hmv σ && decide (chk σ t = σ 231 11)))
theorem sp_copyAtOnce {σ : xSig} (h : CHR σ) {a cap : Nat} {t : List Int} (hV : VH σ a cap t) {n : Int} (hn : 0 ≤ n ∧ n < 100) : x_Sp MX0_copyAtOnce 0 0 [.ref 231, .int (ii n), .ref a] (St σ) vv (St (cao σ n t)) := by
  have h0 := h.1
  have hm := h.2.2.2.1
  have hb := chk_bnd h t
  unfold cao
  refine e_entry okX0_copyAtOnce (Nat.le_of_ble_eq_true rfl) (ls := [some _, some _, some _]) rfl ?_
  refine e_iload_n 0 1 rfl rfl rfl rfl ?_
  refine e_if_lt 1 43 4 rfl rfl rfl (by unfold xr at *; omega) (fun h9 => absurd h9 (by omega)) (fun _ => ?_)
  refine e_iload_n 2 5 rfl rfl rfl rfl ?_
  refine e_aload_n 3 6 rfl rfl rfl rfl ?_
  refine g_getR 4 9 ckX0 flX0_21 rfl rfl (Nat.le_of_ble_eq_true rfl) rfl rfl ?_
  refine g_alen 5 10 rfl rfl (Nat.le_of_ble_eq_true rfl) rfl (Nat.le_of_ble_eq_true rfl) ?_
  refine e_icmp_ge 6 43 13 rfl rfl rfl (by unfold xr at *; omega) (by unfold xr at *; omega) (fun h9 => absurd h9 (by omega)) (fun _ => ?_)
  refine e_aload_n 7 14 rfl rfl rfl rfl ?_
  refine g_getR 8 17 ckX0 flX0_21 rfl rfl (Nat.le_of_ble_eq_true rfl) rfl rfl ?_
  refine e_iload_n 9 18 rfl rfl rfl rfl ?_
  refine e_aload_n 10 19 rfl rfl rfl rfl ?_
  refine g_callV 11 22 (sp_hasMove h) okX0_hasMove cvX0_106 ⟨(Nat.le_of_ble_eq_true rfl), (Nat.le_of_ble_eq_true rfl)⟩ rfl rfl (Nat.le_of_ble_eq_true rfl) rfl rfl rfl rfl rfl (Nat.le_of_ble_eq_true rfl) (Nat.le_of_ble_eq_true rfl) (Nat.le_of_ble_eq_true rfl) ?_
  refine e_ifb_eq 12 41 25 rfl rfl rfl (fun h2 => ?_) (fun h2 => ?_)
  · skip
    rw [h2, Bool.false_and, bi_f]
    refine e_iconst 21 42 rfl rfl ?_
    refine g_bastore 22 43 rfl rfl (by omega) (Nat.le_of_ble_eq_true rfl) rfl (by omega) (by omega) (by omega) ?_
    exact e_return 23 rfl rfl (Nat.le_of_ble_eq_true rfl) (Nat.le_of_ble_eq_true rfl)
  · skip
    rw [h2, Bool.true_and]
    refine e_aload_n 13 26 rfl rfl rfl rfl ?_
    refine e_aload_n 14 27 rfl rfl rfl rfl ?_
    refine g_callV 15 30 (sp_chunkOf h hV) okX0_chunkOf cvX0_90 ⟨(Nat.le_of_ble_eq_true rfl), (Nat.le_of_ble_eq_true rfl)⟩ rfl rfl (Nat.le_of_ble_eq_true rfl) rfl rfl rfl rfl rfl (Nat.le_of_ble_eq_true rfl) (Nat.le_of_ble_eq_true rfl) (Nat.le_of_ble_eq_true rfl) ?_
    refine e_aload_n 16 31 rfl rfl rfl rfl ?_
    refine g_getI 17 34 11 ckX0 flX0_48 rfl rfl (Nat.le_of_ble_eq_true rfl) rfl rfl rfl rfl ?_
    refine e_icmp_ne 18 41 37 rfl rfl rfl (by unfold xr at *; omega) (by unfold xr at *; omega) (fun h3 => ?_) (fun h3 => ?_)
    · skip
      rw [decide_eq_false h3, bi_f]
      refine e_iconst 21 42 rfl rfl ?_
      refine g_bastore 22 43 rfl rfl (by omega) (Nat.le_of_ble_eq_true rfl) rfl (by omega) (by omega) (by omega) ?_
      exact e_return 23 rfl rfl (Nat.le_of_ble_eq_true rfl) (Nat.le_of_ble_eq_true rfl)
    · skip
      rw [decide_eq_true h3, bi_t]
      refine e_iconst 19 38 rfl rfl ?_
      refine e_goto 20 42 rfl rfl ?_
      refine g_bastore 22 43 rfl rfl (by omega) (Nat.le_of_ble_eq_true rfl) rfl (by omega) (by omega) (by omega) ?_
      exact e_return 23 rfl rfl (Nat.le_of_ble_eq_true rfl) (Nat.le_of_ble_eq_true rfl)
theorem sp_dropCopy {σ : xSig} {n : Int} (hn : 0 ≤ n ∧ n < 100) : x_Sp MX0_dropCopy 0 0 [.ref 231, .int (ii n)] (St σ) vv (St (xu σ 235 n 0)) := by
  refine e_entry okX0_dropCopy (Nat.le_of_ble_eq_true rfl) (ls := [some _, some _]) rfl ?_
  refine e_iload_n 0 1 rfl rfl rfl rfl ?_
  refine e_if_lt 1 20 4 rfl rfl rfl (by unfold xr at *; omega) (fun h9 => absurd h9 (by omega)) (fun _ => ?_)
  refine e_iload_n 2 5 rfl rfl rfl rfl ?_
  refine e_aload_n 3 6 rfl rfl rfl rfl ?_
  refine g_getR 4 9 ckX0 flX0_21 rfl rfl (Nat.le_of_ble_eq_true rfl) rfl rfl ?_
  refine g_alen 5 10 rfl rfl (Nat.le_of_ble_eq_true rfl) rfl (Nat.le_of_ble_eq_true rfl) ?_
  refine e_icmp_ge 6 20 13 rfl rfl rfl (by unfold xr at *; omega) (by unfold xr at *; omega) (fun h9 => absurd h9 (by omega)) (fun _ => ?_)
  refine e_aload_n 7 14 rfl rfl rfl rfl ?_
  refine g_getR 8 17 ckX0 flX0_21 rfl rfl (Nat.le_of_ble_eq_true rfl) rfl rfl ?_
  refine e_iload_n 9 18 rfl rfl rfl rfl ?_
  refine e_iconst 10 19 rfl rfl ?_
  refine g_bastore 11 20 rfl rfl (by omega) (Nat.le_of_ble_eq_true rfl) rfl (by omega) (by omega) (by omega) ?_
  exact e_return 12 rfl rfl (Nat.le_of_ble_eq_true rfl) (Nat.le_of_ble_eq_true rfl)
/-- the first i places of the row a are 0 -/
def zr (σ : xSig) (a : Nat) (i : Int) : xSig := fun b j => if b = a ∧ 0 ≤ j ∧ j < i then 0 else σ b j
theorem zr_0 (σ : xSig) (a : Nat) : zr σ a 0 = σ := by
  funext b j
  unfold zr
  rw [if_neg (by omega)]
theorem zr_s (σ : xSig) (a : Nat) (i : Nat) : xu (zr σ a i) a i 0 = zr σ a ((i : Int) + 1) := by
  funext b j
  unfold xu zr
  by_cases h : b = a ∧ j = i
  · rw [if_pos h, if_pos (by omega)]
  · rw [if_neg h]
    by_cases h2 : b = a ∧ 0 ≤ j ∧ j < i
    · rw [if_pos h2, if_pos (by omega)]
    · rw [if_neg h2, if_neg (by omega)]
theorem zr_other (σ : xSig) {a b : Nat} (i : Int) (h : b ≠ a) : zr σ a i b = σ b := by
  funext j
  unfold zr
  rw [if_neg (fun q => h q.1)]
def ncp (σ : xSig) : Int := smN (fun n => if σ 235 n = 1 then 1 else 0) 0 100
def emv (σ : xSig) : xSig := xu (xu (zr σ 235 100) 231 11 (-1)) 231 12 (-1)
theorem sp_endMove {σ : xSig} (h5 : n01 σ 235) : x_Sp MX0_endMove 0 0 [.ref 231] (St σ) (iv (ncp σ)) (St (emv σ)) := by
  have loop : ∀ (n i : Nat) (w : Int), i + n = 100 → 0 ≤ w → w ≤ i → x_E MX0_endMove 0 0 4 [some (.ref 231), some (.int (ii w)), some (.int (ii i))] [] (St (zr σ 235 i)) 0 0 (iv (w + smN (fun n => if σ 235 n = 1 then 1 else 0) i n)) (St (emv σ)) := by
    intro n
    induction n with
    | zero =>
      intro i w hi h0 h2
      simp only [smN, Int.add_zero]
      have e : i = 100 := by omega
      subst e
      unfold emv
      refine e_iload_n 4 5 rfl rfl rfl rfl ?_
      refine e_aload_n 5 6 rfl rfl rfl rfl ?_
      refine g_getR 6 9 ckX0 flX0_21 rfl rfl (Nat.le_of_ble_eq_true rfl) rfl rfl ?_
      refine g_alen 7 10 rfl rfl (Nat.le_of_ble_eq_true rfl) rfl (Nat.le_of_ble_eq_true rfl) ?_
      refine e_icmp_ge 8 38 13 rfl rfl rfl (by unfold xr at *; omega) (by unfold xr at *; omega) (fun _ => ?_) (fun h9 => absurd h9 (by omega))
      refine e_aload_n 22 39 rfl rfl rfl rfl ?_
      refine e_iconst 23 40 rfl rfl ?_
      refine g_putI 24 43 11 ckX0 flX0_48 rfl rfl (Nat.le_of_ble_eq_true rfl) rfl rfl rfl ?_
      refine e_aload_n 25 44 rfl rfl rfl rfl ?_
      refine e_iconst 26 45 rfl rfl ?_
      refine g_putI 27 48 12 ckX0 flX0_51 rfl rfl (Nat.le_of_ble_eq_true rfl) rfl rfl rfl ?_
      refine e_iload_n 28 49 rfl rfl rfl rfl ?_
      exact e_ireturn 29 rfl rfl (Nat.le_of_ble_eq_true rfl) (Nat.le_of_ble_eq_true rfl)
    | succ n ih =>
      intro i w hi h0 h2
      have hn := fun w' (q0 : 0 ≤ w') (q1 : w' ≤ (i : Int) + 1) => ih (i + 1) w' (by omega) q0 (by omega)
      rw [show (((i + 1 : Nat)) : Int) = (i : Int) + 1 by omega] at hn
      have e1 : zr σ 235 i 235 i = σ 235 i := by unfold zr; rw [if_neg (by omega)]
      have e2 := h5 i
      simp only [smN]
      refine e_iload_n 4 5 rfl rfl rfl rfl ?_
      refine e_aload_n 5 6 rfl rfl rfl rfl ?_
      refine g_getR 6 9 ckX0 flX0_21 rfl rfl (Nat.le_of_ble_eq_true rfl) rfl rfl ?_
      refine g_alen 7 10 rfl rfl (Nat.le_of_ble_eq_true rfl) rfl (Nat.le_of_ble_eq_true rfl) ?_
      refine e_icmp_ge 8 38 13 rfl rfl rfl (by unfold xr at *; omega) (by unfold xr at *; omega) (fun h9 => absurd h9 (by omega)) (fun _ => ?_)
      refine e_aload_n 9 14 rfl rfl rfl rfl ?_
      refine g_getR 10 17 ckX0 flX0_21 rfl rfl (Nat.le_of_ble_eq_true rfl) rfl rfl ?_
      refine e_iload_n 11 18 rfl rfl rfl rfl ?_
      refine g_baload 12 19 rfl rfl (Nat.le_of_ble_eq_true rfl) rfl (by omega) (by omega) (by omega) e1 ?_
      refine e_if_eq 13 25 22 rfl rfl rfl (by unfold xr at *; omega) (fun h3 => ?_) (fun h3 => ?_)
      · skip
        rw [if_neg (by omega), Int.zero_add]
        refine e_aload_n 15 26 rfl rfl rfl rfl ?_
        refine g_getR 16 29 ckX0 flX0_21 rfl rfl (Nat.le_of_ble_eq_true rfl) rfl rfl ?_
        refine e_iload_n 17 30 rfl rfl rfl rfl ?_
        refine e_iconst 18 31 rfl rfl ?_
        refine g_bastore 19 32 rfl rfl (by omega) (Nat.le_of_ble_eq_true rfl) rfl (by omega) (by omega) (by omega) ?_
        refine e_iinc 20 35 (ls' := [some _, some _, some _]) rfl rfl (Nat.le_of_ble_eq_true rfl) rfl rfl ?_
        refine e_goto 21 4 rfl rfl ?_
        rw [zr_s]
        exact hn w h0 (by omega)
      · skip
        rw [if_pos (by omega), ← Int.add_assoc]
        refine e_iinc 14 25 (ls' := [some _, some _, some _]) rfl rfl (Nat.le_of_ble_eq_true rfl) rfl rfl ?_
        refine e_aload_n 15 26 rfl rfl rfl rfl ?_
        refine g_getR 16 29 ckX0 flX0_21 rfl rfl (Nat.le_of_ble_eq_true rfl) rfl rfl ?_
        refine e_iload_n 17 30 rfl rfl rfl rfl ?_
        refine e_iconst 18 31 rfl rfl ?_
        refine g_bastore 19 32 rfl rfl (by omega) (Nat.le_of_ble_eq_true rfl) rfl (by omega) (by omega) (by omega) ?_
        refine e_iinc 20 35 (ls' := [some _, some _, some _]) rfl rfl (Nat.le_of_ble_eq_true rfl) rfl rfl ?_
        refine e_goto 21 4 rfl rfl ?_
        rw [zr_s]
        exact hn (w + 1) (by omega) (by omega)
  refine e_entry okX0_endMove (Nat.le_of_ble_eq_true rfl) (ls := [some _, none, none]) rfl ?_
  refine e_iconst 0 1 rfl rfl ?_
  refine e_istore_n 1 2 (ls' := [some _, some _, none]) rfl rfl rfl (Nat.le_of_ble_eq_true rfl) rfl ?_
  refine e_iconst 2 3 rfl rfl ?_
  refine e_istore_n 3 4 (ls' := [some _, some _, some _]) rfl rfl rfl (Nat.le_of_ble_eq_true rfl) rfl ?_
  have h9 := loop 100 0 0 rfl (by omega) (by omega)
  rw [Int.zero_add, Int.natCast_zero, zr_0] at h9
  exact h9
def fmv1 (σ : xSig) (T : Nat → List Int) : xSig := xu (xu (xu σ 234 (σ 233 (σ 231 11)) (σ 234 (σ 233 (σ 231 11)) + cin σ T (σ 231 11))) 233 (σ 231 11) (σ 231 12)) 231 8 (σ 231 8 + 1)
theorem sp_finishMove {σ : xSig} {T : Nat → List Int} (hA : VAll σ T) (h01 : n01 σ 27) (h : CHR σ) (hm : 0 ≤ σ 231 11 ∧ σ 231 11 < σ 231 7) : x_Sp MX0_finishMove 0 0 [.ref 231, .ref 25] (St σ) (iv (cin σ T (σ 231 11))) (St (emv (fmv1 σ T))) := by
  have h1 := h.1
  have h7 := h.2.2.2.2.2.2.1 (σ 231 11)
  have e0 : cown σ (σ 231 11) = σ 233 (σ 231 11) := by unfold cown chas; rw [if_pos (decide_eq_true hm)]
  have ho := sp_ownerOf h (c := σ 231 11) (by unfold xr; omega)
  rw [e0] at ho
  have e1 : (xu σ 234 (σ 233 (σ 231 11)) (σ 234 (σ 233 (σ 231 11)) + cin σ T (σ 231 11))) 231 11 = σ 231 11 := xu_ne _ (Or.inl (by decide))
  have e2 : (xu σ 234 (σ 233 (σ 231 11)) (σ 234 (σ 233 (σ 231 11)) + cin σ T (σ 231 11))) 231 12 = σ 231 12 := xu_ne _ (Or.inl (by decide))
  have e3 : (xu (xu σ 234 (σ 233 (σ 231 11)) (σ 234 (σ 233 (σ 231 11)) + cin σ T (σ 231 11))) 233 (σ 231 11) (σ 231 12)) 231 8 = σ 231 8 := (xu_ne _ (Or.inl (by decide))).trans (xu_ne _ (Or.inl (by decide)))
  have h5 : n01 (fmv1 σ T) 235 := by
    intro i
    unfold fmv1
    rw [xu_ne _ (Or.inl (by decide)), xu_ne _ (Or.inl (by decide)), xu_ne _ (Or.inl (by decide))]
    exact h.2.2.2.2.2.2.2 i
  refine e_entry okX0_finishMove (Nat.le_of_ble_eq_true rfl) (ls := [some _, some _, none, none]) rfl ?_
  refine e_aload_n 0 1 rfl rfl rfl rfl ?_
  refine e_aload_n 1 2 rfl rfl rfl rfl ?_
  refine e_aload_n 2 3 rfl rfl rfl rfl ?_
  refine g_getI 3 6 11 ckX0 flX0_48 rfl rfl (Nat.le_of_ble_eq_true rfl) rfl rfl rfl rfl ?_
  refine g_callV 4 9 (sp_countIn hA h01 h (by unfold xr; omega)) okX0_countIn cvX0_114 ⟨(Nat.le_of_ble_eq_true rfl), (Nat.le_of_ble_eq_true rfl)⟩ rfl rfl (Nat.le_of_ble_eq_true rfl) rfl rfl rfl rfl rfl (Nat.le_of_ble_eq_true rfl) (Nat.le_of_ble_eq_true rfl) (Nat.le_of_ble_eq_true rfl) ?_
  refine e_istore_n 5 10 (ls' := [some _, some _, some _, none]) rfl rfl rfl (Nat.le_of_ble_eq_true rfl) rfl ?_
  refine e_aload_n 6 11 rfl rfl rfl rfl ?_
  refine e_aload_n 7 12 rfl rfl rfl rfl ?_
  refine g_getI 8 15 11 ckX0 flX0_48 rfl rfl (Nat.le_of_ble_eq_true rfl) rfl rfl rfl rfl ?_
  refine g_callV 9 18 (ho) okX0_ownerOf cvX0_93 ⟨(Nat.le_of_ble_eq_true rfl), (Nat.le_of_ble_eq_true rfl)⟩ rfl rfl (Nat.le_of_ble_eq_true rfl) rfl rfl rfl rfl rfl (Nat.le_of_ble_eq_true rfl) (Nat.le_of_ble_eq_true rfl) (Nat.le_of_ble_eq_true rfl) ?_
  refine e_istore_n 10 19 (ls' := [some _, some _, some _, some _]) rfl rfl rfl (Nat.le_of_ble_eq_true rfl) rfl ?_
  refine e_iload_n 11 20 rfl rfl rfl rfl ?_
  refine e_if_lt 12 42 23 rfl rfl rfl (by unfold xr at *; omega) (fun h9 => absurd h9 (by omega)) (fun _ => ?_)
  refine e_iload_n 13 24 rfl rfl rfl rfl ?_
  refine e_aload_n 14 25 rfl rfl rfl rfl ?_
  refine g_getR 15 28 ckX0 flX0_18 rfl rfl (Nat.le_of_ble_eq_true rfl) rfl rfl ?_
  refine g_alen 16 29 rfl rfl (Nat.le_of_ble_eq_true rfl) rfl (Nat.le_of_ble_eq_true rfl) ?_
  refine e_icmp_ge 17 42 32 rfl rfl rfl (by unfold xr at *; omega) (by unfold xr at *; omega) (fun h9 => absurd h9 (by omega)) (fun _ => ?_)
  refine e_aload_n 18 33 rfl rfl rfl rfl ?_
  refine g_getR 19 36 ckX0 flX0_18 rfl rfl (Nat.le_of_ble_eq_true rfl) rfl rfl ?_
  refine e_iload_n 20 37 rfl rfl rfl rfl ?_
  refine e_dup2 21 38 rfl rfl rfl rfl ?_
  refine g_iaload 22 39 rfl rfl (Nat.le_of_ble_eq_true rfl) rfl (by omega) (by omega) (by omega) rfl ?_
  refine e_iload_n 23 40 rfl rfl rfl rfl ?_
  refine e_iadd 24 41 rfl rfl ?_
  refine g_iastore 25 42 rfl rfl (Nat.le_of_ble_eq_true rfl) rfl (by omega) (by omega) (by omega) ?_
  refine e_aload_n 26 43 rfl rfl rfl rfl ?_
  refine g_getI 27 46 11 ckX0 flX0_48 rfl rfl (Nat.le_of_ble_eq_true rfl) rfl rfl rfl e1 ?_
  refine e_if_lt 28 74 49 rfl rfl rfl (by unfold xr at *; omega) (fun h9 => absurd h9 (by omega)) (fun _ => ?_)
  refine e_aload_n 29 50 rfl rfl rfl rfl ?_
  refine g_getI 30 53 11 ckX0 flX0_48 rfl rfl (Nat.le_of_ble_eq_true rfl) rfl rfl rfl e1 ?_
  refine e_aload_n 31 54 rfl rfl rfl rfl ?_
  refine g_getR 32 57 ckX0 flX0_15 rfl rfl (Nat.le_of_ble_eq_true rfl) rfl rfl ?_
  refine g_alen 33 58 rfl rfl (Nat.le_of_ble_eq_true rfl) rfl (Nat.le_of_ble_eq_true rfl) ?_
  refine e_icmp_ge 34 74 61 rfl rfl rfl (by unfold xr at *; omega) (by unfold xr at *; omega) (fun h9 => absurd h9 (by omega)) (fun _ => ?_)
  refine e_aload_n 35 62 rfl rfl rfl rfl ?_
  refine g_getR 36 65 ckX0 flX0_15 rfl rfl (Nat.le_of_ble_eq_true rfl) rfl rfl ?_
  refine e_aload_n 37 66 rfl rfl rfl rfl ?_
  refine g_getI 38 69 11 ckX0 flX0_48 rfl rfl (Nat.le_of_ble_eq_true rfl) rfl rfl rfl e1 ?_
  refine e_aload_n 39 70 rfl rfl rfl rfl ?_
  refine g_getI 40 73 12 ckX0 flX0_51 rfl rfl (Nat.le_of_ble_eq_true rfl) rfl rfl rfl e2 ?_
  refine g_iastore 41 74 rfl rfl (Nat.le_of_ble_eq_true rfl) rfl (by omega) (by omega) (by omega) ?_
  refine e_aload_n 42 75 rfl rfl rfl rfl ?_
  refine e_dup 43 76 rfl rfl rfl ?_
  refine g_getI 44 79 8 ckX0 flX0_38 rfl rfl (Nat.le_of_ble_eq_true rfl) rfl rfl rfl e3 ?_
  refine e_iconst 45 80 rfl rfl ?_
  refine e_iadd 46 81 rfl rfl ?_
  refine g_putI 47 84 8 ckX0 flX0_38 rfl rfl (Nat.le_of_ble_eq_true rfl) rfl rfl rfl ?_
  refine e_aload_n 48 85 rfl rfl rfl rfl ?_
  refine g_callV 49 88 (sp_endMove h5) okX0_endMove cvX0_118 ⟨(Nat.le_of_ble_eq_true rfl), (Nat.le_of_ble_eq_true rfl)⟩ rfl rfl (Nat.le_of_ble_eq_true rfl) rfl rfl rfl rfl rfl (Nat.le_of_ble_eq_true rfl) (Nat.le_of_ble_eq_true rfl) (Nat.le_of_ble_eq_true rfl) ?_
  refine e_pop 50 89 rfl rfl rfl ?_
  refine e_iload_n 51 90 rfl rfl rfl rfl ?_
  exact e_ireturn 52 rfl rfl (Nat.le_of_ble_eq_true rfl) (Nat.le_of_ble_eq_true rfl)
theorem sp_copiesAt {σ : xSig} (h : CHR σ) {s : Int} (hs : 0 ≤ s ∧ s < 3) : Rd MX0_copiesAt [.ref 231, .int (ii s)] σ (iv (if s = σ 231 12 then ncp σ else 0)) := by
  have ht := h.2.2.2.2.1
  by_cases hc : s = σ 231 12
  · rw [if_pos hc]
    have loop : ∀ (n i : Nat) (w : Int), i + n = 100 → 0 ≤ w → w ≤ i → x_E MX0_copiesAt 0 0 4 [some (.ref 231), some (.int (ii s)), some (.int (ii w)), some (.int (ii i))] [] (St σ) 0 0 (iv (w + smN (fun n => if σ 235 n = 1 then 1 else 0) i n)) (St σ) := by
      intro n
      induction n with
      | zero =>
        intro i w hi h0 h2
        simp only [smN, Int.add_zero]
        refine e_iload_n 4 5 rfl rfl rfl rfl ?_
        refine e_aload_n 5 6 rfl rfl rfl rfl ?_
        refine g_getR 6 9 ckX0 flX0_21 rfl rfl (Nat.le_of_ble_eq_true rfl) rfl rfl ?_
        refine g_alen 7 10 rfl rfl (Nat.le_of_ble_eq_true rfl) rfl (Nat.le_of_ble_eq_true rfl) ?_
        refine e_icmp_ge 8 39 13 rfl rfl rfl (by unfold xr at *; omega) (by unfold xr at *; omega) (fun _ => ?_) (fun h9 => absurd h9 (by omega))
        refine e_iload_n 21 40 rfl rfl rfl rfl ?_
        exact e_ireturn 22 rfl rfl (Nat.le_of_ble_eq_true rfl) (Nat.le_of_ble_eq_true rfl)
      | succ n ih =>
        intro i w hi h0 h2
        have hn := fun w' (q0 : 0 ≤ w') (q1 : w' ≤ (i : Int) + 1) => ih (i + 1) w' (by omega) q0 (by omega)
        rw [show (((i + 1 : Nat)) : Int) = (i : Int) + 1 by omega] at hn
        have e2 := h.2.2.2.2.2.2.2 i
        simp only [smN]
        refine e_iload_n 4 5 rfl rfl rfl rfl ?_
        refine e_aload_n 5 6 rfl rfl rfl rfl ?_
        refine g_getR 6 9 ckX0 flX0_21 rfl rfl (Nat.le_of_ble_eq_true rfl) rfl rfl ?_
        refine g_alen 7 10 rfl rfl (Nat.le_of_ble_eq_true rfl) rfl (Nat.le_of_ble_eq_true rfl) ?_
        refine e_icmp_ge 8 39 13 rfl rfl rfl (by unfold xr at *; omega) (by unfold xr at *; omega) (fun h9 => absurd h9 (by omega)) (fun _ => ?_)
        refine e_iload_n 9 14 rfl rfl rfl rfl ?_
        refine e_aload_n 10 15 rfl rfl rfl rfl ?_
        refine g_getI 11 18 12 ckX0 flX0_51 rfl rfl (Nat.le_of_ble_eq_true rfl) rfl rfl rfl rfl ?_
        refine e_icmp_ne 12 39 21 rfl rfl rfl (by unfold xr at *; omega) (by unfold xr at *; omega) (fun h9 => absurd h9 (fun q => q hc)) (fun _ => ?_)
        refine e_aload_n 13 22 rfl rfl rfl rfl ?_
        refine g_getR 14 25 ckX0 flX0_21 rfl rfl (Nat.le_of_ble_eq_true rfl) rfl rfl ?_
        refine e_iload_n 15 26 rfl rfl rfl rfl ?_
        refine g_baload 16 27 rfl rfl (Nat.le_of_ble_eq_true rfl) rfl (by omega) (by omega) (by omega) rfl ?_
        refine e_if_eq 17 33 30 rfl rfl rfl (by unfold xr at *; omega) (fun h3 => ?_) (fun h3 => ?_)
        · skip
          rw [if_neg (by omega), Int.zero_add]
          refine e_iinc 19 36 (ls' := [some _, some _, some _, some _]) rfl rfl (Nat.le_of_ble_eq_true rfl) rfl rfl ?_
          refine e_goto 20 4 rfl rfl ?_
          exact hn w h0 (by omega)
        · skip
          rw [if_pos (by omega), ← Int.add_assoc]
          refine e_iinc 18 33 (ls' := [some _, some _, some _, some _]) rfl rfl (Nat.le_of_ble_eq_true rfl) rfl rfl ?_
          refine e_iinc 19 36 (ls' := [some _, some _, some _, some _]) rfl rfl (Nat.le_of_ble_eq_true rfl) rfl rfl ?_
          refine e_goto 20 4 rfl rfl ?_
          exact hn (w + 1) (by omega) (by omega)
    refine e_entry okX0_copiesAt (Nat.le_of_ble_eq_true rfl) (ls := [some _, some _, none, none]) rfl ?_
    refine e_iconst 0 1 rfl rfl ?_
    refine e_istore_n 1 2 (ls' := [some _, some _, some _, none]) rfl rfl rfl (Nat.le_of_ble_eq_true rfl) rfl ?_
    refine e_iconst 2 3 rfl rfl ?_
    refine e_istore_n 3 4 (ls' := [some _, some _, some _, some _]) rfl rfl rfl (Nat.le_of_ble_eq_true rfl) rfl ?_
    have h9 := loop 100 0 0 rfl (by omega) (by omega)
    rw [Int.zero_add] at h9
    exact h9
  · rw [if_neg hc]
    refine e_entry okX0_copiesAt (Nat.le_of_ble_eq_true rfl) (ls := [some _, some _, none, none]) rfl ?_
    refine e_iconst 0 1 rfl rfl ?_
    refine e_istore_n 1 2 (ls' := [some _, some _, some _, none]) rfl rfl rfl (Nat.le_of_ble_eq_true rfl) rfl ?_
    refine e_iconst 2 3 rfl rfl ?_
    refine e_istore_n 3 4 (ls' := [some _, some _, some _, some _]) rfl rfl rfl (Nat.le_of_ble_eq_true rfl) rfl ?_
    refine e_iload_n 4 5 rfl rfl rfl rfl ?_
    refine e_aload_n 5 6 rfl rfl rfl rfl ?_
    refine g_getR 6 9 ckX0 flX0_21 rfl rfl (Nat.le_of_ble_eq_true rfl) rfl rfl ?_
    refine g_alen 7 10 rfl rfl (Nat.le_of_ble_eq_true rfl) rfl (Nat.le_of_ble_eq_true rfl) ?_
    refine e_icmp_ge 8 39 13 rfl rfl rfl (by unfold xr at *; omega) (by unfold xr at *; omega) (fun h9 => absurd h9 (by omega)) (fun _ => ?_)
    refine e_iload_n 9 14 rfl rfl rfl rfl ?_
    refine e_aload_n 10 15 rfl rfl rfl rfl ?_
    refine g_getI 11 18 12 ckX0 flX0_51 rfl rfl (Nat.le_of_ble_eq_true rfl) rfl rfl rfl rfl ?_
    refine e_icmp_ne 12 39 21 rfl rfl rfl (by unfold xr at *; omega) (by unfold xr at *; omega) (fun _ => ?_) (fun h9 => absurd h9 (fun q => hc q))
    refine e_iload_n 21 40 rfl rfl rfl rfl ?_
    exact e_ireturn 22 rfl rfl (Nat.le_of_ble_eq_true rfl) (Nat.le_of_ble_eq_true rfl)
theorem sp_orphansOf {σ : xSig} {s : Int} (hs : 0 ≤ s ∧ s < 3) : Rd MX0_orphansOf [.ref 231, .int (ii s)] σ (iv (σ 234 s)) := by
  refine e_entry okX0_orphansOf (Nat.le_of_ble_eq_true rfl) (ls := [some _, some _]) rfl ?_
  refine e_iload_n 0 1 rfl rfl rfl rfl ?_
  refine e_if_lt 1 22 4 rfl rfl rfl (by unfold xr at *; omega) (fun h9 => absurd h9 (by omega)) (fun _ => ?_)
  refine e_iload_n 2 5 rfl rfl rfl rfl ?_
  refine e_aload_n 3 6 rfl rfl rfl rfl ?_
  refine g_getR 4 9 ckX0 flX0_18 rfl rfl (Nat.le_of_ble_eq_true rfl) rfl rfl ?_
  refine g_alen 5 10 rfl rfl (Nat.le_of_ble_eq_true rfl) rfl (Nat.le_of_ble_eq_true rfl) ?_
  refine e_icmp_ge 6 22 13 rfl rfl rfl (by unfold xr at *; omega) (by unfold xr at *; omega) (fun h9 => absurd h9 (by omega)) (fun _ => ?_)
  refine e_aload_n 7 14 rfl rfl rfl rfl ?_
  refine g_getR 8 17 ckX0 flX0_18 rfl rfl (Nat.le_of_ble_eq_true rfl) rfl rfl ?_
  refine e_iload_n 9 18 rfl rfl rfl rfl ?_
  refine g_iaload 10 19 rfl rfl (Nat.le_of_ble_eq_true rfl) rfl (by omega) (by omega) (by omega) rfl ?_
  refine e_goto 11 23 rfl rfl ?_
  exact e_ireturn 13 rfl rfl (Nat.le_of_ble_eq_true rfl) (Nat.le_of_ble_eq_true rfl)
theorem sp_takeOrphans {σ : xSig} {s : Int} (hs : 0 ≤ s ∧ s < 3) : x_Sp MX0_takeOrphans 0 0 [.ref 231, .int (ii s)] (St σ) (iv (σ 234 s)) (St (xu σ 234 s 0)) := by
  refine e_entry okX0_takeOrphans (Nat.le_of_ble_eq_true rfl) (ls := [some _, some _, none]) rfl ?_
  refine e_aload_n 0 1 rfl rfl rfl rfl ?_
  refine e_iload_n 1 2 rfl rfl rfl rfl ?_
  refine g_callV 2 5 (sp_orphansOf hs) okX0_orphansOf cvX0_122 ⟨(Nat.le_of_ble_eq_true rfl), (Nat.le_of_ble_eq_true rfl)⟩ rfl rfl (Nat.le_of_ble_eq_true rfl) rfl rfl rfl rfl rfl (Nat.le_of_ble_eq_true rfl) (Nat.le_of_ble_eq_true rfl) (Nat.le_of_ble_eq_true rfl) ?_
  refine e_istore_n 3 6 (ls' := [some _, some _, some _]) rfl rfl rfl (Nat.le_of_ble_eq_true rfl) rfl ?_
  refine e_iload_n 4 7 rfl rfl rfl rfl ?_
  refine e_if_lt 5 26 10 rfl rfl rfl (by unfold xr at *; omega) (fun h9 => absurd h9 (by omega)) (fun _ => ?_)
  refine e_iload_n 6 11 rfl rfl rfl rfl ?_
  refine e_aload_n 7 12 rfl rfl rfl rfl ?_
  refine g_getR 8 15 ckX0 flX0_18 rfl rfl (Nat.le_of_ble_eq_true rfl) rfl rfl ?_
  refine g_alen 9 16 rfl rfl (Nat.le_of_ble_eq_true rfl) rfl (Nat.le_of_ble_eq_true rfl) ?_
  refine e_icmp_ge 10 26 19 rfl rfl rfl (by unfold xr at *; omega) (by unfold xr at *; omega) (fun h9 => absurd h9 (by omega)) (fun _ => ?_)
  refine e_aload_n 11 20 rfl rfl rfl rfl ?_
  refine g_getR 12 23 ckX0 flX0_18 rfl rfl (Nat.le_of_ble_eq_true rfl) rfl rfl ?_
  refine e_iload_n 13 24 rfl rfl rfl rfl ?_
  refine e_iconst 14 25 rfl rfl ?_
  refine g_iastore 15 26 rfl rfl (Nat.le_of_ble_eq_true rfl) rfl (by omega) (by omega) (by omega) ?_
  refine e_iload_n 16 27 rfl rfl rfl rfl ?_
  exact e_ireturn 17 rfl rfl (Nat.le_of_ble_eq_true rfl) (Nat.le_of_ble_eq_true rfl)
def uro (σ : xSig) (r : Int) : xSig := if σ 236 r = σ 231 8 then σ else xu (xu σ 236 r (σ 231 8)) 237 r (σ 237 r + 1)
theorem sp_useRouter {σ : xSig} {r : Int} (hr : 0 ≤ r ∧ r < 2) (hv : xr (σ 231 8)) (hw : xr (σ 236 r)) : x_Sp MX0_useRouter 0 0 [.ref 231, .int (ii r)] (St σ) vv (St (uro σ r)) := by
  have e1 : xu σ 236 r (σ 231 8) 237 r = σ 237 r := xu_ne _ (Or.inl (by decide))
  unfold uro
  refine e_entry okX0_useRouter (Nat.le_of_ble_eq_true rfl) (ls := [some _, some _]) rfl ?_
  refine e_iload_n 0 1 rfl rfl rfl rfl ?_
  refine e_if_lt 1 22 4 rfl rfl rfl (by unfold xr at *; omega) (fun h9 => absurd h9 (by omega)) (fun _ => ?_)
  refine e_iload_n 2 5 rfl rfl rfl rfl ?_
  refine e_iconst 3 6 rfl rfl ?_
  refine e_icmp_ge 4 22 9 rfl rfl rfl (by unfold xr at *; omega) (by unfold xr at *; omega) (fun h9 => absurd h9 (by omega)) (fun _ => ?_)
  refine e_aload_n 5 10 rfl rfl rfl rfl ?_
  refine g_getR 6 13 ckX0 flX0_25 rfl rfl (Nat.le_of_ble_eq_true rfl) rfl rfl ?_
  refine e_iload_n 7 14 rfl rfl rfl rfl ?_
  refine g_iaload 8 15 rfl rfl (Nat.le_of_ble_eq_true rfl) rfl (by omega) (by omega) (by omega) rfl ?_
  refine e_aload_n 9 16 rfl rfl rfl rfl ?_
  refine g_getI 10 19 8 ckX0 flX0_38 rfl rfl (Nat.le_of_ble_eq_true rfl) rfl rfl rfl rfl ?_
  refine e_icmp_ne 11 23 22 rfl rfl rfl hw hv (fun h => ?_) (fun h => ?_)
  · skip
    rw [if_neg h]
    refine e_aload_n 13 24 rfl rfl rfl rfl ?_
    refine g_getR 14 27 ckX0 flX0_25 rfl rfl (Nat.le_of_ble_eq_true rfl) rfl rfl ?_
    refine e_iload_n 15 28 rfl rfl rfl rfl ?_
    refine e_aload_n 16 29 rfl rfl rfl rfl ?_
    refine g_getI 17 32 8 ckX0 flX0_38 rfl rfl (Nat.le_of_ble_eq_true rfl) rfl rfl rfl rfl ?_
    refine g_iastore 18 33 rfl rfl (Nat.le_of_ble_eq_true rfl) rfl (by omega) (by omega) (by omega) ?_
    refine e_aload_n 19 34 rfl rfl rfl rfl ?_
    refine g_getR 20 37 ckX0 flX0_28 rfl rfl (Nat.le_of_ble_eq_true rfl) rfl rfl ?_
    refine e_iload_n 21 38 rfl rfl rfl rfl ?_
    refine e_dup2 22 39 rfl rfl rfl rfl ?_
    refine g_iaload 23 40 rfl rfl (Nat.le_of_ble_eq_true rfl) rfl (by omega) (by omega) (by omega) e1 ?_
    refine e_iconst 24 41 rfl rfl ?_
    refine e_iadd 25 42 rfl rfl ?_
    refine g_iastore 26 43 rfl rfl (Nat.le_of_ble_eq_true rfl) rfl (by omega) (by omega) (by omega) ?_
    exact e_return 27 rfl rfl (Nat.le_of_ble_eq_true rfl) (Nat.le_of_ble_eq_true rfl)
  · skip
    rw [if_pos h]
    exact e_return 12 rfl rfl (Nat.le_of_ble_eq_true rfl) (Nat.le_of_ble_eq_true rfl)
theorem sp_routerVersion {σ : xSig} {r : Int} (hr : 0 ≤ r ∧ r < 2) : Rd MX0_routerVersion [.ref 231, .int (ii r)] σ (iv (σ 236 r)) := by
  refine e_entry okX0_routerVersion (Nat.le_of_ble_eq_true rfl) (ls := [some _, some _]) rfl ?_
  refine e_iload_n 0 1 rfl rfl rfl rfl ?_
  refine e_if_lt 1 18 4 rfl rfl rfl (by unfold xr at *; omega) (fun h9 => absurd h9 (by omega)) (fun _ => ?_)
  refine e_iload_n 2 5 rfl rfl rfl rfl ?_
  refine e_iconst 3 6 rfl rfl ?_
  refine e_icmp_ge 4 18 9 rfl rfl rfl (by unfold xr at *; omega) (by unfold xr at *; omega) (fun h9 => absurd h9 (by omega)) (fun _ => ?_)
  refine e_aload_n 5 10 rfl rfl rfl rfl ?_
  refine g_getR 6 13 ckX0 flX0_25 rfl rfl (Nat.le_of_ble_eq_true rfl) rfl rfl ?_
  refine e_iload_n 7 14 rfl rfl rfl rfl ?_
  refine g_iaload 8 15 rfl rfl (Nat.le_of_ble_eq_true rfl) rfl (by omega) (by omega) (by omega) rfl ?_
  refine e_goto 9 19 rfl rfl ?_
  exact e_ireturn 11 rfl rfl (Nat.le_of_ble_eq_true rfl) (Nat.le_of_ble_eq_true rfl)
theorem sp_routerStale {σ : xSig} {r : Int} (hr : 0 ≤ r ∧ r < 2) : Rd MX0_routerStale [.ref 231, .int (ii r)] σ (iv (σ 237 r)) := by
  refine e_entry okX0_routerStale (Nat.le_of_ble_eq_true rfl) (ls := [some _, some _]) rfl ?_
  refine e_iload_n 0 1 rfl rfl rfl rfl ?_
  refine e_if_lt 1 18 4 rfl rfl rfl (by unfold xr at *; omega) (fun h9 => absurd h9 (by omega)) (fun _ => ?_)
  refine e_iload_n 2 5 rfl rfl rfl rfl ?_
  refine e_iconst 3 6 rfl rfl ?_
  refine e_icmp_ge 4 18 9 rfl rfl rfl (by unfold xr at *; omega) (by unfold xr at *; omega) (fun h9 => absurd h9 (by omega)) (fun _ => ?_)
  refine e_aload_n 5 10 rfl rfl rfl rfl ?_
  refine g_getR 6 13 ckX0 flX0_28 rfl rfl (Nat.le_of_ble_eq_true rfl) rfl rfl ?_
  refine e_iload_n 7 14 rfl rfl rfl rfl ?_
  refine g_iaload 8 15 rfl rfl (Nat.le_of_ble_eq_true rfl) rfl (by omega) (by omega) (by omega) rfl ?_
  refine e_goto 9 19 rfl rfl ?_
  exact e_ireturn 11 rfl rfl (Nat.le_of_ble_eq_true rfl) (Nat.le_of_ble_eq_true rfl)
theorem sp_beginMove {σ : xSig} {c s : Int} : x_Sp MX0_beginMove 0 0 [.ref 231, .int (ii c), .int (ii s)] (St σ) vv (St (xu (xu σ 231 11 c) 231 12 s)) := by
  refine e_entry okX0_beginMove (Nat.le_of_ble_eq_true rfl) (ls := [some _, some _, some _]) rfl ?_
  refine e_aload_n 0 1 rfl rfl rfl rfl ?_
  refine e_iload_n 1 2 rfl rfl rfl rfl ?_
  refine g_putI 2 5 11 ckX0 flX0_48 rfl rfl (Nat.le_of_ble_eq_true rfl) rfl rfl rfl ?_
  refine e_aload_n 3 6 rfl rfl rfl rfl ?_
  refine e_iload_n 4 7 rfl rfl rfl rfl ?_
  refine g_putI 5 10 12 ckX0 flX0_51 rfl rfl (Nat.le_of_ble_eq_true rfl) rfl rfl rfl ?_
  exact e_return 6 rfl rfl (Nat.le_of_ble_eq_true rfl) (Nat.le_of_ble_eq_true rfl)
def bgc (σ : xSig) : xSig := xu (xu (xu (xu (xu (xu (xu (xu (xu (xu σ 232 0 0) 233 0 0) 234 0 0) 232 1 334) 233 1 1) 234 1 0) 232 2 667) 233 2 2) 234 2 0) 231 7 3
theorem sp_beginChunks {σ : xSig} : x_Sp MX0_beginChunks 0 0 [.ref 231] (St σ) vv (St (bgc σ)) := by
  unfold bgc
  refine e_entry okX0_beginChunks (Nat.le_of_ble_eq_true rfl) (ls := [some _, none]) rfl ?_
  refine e_iconst 0 1 rfl rfl ?_
  refine e_istore_n 1 2 (ls' := [some _, some _]) rfl rfl rfl (Nat.le_of_ble_eq_true rfl) rfl ?_
  refine e_iload_n 2 3 rfl rfl rfl rfl ?_
  refine e_iconst 3 4 rfl rfl ?_
  refine e_icmp_ge 4 48 7 rfl rfl rfl (by unfold xr at *; omega) (by unfold xr at *; omega) (fun h9 => absurd h9 (by omega)) (fun _ => ?_)
  refine e_aload_n 5 8 rfl rfl rfl rfl ?_
  refine g_getR 6 11 ckX0 flX0_9 rfl rfl (Nat.le_of_ble_eq_true rfl) rfl rfl ?_
  refine e_iload_n 7 12 rfl rfl rfl rfl ?_
  refine e_iload_n 8 13 rfl rfl rfl rfl ?_
  refine e_if_ne 9 20 16 rfl rfl rfl (by unfold xr at *; omega) (fun h9 => absurd h9 (by omega)) (fun _ => ?_)
  refine e_iconst 10 17 rfl rfl ?_
  refine e_goto 11 27 rfl rfl ?_
  refine g_iastore 17 28 rfl rfl (Nat.le_of_ble_eq_true rfl) rfl (by omega) (by omega) (by omega) ?_
  refine e_aload_n 18 29 rfl rfl rfl rfl ?_
  refine g_getR 19 32 ckX0 flX0_15 rfl rfl (Nat.le_of_ble_eq_true rfl) rfl rfl ?_
  refine e_iload_n 20 33 rfl rfl rfl rfl ?_
  refine e_iload_n 21 34 rfl rfl rfl rfl ?_
  refine g_iastore 22 35 rfl rfl (Nat.le_of_ble_eq_true rfl) rfl (by omega) (by omega) (by omega) ?_
  refine e_aload_n 23 36 rfl rfl rfl rfl ?_
  refine g_getR 24 39 ckX0 flX0_18 rfl rfl (Nat.le_of_ble_eq_true rfl) rfl rfl ?_
  refine e_iload_n 25 40 rfl rfl rfl rfl ?_
  refine e_iconst 26 41 rfl rfl ?_
  refine g_iastore 27 42 rfl rfl (Nat.le_of_ble_eq_true rfl) rfl (by omega) (by omega) (by omega) ?_
  refine e_iinc 28 45 (ls' := [some _, some _]) rfl rfl (Nat.le_of_ble_eq_true rfl) rfl rfl ?_
  refine e_goto 29 2 rfl rfl ?_
  refine e_iload_n 2 3 rfl rfl rfl rfl ?_
  refine e_iconst 3 4 rfl rfl ?_
  refine e_icmp_ge 4 48 7 rfl rfl rfl (by unfold xr at *; omega) (by unfold xr at *; omega) (fun h9 => absurd h9 (by omega)) (fun _ => ?_)
  refine e_aload_n 5 8 rfl rfl rfl rfl ?_
  refine g_getR 6 11 ckX0 flX0_9 rfl rfl (Nat.le_of_ble_eq_true rfl) rfl rfl ?_
  refine e_iload_n 7 12 rfl rfl rfl rfl ?_
  refine e_iload_n 8 13 rfl rfl rfl rfl ?_
  refine e_if_ne 9 20 16 rfl rfl rfl (by unfold xr at *; omega) (fun _ => ?_) (fun h9 => absurd h9 (by omega))
  refine e_sipush 12 23 rfl rfl rfl ?_
  refine e_iload_n 13 24 rfl rfl rfl rfl ?_
  refine e_imul 14 25 rfl rfl ?_
  refine e_iconst 15 26 rfl rfl ?_
  refine e_iadd 16 27 rfl rfl ?_
  refine g_iastore 17 28 rfl rfl (Nat.le_of_ble_eq_true rfl) rfl (by omega) (by omega) (by omega) ?_
  refine e_aload_n 18 29 rfl rfl rfl rfl ?_
  refine g_getR 19 32 ckX0 flX0_15 rfl rfl (Nat.le_of_ble_eq_true rfl) rfl rfl ?_
  refine e_iload_n 20 33 rfl rfl rfl rfl ?_
  refine e_iload_n 21 34 rfl rfl rfl rfl ?_
  refine g_iastore 22 35 rfl rfl (Nat.le_of_ble_eq_true rfl) rfl (by omega) (by omega) (by omega) ?_
  refine e_aload_n 23 36 rfl rfl rfl rfl ?_
  refine g_getR 24 39 ckX0 flX0_18 rfl rfl (Nat.le_of_ble_eq_true rfl) rfl rfl ?_
  refine e_iload_n 25 40 rfl rfl rfl rfl ?_
  refine e_iconst 26 41 rfl rfl ?_
  refine g_iastore 27 42 rfl rfl (Nat.le_of_ble_eq_true rfl) rfl (by omega) (by omega) (by omega) ?_
  refine e_iinc 28 45 (ls' := [some _, some _]) rfl rfl (Nat.le_of_ble_eq_true rfl) rfl rfl ?_
  refine e_goto 29 2 rfl rfl ?_
  refine e_iload_n 2 3 rfl rfl rfl rfl ?_
  refine e_iconst 3 4 rfl rfl ?_
  refine e_icmp_ge 4 48 7 rfl rfl rfl (by unfold xr at *; omega) (by unfold xr at *; omega) (fun h9 => absurd h9 (by omega)) (fun _ => ?_)
  refine e_aload_n 5 8 rfl rfl rfl rfl ?_
  refine g_getR 6 11 ckX0 flX0_9 rfl rfl (Nat.le_of_ble_eq_true rfl) rfl rfl ?_
  refine e_iload_n 7 12 rfl rfl rfl rfl ?_
  refine e_iload_n 8 13 rfl rfl rfl rfl ?_
  refine e_if_ne 9 20 16 rfl rfl rfl (by unfold xr at *; omega) (fun _ => ?_) (fun h9 => absurd h9 (by omega))
  refine e_sipush 12 23 rfl rfl rfl ?_
  refine e_iload_n 13 24 rfl rfl rfl rfl ?_
  refine e_imul 14 25 rfl rfl ?_
  refine e_iconst 15 26 rfl rfl ?_
  refine e_iadd 16 27 rfl rfl ?_
  refine g_iastore 17 28 rfl rfl (Nat.le_of_ble_eq_true rfl) rfl (by omega) (by omega) (by omega) ?_
  refine e_aload_n 18 29 rfl rfl rfl rfl ?_
  refine g_getR 19 32 ckX0 flX0_15 rfl rfl (Nat.le_of_ble_eq_true rfl) rfl rfl ?_
  refine e_iload_n 20 33 rfl rfl rfl rfl ?_
  refine e_iload_n 21 34 rfl rfl rfl rfl ?_
  refine g_iastore 22 35 rfl rfl (Nat.le_of_ble_eq_true rfl) rfl (by omega) (by omega) (by omega) ?_
  refine e_aload_n 23 36 rfl rfl rfl rfl ?_
  refine g_getR 24 39 ckX0 flX0_18 rfl rfl (Nat.le_of_ble_eq_true rfl) rfl rfl ?_
  refine e_iload_n 25 40 rfl rfl rfl rfl ?_
  refine e_iconst 26 41 rfl rfl ?_
  refine g_iastore 27 42 rfl rfl (Nat.le_of_ble_eq_true rfl) rfl (by omega) (by omega) (by omega) ?_
  refine e_iinc 28 45 (ls' := [some _, some _]) rfl rfl (Nat.le_of_ble_eq_true rfl) rfl rfl ?_
  refine e_goto 29 2 rfl rfl ?_
  refine e_iload_n 2 3 rfl rfl rfl rfl ?_
  refine e_iconst 3 4 rfl rfl ?_
  refine e_icmp_ge 4 48 7 rfl rfl rfl (by unfold xr at *; omega) (by unfold xr at *; omega) (fun _ => ?_) (fun h9 => absurd h9 (by omega))
  refine e_aload_n 30 49 rfl rfl rfl rfl ?_
  refine e_iconst 31 50 rfl rfl ?_
  refine g_putI 32 53 7 ckX0 flX0_34 rfl rfl (Nat.le_of_ble_eq_true rfl) rfl rfl rfl ?_
  exact e_return 33 rfl rfl (Nat.le_of_ble_eq_true rfl) (Nat.le_of_ble_eq_true rfl)
/-- a chunk is cut: the chunks behind it go one place up -/
def cshf (σ : xSig) (i : Int) : xSig := fun b j => if (b = 232 ∨ b = 233) ∧ i < j ∧ j ≤ σ 231 7 then σ b (j - 1) else σ b j
def cutd (σ : xSig) (c at9 : Int) : xSig := fun b j =>
  if b = 232 then (if j = c + 1 then at9 else if c + 1 < j ∧ j ≤ σ 231 7 then σ 232 (j - 1) else σ 232 j)
  else if b = 233 then (if j = c + 1 then σ 233 c else if c + 1 < j ∧ j ≤ σ 231 7 then σ 233 (j - 1) else σ 233 j)
  else if b = 231 then (if j = 7 then σ 231 7 + 1 else if j = 8 then σ 231 8 + 1 else if j = 11 ∧ c < σ 231 11 then σ 231 11 + 1 else σ 231 j)
  else σ b j
theorem cshf_step (σ : xSig) (i : Int) (hi : i ≤ σ 231 7) : xu (xu (cshf σ i) 232 i (σ 232 (i - 1))) 233 i (σ 233 (i - 1)) = cshf σ (i - 1) := by
  funext b j
  unfold xu cshf
  by_cases h3 : b = 233 ∧ j = i
  · rw [if_pos h3, if_pos ⟨Or.inr h3.1, by omega, by omega⟩, h3.1, h3.2]
  · rw [if_neg h3]
    by_cases h2 : b = 232 ∧ j = i
    · rw [if_pos h2, if_pos ⟨Or.inl h2.1, by omega, by omega⟩, h2.1, h2.2]
    · rw [if_neg h2]
      by_cases h : (b = 232 ∨ b = 233) ∧ i < j ∧ j ≤ σ 231 7
      · rw [if_pos h, if_pos ⟨h.1, by omega, by omega⟩]
      · rw [if_neg h, if_neg (fun q => by
          rcases q.1 with e | e
          · exact h ⟨Or.inl e, by have : j ≠ i := fun e2 => h2 ⟨e, e2⟩; omega, q.2.2⟩
          · exact h ⟨Or.inr e, by have : j ≠ i := fun e2 => h3 ⟨e, e2⟩; omega, q.2.2⟩)]
theorem sp_cut {σ : xSig} (h : CHR σ) {c at9 : Int} (hc : 0 ≤ c ∧ c < σ 231 7) (hn : σ 231 7 < 12) : x_Sp MX0_cut 0 0 [.ref 231, .int (ii c), .int (ii at9)] (St σ) vv (St (cutd σ c at9)) := by
  have h1 := h.1
  have hm := h.2.2.2.1
  have hh := sp_chHas h (c := c) (by unfold xr; omega)
  rw [show chas σ c = true from decide_eq_true hc] at hh
  have fin : x_E MX0_cut 0 0 71 [some (.ref 231), some (.int (ii c)), some (.int (ii at9)), some (.int (ii (c + 1)))] [] (St (cshf σ (c + 1))) 0 0 vv (St (cutd σ c at9)) := by
    have a1 : cshf σ (c + 1) 231 = σ 231 := by funext j; unfold cshf; rw [if_neg (fun q => by rcases q.1 with e | e <;> exact absurd e (by decide))]
    have b1 : xu (cshf σ (c + 1)) 232 (c + 1) at9 233 c = σ 233 c := by rw [xu_ne _ (Or.inl (by decide))]; unfold cshf; rw [if_neg (fun q => by omega)]
    have b2 : xu (xu (cshf σ (c + 1)) 232 (c + 1) at9) 233 (c + 1) (σ 233 c) 231 7 = σ 231 7 := by rw [xu_ne _ (Or.inl (by decide)), xu_ne _ (Or.inl (by decide)), a1]
    have b3 : xu (xu (xu (cshf σ (c + 1)) 232 (c + 1) at9) 233 (c + 1) (σ 233 c)) 231 7 (σ 231 7 + 1) 231 8 = σ 231 8 := by rw [xu_ne _ (Or.inr (by decide)), xu_ne _ (Or.inl (by decide)), xu_ne _ (Or.inl (by decide)), a1]
    have b4 : xu (xu (xu (xu (cshf σ (c + 1)) 232 (c + 1) at9) 233 (c + 1) (σ 233 c)) 231 7 (σ 231 7 + 1)) 231 8 (σ 231 8 + 1) 231 11 = σ 231 11 := by rw [xu_ne _ (Or.inr (by decide)), xu_ne _ (Or.inr (by decide)), xu_ne _ (Or.inl (by decide)), xu_ne _ (Or.inl (by decide)), a1]
    have fun1 : ∀ (m : xSig), (m = if c < σ 231 11 then xu (xu (xu (xu (xu (cshf σ (c + 1)) 232 (c + 1) at9) 233 (c + 1) (σ 233 c)) 231 7 (σ 231 7 + 1)) 231 8 (σ 231 8 + 1)) 231 11 (σ 231 11 + 1) else xu (xu (xu (xu (cshf σ (c + 1)) 232 (c + 1) at9) 233 (c + 1) (σ 233 c)) 231 7 (σ 231 7 + 1)) 231 8 (σ 231 8 + 1)) → m = cutd σ c at9 := by
      intro m hm9
      rw [hm9]
      funext b j
      by_cases e2 : b = 232
      · subst e2
        have r : cutd σ c at9 232 j = (if j = c + 1 then at9 else if c + 1 < j ∧ j ≤ σ 231 7 then σ 232 (j - 1) else σ 232 j) := by unfold cutd; rw [if_pos rfl]
        have q : ∀ m' : xSig, m' 232 j = xu (cshf σ (c + 1)) 232 (c + 1) at9 232 j → m' 232 j = cutd σ c at9 232 j := by
          intro m' hm'
          rw [hm', r]
          by_cases e : j = c + 1
          · subst e
            rw [xu_same, if_pos rfl]
          · rw [xu_ne _ (Or.inr e), if_neg e]
            unfold cshf
            by_cases e3 : c + 1 < j ∧ j ≤ σ 231 7
            · rw [if_pos ⟨Or.inl rfl, e3⟩, if_pos e3]
            · rw [if_neg (fun q => e3 q.2), if_neg e3]
        apply q
        by_cases hq : c < σ 231 11
        · rw [if_pos hq, xu_ne _ (Or.inl (by decide)), xu_ne _ (Or.inl (by decide)), xu_ne _ (Or.inl (by decide)), xu_ne _ (Or.inl (by decide))]
        · rw [if_neg hq, xu_ne _ (Or.inl (by decide)), xu_ne _ (Or.inl (by decide)), xu_ne _ (Or.inl (by decide))]
      · by_cases e3 : b = 233
        · subst e3
          have r : cutd σ c at9 233 j = (if j = c + 1 then σ 233 c else if c + 1 < j ∧ j ≤ σ 231 7 then σ 233 (j - 1) else σ 233 j) := by unfold cutd; rw [if_neg (by decide), if_pos rfl]
          have q : ∀ m' : xSig, m' 233 j = xu (xu (cshf σ (c + 1)) 232 (c + 1) at9) 233 (c + 1) (σ 233 c) 233 j → m' 233 j = cutd σ c at9 233 j := by
            intro m' hm'
            rw [hm', r]
            by_cases e : j = c + 1
            · subst e
              rw [xu_same, if_pos rfl]
            · rw [xu_ne _ (Or.inr e), if_neg e, xu_ne _ (Or.inl (by decide))]
              unfold cshf
              by_cases e3 : c + 1 < j ∧ j ≤ σ 231 7
              · rw [if_pos ⟨Or.inr rfl, e3⟩, if_pos e3]
              · rw [if_neg (fun q => e3 q.2), if_neg e3]
          apply q
          by_cases hq : c < σ 231 11
          · rw [if_pos hq, xu_ne _ (Or.inl (by decide)), xu_ne _ (Or.inl (by decide)), xu_ne _ (Or.inl (by decide))]
          · rw [if_neg hq, xu_ne _ (Or.inl (by decide)), xu_ne _ (Or.inl (by decide))]
        · by_cases e1 : b = 231
          · subst e1
            have r : cutd σ c at9 231 j = (if j = 7 then σ 231 7 + 1 else if j = 8 then σ 231 8 + 1 else if j = 11 ∧ c < σ 231 11 then σ 231 11 + 1 else σ 231 j) := by unfold cutd; rw [if_neg (by decide), if_neg (by decide), if_pos rfl]
            rw [r]
            by_cases j11 : j = 11
            · subst j11
              by_cases hq : c < σ 231 11
              · rw [if_pos hq, if_neg (by decide), if_neg (by decide), if_pos ⟨rfl, hq⟩, xu_same]
              · rw [if_neg hq, if_neg (by decide), if_neg (by decide), if_neg (fun q => hq q.2), b4]
            · have hk : (if c < σ 231 11 then xu (xu (xu (xu (xu (cshf σ (c + 1)) 232 (c + 1) at9) 233 (c + 1) (σ 233 c)) 231 7 (σ 231 7 + 1)) 231 8 (σ 231 8 + 1)) 231 11 (σ 231 11 + 1) else xu (xu (xu (xu (cshf σ (c + 1)) 232 (c + 1) at9) 233 (c + 1) (σ 233 c)) 231 7 (σ 231 7 + 1)) 231 8 (σ 231 8 + 1)) 231 j = xu (xu (xu (xu (cshf σ (c + 1)) 232 (c + 1) at9) 233 (c + 1) (σ 233 c)) 231 7 (σ 231 7 + 1)) 231 8 (σ 231 8 + 1) 231 j := by
                by_cases hq : c < σ 231 11
                · rw [if_pos hq, xu_ne _ (Or.inr j11)]
                · rw [if_neg hq]
              rw [hk]
              by_cases j8 : j = 8
              · subst j8
                rw [xu_same, if_neg (by decide), if_pos rfl]
              · rw [xu_ne _ (Or.inr j8)]
                by_cases j7 : j = 7
                · subst j7
                  rw [xu_same, if_pos rfl]
                · rw [xu_ne _ (Or.inr j7), xu_ne _ (Or.inl (by decide)), xu_ne _ (Or.inl (by decide)), a1, if_neg j7, if_neg j8, if_neg (fun q => j11 q.1)]
          · have e9 : cshf σ (c + 1) b j = σ b j := by
              unfold cshf
              rw [if_neg (fun q => by rcases q.1 with e | e; exact e2 e; exact e3 e)]
            have r : cutd σ c at9 b j = σ b j := by unfold cutd; rw [if_neg e2, if_neg e3, if_neg e1]
            rw [r]
            by_cases hq : c < σ 231 11
            · rw [if_pos hq, xu_ne _ (Or.inl e1), xu_ne _ (Or.inl e1), xu_ne _ (Or.inl e1), xu_ne _ (Or.inl e3), xu_ne _ (Or.inl e2), e9]
            · rw [if_neg hq, xu_ne _ (Or.inl e1), xu_ne _ (Or.inl e1), xu_ne _ (Or.inl e3), xu_ne _ (Or.inl e2), e9]
    refine e_aload_n 42 72 rfl rfl rfl rfl ?_
    refine g_getR 43 75 ckX0 flX0_9 rfl rfl (Nat.le_of_ble_eq_true rfl) rfl rfl ?_
    refine e_iload_n 44 76 rfl rfl rfl rfl ?_
    refine e_iconst 45 77 rfl rfl ?_
    refine e_iadd 46 78 rfl rfl ?_
    refine e_iload_n 47 79 rfl rfl rfl rfl ?_
    refine g_iastore 48 80 rfl rfl (Nat.le_of_ble_eq_true rfl) rfl (by omega) (by omega) (by omega) ?_
    refine e_aload_n 49 81 rfl rfl rfl rfl ?_
    refine g_getR 50 84 ckX0 flX0_15 rfl rfl (Nat.le_of_ble_eq_true rfl) rfl rfl ?_
    refine e_iload_n 51 85 rfl rfl rfl rfl ?_
    refine e_iconst 52 86 rfl rfl ?_
    refine e_iadd 53 87 rfl rfl ?_
    refine e_aload_n 54 88 rfl rfl rfl rfl ?_
    refine g_getR 55 91 ckX0 flX0_15 rfl rfl (Nat.le_of_ble_eq_true rfl) rfl rfl ?_
    refine e_iload_n 56 92 rfl rfl rfl rfl ?_
    refine g_iaload 57 93 rfl rfl (Nat.le_of_ble_eq_true rfl) rfl (by omega) (by omega) (by omega) b1 ?_
    refine g_iastore 58 94 rfl rfl (Nat.le_of_ble_eq_true rfl) rfl (by omega) (by omega) (by omega) ?_
    refine e_aload_n 59 95 rfl rfl rfl rfl ?_
    refine e_dup 60 96 rfl rfl rfl ?_
    refine g_getI 61 99 7 ckX0 flX0_34 rfl rfl (Nat.le_of_ble_eq_true rfl) rfl rfl rfl b2 ?_
    refine e_iconst 62 100 rfl rfl ?_
    refine e_iadd 63 101 rfl rfl ?_
    refine g_putI 64 104 7 ckX0 flX0_34 rfl rfl (Nat.le_of_ble_eq_true rfl) rfl rfl rfl ?_
    refine e_aload_n 65 105 rfl rfl rfl rfl ?_
    refine e_dup 66 106 rfl rfl rfl ?_
    refine g_getI 67 109 8 ckX0 flX0_38 rfl rfl (Nat.le_of_ble_eq_true rfl) rfl rfl rfl b3 ?_
    refine e_iconst 68 110 rfl rfl ?_
    refine e_iadd 69 111 rfl rfl ?_
    refine g_putI 70 114 8 ckX0 flX0_38 rfl rfl (Nat.le_of_ble_eq_true rfl) rfl rfl rfl ?_
    refine e_aload_n 71 115 rfl rfl rfl rfl ?_
    refine g_getI 72 118 11 ckX0 flX0_48 rfl rfl (Nat.le_of_ble_eq_true rfl) rfl rfl rfl b4 ?_
    refine e_iload_n 73 119 rfl rfl rfl rfl ?_
    refine e_icmp_le 74 132 122 rfl rfl rfl (by unfold xr at *; omega) (by unfold xr at *; omega) (fun hq => ?_) (fun hq => ?_)
    · skip
      have := fun1 _ (if_neg (by omega)).symm
      rw [← this]
      exact e_return 81 rfl rfl (Nat.le_of_ble_eq_true rfl) (Nat.le_of_ble_eq_true rfl)
    · skip
      have := fun1 _ (if_pos hq).symm
      rw [← this]
      refine e_aload_n 75 123 rfl rfl rfl rfl ?_
      refine e_dup 76 124 rfl rfl rfl ?_
      refine g_getI 77 127 11 ckX0 flX0_48 rfl rfl (Nat.le_of_ble_eq_true rfl) rfl rfl rfl b4 ?_
      refine e_iconst 78 128 rfl rfl ?_
      refine e_iadd 79 129 rfl rfl ?_
      refine g_putI 80 132 11 ckX0 flX0_48 rfl rfl (Nat.le_of_ble_eq_true rfl) rfl rfl rfl ?_
      exact e_return 81 rfl rfl (Nat.le_of_ble_eq_true rfl) (Nat.le_of_ble_eq_true rfl)
  have loop : ∀ (n : Nat) (i : Int), i = c + 1 + n → i ≤ σ 231 7 → x_E MX0_cut 0 0 30 [some (.ref 231), some (.int (ii c)), some (.int (ii at9)), some (.int (ii i))] [] (St (cshf σ i)) 0 0 vv (St (cutd σ c at9)) := by
    intro n
    induction n with
    | zero =>
      intro i hi h2
      have e : i = c + 1 := by omega
      subst e
      refine e_iload_n 15 31 rfl rfl rfl rfl ?_
      refine e_iload_n 16 32 rfl rfl rfl rfl ?_
      refine e_iconst 17 33 rfl rfl ?_
      refine e_iadd 18 34 rfl rfl ?_
      refine e_icmp_le 19 71 37 rfl rfl rfl (by unfold xr at *; omega) (by unfold xr at *; omega) (fun _ => ?_) (fun h9 => absurd h9 (by omega))
      exact fin
    | succ n ih =>
      intro i hi h2
      have hn2 := ih (i - 1) (by omega) (by omega)
      have e1 : cshf σ i 232 (i - 1) = σ 232 (i - 1) := by unfold cshf; rw [if_neg (fun q => by omega)]
      have e2 : xu (cshf σ i) 232 i (σ 232 (i - 1)) 233 (i - 1) = σ 233 (i - 1) := by rw [xu_ne _ (Or.inl (by decide))]; unfold cshf; rw [if_neg (fun q => by omega)]
      refine e_iload_n 15 31 rfl rfl rfl rfl ?_
      refine e_iload_n 16 32 rfl rfl rfl rfl ?_
      refine e_iconst 17 33 rfl rfl ?_
      refine e_iadd 18 34 rfl rfl ?_
      refine e_icmp_le 19 71 37 rfl rfl rfl (by unfold xr at *; omega) (by unfold xr at *; omega) (fun h9 => absurd h9 (by omega)) (fun _ => ?_)
      refine e_aload_n 20 38 rfl rfl rfl rfl ?_
      refine g_getR 21 41 ckX0 flX0_9 rfl rfl (Nat.le_of_ble_eq_true rfl) rfl rfl ?_
      refine e_iload_n 22 42 rfl rfl rfl rfl ?_
      refine e_aload_n 23 43 rfl rfl rfl rfl ?_
      refine g_getR 24 46 ckX0 flX0_9 rfl rfl (Nat.le_of_ble_eq_true rfl) rfl rfl ?_
      refine e_iload_n 25 47 rfl rfl rfl rfl ?_
      refine e_iconst 26 48 rfl rfl ?_
      refine e_isub 27 49 rfl rfl ?_
      refine g_iaload 28 50 rfl rfl (Nat.le_of_ble_eq_true rfl) rfl (by omega) (by omega) (by omega) e1 ?_
      refine g_iastore 29 51 rfl rfl (Nat.le_of_ble_eq_true rfl) rfl (by omega) (by omega) (by omega) ?_
      refine e_aload_n 30 52 rfl rfl rfl rfl ?_
      refine g_getR 31 55 ckX0 flX0_15 rfl rfl (Nat.le_of_ble_eq_true rfl) rfl rfl ?_
      refine e_iload_n 32 56 rfl rfl rfl rfl ?_
      refine e_aload_n 33 57 rfl rfl rfl rfl ?_
      refine g_getR 34 60 ckX0 flX0_15 rfl rfl (Nat.le_of_ble_eq_true rfl) rfl rfl ?_
      refine e_iload_n 35 61 rfl rfl rfl rfl ?_
      refine e_iconst 36 62 rfl rfl ?_
      refine e_isub 37 63 rfl rfl ?_
      refine g_iaload 38 64 rfl rfl (Nat.le_of_ble_eq_true rfl) rfl (by omega) (by omega) (by omega) e2 ?_
      refine g_iastore 39 65 rfl rfl (Nat.le_of_ble_eq_true rfl) rfl (by omega) (by omega) (by omega) ?_
      refine e_iinc 40 68 (ls' := [some _, some _, some _, some _]) rfl rfl (Nat.le_of_ble_eq_true rfl) rfl rfl ?_
      refine e_goto 41 30 rfl rfl ?_
      rw [cshf_step σ i h2]
      exact hn2
  refine e_entry okX0_cut (Nat.le_of_ble_eq_true rfl) (ls := [some _, some _, some _, none]) rfl ?_
  refine e_aload_n 0 1 rfl rfl rfl rfl ?_
  refine e_iload_n 1 2 rfl rfl rfl rfl ?_
  refine g_callV 2 5 (hh) okX0_has cvX0_57 ⟨(Nat.le_of_ble_eq_true rfl), (Nat.le_of_ble_eq_true rfl)⟩ rfl rfl (Nat.le_of_ble_eq_true rfl) rfl rfl rfl rfl rfl (Nat.le_of_ble_eq_true rfl) (Nat.le_of_ble_eq_true rfl) (Nat.le_of_ble_eq_true rfl) ?_
  refine e_ifb_eq 3 24 8 rfl rfl rfl (fun h2 => ?_) (fun h2 => ?_)
  · skip
    cases h2
  · skip
    refine e_aload_n 4 9 rfl rfl rfl rfl ?_
    refine g_getI 5 12 7 ckX0 flX0_34 rfl rfl (Nat.le_of_ble_eq_true rfl) rfl rfl rfl rfl ?_
    refine e_if_lt 6 24 15 rfl rfl rfl (by unfold xr at *; omega) (fun h9 => absurd h9 (by omega)) (fun _ => ?_)
    refine e_aload_n 7 16 rfl rfl rfl rfl ?_
    refine g_getI 8 19 7 ckX0 flX0_34 rfl rfl (Nat.le_of_ble_eq_true rfl) rfl rfl rfl rfl ?_
    refine e_bipush 9 21 rfl rfl rfl ?_
    refine e_icmp_lt 10 25 24 rfl rfl rfl (by unfold xr at *; omega) (by unfold xr at *; omega) (fun _ => ?_) (fun h9 => absurd h9 (by omega))
    refine e_aload_n 12 26 rfl rfl rfl rfl ?_
    refine g_getI 13 29 7 ckX0 flX0_34 rfl rfl (Nat.le_of_ble_eq_true rfl) rfl rfl rfl rfl ?_
    refine e_istore_n 14 30 (ls' := [some _, some _, some _, some _]) rfl rfl rfl (Nat.le_of_ble_eq_true rfl) rfl ?_
    have h9 := loop (σ 231 7 - (c + 1)).toNat (σ 231 7) (by omega) (Int.le_refl _)
    rw [show cshf σ (σ 231 7) = σ by funext b j; unfold cshf; rw [if_neg (fun q => by omega)]] at h9
    exact h9
def sba (σ σ' : xSig) : Prop := ∀ b : Nat, b ≠ 238 → σ' b = σ b
def kyd (σ : xSig) (f h : Int) : xSig := bgc (xu (xu (xu σ 231 9 f) 231 10 h) 231 8 (σ 231 8 + 1))
def kcn (σ σ' : xSig) (T : Nat → List Int) : Int := smN (fun n => if hasd σ n = true ∧ shd σ' (T (31 + 2 * n)) ≠ shd σ (T (31 + 2 * n)) then 1 else 0) 0 100
theorem bgc_CHR {σ : xSig} (h : CHR σ) (hm : σ 231 11 = -1) {f h9 : Int} (hf : 0 ≤ f ∧ f < 8) (hh : h9 = 0 ∨ h9 = 1) : CHR (kyd σ f h9) := by
  obtain ⟨q1, q2, q3, q4, q5, q6, q7, q8⟩ := h
  have e : ∀ j, kyd σ f h9 231 j = if j = 7 then 3 else if j = 8 then σ 231 8 + 1 else if j = 10 then h9 else if j = 9 then f else σ 231 j := by
    intro j
    simp [kyd, bgc, xu]
  have e2 : ∀ j, kyd σ f h9 232 j = if j = 2 then 667 else if j = 1 then 334 else if j = 0 then 0 else σ 232 j := by
    intro j
    simp [kyd, bgc, xu]
  have e3 : ∀ j, kyd σ f h9 233 j = if j = 2 then 2 else if j = 1 then 1 else if j = 0 then 0 else σ 233 j := by
    intro j
    simp [kyd, bgc, xu]
  have e5 : ∀ j, kyd σ f h9 235 j = σ 235 j := by
    intro j
    simp [kyd, bgc, xu]
  refine ⟨by rw [e]; simp, by rw [e]; simpa using hf, by rw [e]; simpa using hh, by rw [e]; simpa using q4, by rw [e]; simpa using q5, fun i => ?_, fun i => ?_, fun i => by rw [e5]; exact q8 i⟩
  · rw [e2]
    have := q6 i
    split
    · omega
    · split
      · omega
      · split <;> omega
  · rw [e3]
    have := q7 i
    split
    · omega
    · split
      · omega
      · split <;> omega
theorem sp_shardAnew {σ : xSig} {T : Nat → List Int} (hA : VAll σ T) (h01 : n01 σ 27) (h : CHR σ) (hm : σ 231 11 = -1) {f h9 : Int} (hf : 0 ≤ f ∧ f < 8) (hh : h9 = 0 ∨ h9 = 1) :
    ∃ σ1 : xSig, sba σ σ1 ∧ x_Sp MX0_shardAnew 0 0 [.ref 231, .ref 25, .int (ii f), .int (ii h9)] (St σ) (iv (kcn σ (kyd σ1 f h9) T)) (St (kyd σ1 f h9)) := by
  have samev : ∀ σ2, sba σ σ2 → VAll σ2 T ∧ n01 σ2 27 ∧ CHR σ2 := by
    intro σ2 h2
    refine ⟨hA.keep fun b hb => h2 b (fun e => by rw [e] at hb; revert hb; decide +kernel), fun i => by rw [h2 27 (by decide)]; exact h01 i, h.same ⟨h2 231 (by decide), h2 232 (by decide), h2 233 (by decide)⟩ (fun i => by rw [h2 235 (by decide)]; exact h.2.2.2.2.2.2.2 i)⟩
  have loop2 : ∀ σ1, sba σ σ1 → (∀ n : Nat, n < 100 → σ1 238 n = shd σ (if hasd σ n = true then T (31 + 2 * n) else T 29)) → ∀ (n i : Nat) (w : Int), i + n = 100 → 0 ≤ w → w ≤ i → x_E MX0_shardAnew 0 0 66 [some (.ref 231), some (.ref 25), some (.int (ii f)), some (.int (ii h9)), some (.int (ii w)), some (.int (ii i))] [] (St (kyd σ1 f h9)) 0 0 (iv (w + smN (fun n => if hasd σ n = true ∧ shd (kyd σ1 f h9) (T (31 + 2 * n)) ≠ shd σ (T (31 + 2 * n)) then 1 else 0) i n)) (St (kyd σ1 f h9)) := by
    intro σ1 hs hv
    obtain ⟨s1, s2, s3⟩ := samev σ1 hs
    have hm1 : σ1 231 11 = -1 := by rw [hs 231 (by decide)]; exact hm
    have hC := bgc_CHR s3 hm1 hf hh
    have hoth : ∀ b, b ≠ 231 → b ≠ 232 → b ≠ 233 → b ≠ 234 → kyd σ1 f h9 b = σ1 b := by
      intro b b1 b2 b3 b4
      funext j
      simp [kyd, bgc, xu, b1, b2, b3, b4]
    have hA2 : VAll (kyd σ1 f h9) T := s1.keep fun b hb => hoth b (fun e => by rw [e] at hb; revert hb; decide +kernel) (fun e => by rw [e] at hb; revert hb; decide +kernel) (fun e => by rw [e] at hb; revert hb; decide +kernel) (fun e => by rw [e] at hb; revert hb; decide +kernel)
    have h012 : n01 (kyd σ1 f h9) 27 := fun i => by rw [hoth 27 (by decide) (by decide) (by decide) (by decide)]; exact s2 i
    have hh2 : ∀ n : Nat, hasd (kyd σ1 f h9) n = hasd σ n := fun n => hasd_congr ((hoth 27 (by decide) (by decide) (by decide) (by decide)).trans (hs 27 (by decide))) n
    intro n
    induction n with
    | zero =>
      intro i w hi h0 h2
      simp only [smN, Int.add_zero]
      refine e_iload 36 68 rfl rfl rfl ?_
      refine e_aload_n 37 69 rfl rfl rfl rfl ?_
      refine g_getR 38 72 ckX0 flX0_31 rfl rfl (Nat.le_of_ble_eq_true rfl) rfl rfl ?_
      refine g_alen 39 73 rfl rfl (Nat.le_of_ble_eq_true rfl) rfl (Nat.le_of_ble_eq_true rfl) ?_
      refine e_icmp_ge 40 114 76 rfl rfl rfl (by unfold xr at *; omega) (by unfold xr at *; omega) (fun _ => ?_) (fun h9 => absurd h9 (by omega))
      refine e_iload 58 116 rfl rfl rfl ?_
      exact e_ireturn 59 rfl rfl (Nat.le_of_ble_eq_true rfl) (Nat.le_of_ble_eq_true rfl)
    | succ n ih =>
      intro i w hi h0 h2
      have hn := fun w' (q0 : 0 ≤ w') (q1 : w' ≤ (i : Int) + 1) => ih (i + 1) w' (by omega) q0 (by omega)
      rw [show (((i + 1 : Nat)) : Int) = (i : Int) + 1 by omega] at hn
      have hhas := sp_has h012 (n := i) (by unfold xr; omega)
      rw [hh2] at hhas
      simp only [smN]
      refine e_iload 36 68 rfl rfl rfl ?_
      refine e_aload_n 37 69 rfl rfl rfl rfl ?_
      refine g_getR 38 72 ckX0 flX0_31 rfl rfl (Nat.le_of_ble_eq_true rfl) rfl rfl ?_
      refine g_alen 39 73 rfl rfl (Nat.le_of_ble_eq_true rfl) rfl (Nat.le_of_ble_eq_true rfl) ?_
      refine e_icmp_ge 40 114 76 rfl rfl rfl (by unfold xr at *; omega) (by unfold xr at *; omega) (fun h9 => absurd h9 (by omega)) (fun _ => ?_)
      refine e_aload_n 41 77 rfl rfl rfl rfl ?_
      refine e_iload 42 79 rfl rfl rfl ?_
      refine g_callV 43 82 (hhas) okX8_has cvX0_96 ⟨(Nat.le_of_ble_eq_true rfl), (Nat.le_of_ble_eq_true rfl)⟩ rfl rfl (Nat.le_of_ble_eq_true rfl) rfl rfl rfl rfl rfl (Nat.le_of_ble_eq_true rfl) (Nat.le_of_ble_eq_true rfl) (Nat.le_of_ble_eq_true rfl) ?_
      refine e_ifb_eq 44 108 85 rfl rfl rfl (fun h3 => ?_) (fun h3 => ?_)
      · skip
        rw [if_neg (fun q => by rw [h3] at q; cases q.1), Int.zero_add]
        refine e_iinc 56 111 (ls' := [some _, some _, some _, some _, some _, some _]) rfl rfl (Nat.le_of_ble_eq_true rfl) rfl rfl ?_
        refine e_goto 57 66 rfl rfl ?_
        exact hn w h0 (by omega)
      · skip
        have hat := sp_stAt h012 (n := i) (by unfold xr; omega)
        rw [da_has ((hh2 i).trans h3)] at hat
        have hb := cown_bnd hC (chk (kyd σ1 f h9) (T (31 + 2 * i)))
        have hb2 : shd (kyd σ1 f h9) (T (31 + 2 * i)) = cown (kyd σ1 f h9) (chk (kyd σ1 f h9) (T (31 + 2 * i))) := rfl
        have hb3 := cown_bnd h (chk σ (T (31 + 2 * i)))
        have hb4 : shd σ (T (31 + 2 * i)) = cown σ (chk σ (T (31 + 2 * i))) := rfl
        have e9 : kyd σ1 f h9 238 i = shd σ (T (31 + 2 * i)) := by
          rw [hoth 238 (by decide) (by decide) (by decide) (by decide), hv i (by omega), if_pos h3]
        refine e_aload_n 45 86 rfl rfl rfl rfl ?_
        refine e_aload_n 46 87 rfl rfl rfl rfl ?_
        refine e_iload 47 89 rfl rfl rfl ?_
        refine g_callV 48 92 (hat) okX8_at cvX0_99 ⟨(Nat.le_of_ble_eq_true rfl), (Nat.le_of_ble_eq_true rfl)⟩ rfl rfl (Nat.le_of_ble_eq_true rfl) rfl rfl rfl rfl rfl (Nat.le_of_ble_eq_true rfl) (Nat.le_of_ble_eq_true rfl) (Nat.le_of_ble_eq_true rfl) ?_
        refine g_callV 49 95 (sp_shardOf hC (hA2 _ (vO_s i (by omega)).1)) okX0_shardOf cvX0_103 ⟨(Nat.le_of_ble_eq_true rfl), (Nat.le_of_ble_eq_true rfl)⟩ rfl rfl (Nat.le_of_ble_eq_true rfl) rfl rfl rfl rfl rfl (Nat.le_of_ble_eq_true rfl) (Nat.le_of_ble_eq_true rfl) (Nat.le_of_ble_eq_true rfl) ?_
        refine e_aload_n 50 96 rfl rfl rfl rfl ?_
        refine g_getR 51 99 ckX0 flX0_31 rfl rfl (Nat.le_of_ble_eq_true rfl) rfl rfl ?_
        refine e_iload 52 101 rfl rfl rfl ?_
        refine g_iaload 53 102 rfl rfl (Nat.le_of_ble_eq_true rfl) rfl (by omega) (by omega) (by omega) e9 ?_
        refine e_icmp_eq 54 108 105 rfl rfl rfl (by unfold xr at *; omega) (by unfold xr at *; omega) (fun h4 => ?_) (fun h4 => ?_)
        · skip
          rw [if_neg (fun q => q.2 h4), Int.zero_add]
          refine e_iinc 56 111 (ls' := [some _, some _, some _, some _, some _, some _]) rfl rfl (Nat.le_of_ble_eq_true rfl) rfl rfl ?_
          refine e_goto 57 66 rfl rfl ?_
          exact hn w h0 (by omega)
        · skip
          rw [if_pos ⟨h3, h4⟩, ← Int.add_assoc]
          refine e_iinc 55 108 (ls' := [some _, some _, some _, some _, some _, some _]) rfl rfl (Nat.le_of_ble_eq_true rfl) rfl rfl ?_
          refine e_iinc 56 111 (ls' := [some _, some _, some _, some _, some _, some _]) rfl rfl (Nat.le_of_ble_eq_true rfl) rfl rfl ?_
          refine e_goto 57 66 rfl rfl ?_
          exact hn (w + 1) (by omega) (by omega)
  have loop1 : ∀ (n i : Nat) (σ1 : xSig), i + n = 100 → sba σ σ1 → (∀ k : Nat, k < i → σ1 238 k = shd σ (if hasd σ k = true then T (31 + 2 * k) else T 29)) → ∃ σ2 : xSig, sba σ σ2 ∧ x_E MX0_shardAnew 0 0 3 [some (.ref 231), some (.ref 25), some (.int (ii f)), some (.int (ii h9)), some (.int (ii i)), none] [] (St σ1) 0 0 (iv (kcn σ (kyd σ2 f h9) T)) (St (kyd σ2 f h9)) := by
    intro n
    induction n with
    | zero =>
      intro i σ1 hi hs hv
      have hi9 : i = 100 := by omega
      subst hi9
      obtain ⟨s1, s2, s3⟩ := samev σ1 hs
      refine ⟨σ1, hs, ?_⟩
      have e8 : xu (xu σ1 231 9 f) 231 10 h9 231 8 = σ1 231 8 := by rw [xu_ne _ (Or.inr (by decide)), xu_ne _ (Or.inr (by decide))]
      have l2 := loop2 σ1 hs hv 100 0 0 rfl (by omega) (by omega)
      rw [Int.zero_add] at l2
      refine e_iload 2 5 rfl rfl rfl ?_
      refine e_aload_n 3 6 rfl rfl rfl rfl ?_
      refine g_getR 4 9 ckX0 flX0_31 rfl rfl (Nat.le_of_ble_eq_true rfl) rfl rfl ?_
      refine g_alen 5 10 rfl rfl (Nat.le_of_ble_eq_true rfl) rfl (Nat.le_of_ble_eq_true rfl) ?_
      refine e_icmp_ge 6 36 13 rfl rfl rfl (by unfold xr at *; omega) (by unfold xr at *; omega) (fun _ => ?_) (fun h9 => absurd h9 (by omega))
      refine e_aload_n 18 37 rfl rfl rfl rfl ?_
      refine e_iload_n 19 38 rfl rfl rfl rfl ?_
      refine g_putI 20 41 9 ckX0 flX0_41 rfl rfl (Nat.le_of_ble_eq_true rfl) rfl rfl rfl ?_
      refine e_aload_n 21 42 rfl rfl rfl rfl ?_
      refine e_iload_n 22 43 rfl rfl rfl rfl ?_
      refine g_putZ 23 46 10 ckX0 flX0_44 rfl rfl (by omega) (Nat.le_of_ble_eq_true rfl) rfl rfl rfl ?_
      refine e_aload_n 24 47 rfl rfl rfl rfl ?_
      refine e_dup 25 48 rfl rfl rfl ?_
      refine g_getI 26 51 8 ckX0 flX0_38 rfl rfl (Nat.le_of_ble_eq_true rfl) rfl rfl rfl e8 ?_
      refine e_iconst 27 52 rfl rfl ?_
      refine e_iadd 28 53 rfl rfl ?_
      refine g_putI 29 56 8 ckX0 flX0_38 rfl rfl (Nat.le_of_ble_eq_true rfl) rfl rfl rfl ?_
      refine e_aload_n 30 57 rfl rfl rfl rfl ?_
      refine g_callV 31 60 (sp_beginChunks) okX0_beginChunks cvX0_54 ⟨(Nat.le_of_ble_eq_true rfl), (Nat.le_of_ble_eq_true rfl)⟩ rfl rfl (Nat.le_of_ble_eq_true rfl) rfl rfl rfl rfl rfl (Nat.le_of_ble_eq_true rfl) (Nat.le_of_ble_eq_true rfl) (Nat.le_of_ble_eq_true rfl) ?_
      refine e_iconst 32 61 rfl rfl ?_
      refine e_istore 33 63 (ls' := [some _, some _, some _, some _, some _, none]) rfl rfl (Nat.le_of_ble_eq_true rfl) rfl ?_
      refine e_iconst 34 64 rfl rfl ?_
      refine e_istore 35 66 (ls' := [some _, some _, some _, some _, some _, some _]) rfl rfl (Nat.le_of_ble_eq_true rfl) rfl ?_
      exact l2
    | succ n ih =>
      intro i σ1 hi hs hv
      obtain ⟨s1, s2, s3⟩ := samev σ1 hs
      have hdv : vO (da σ1 i) = true := da_vO σ1 i
      have eT : T (da σ1 i) = if hasd σ i = true then T (31 + 2 * i) else T 29 := by
        have e := hasd_congr (hs 27 (by decide)) i
        cases hq : hasd σ i with
        | true => rw [da_has (e.trans hq)]; simp
        | false => rw [da_no (e.trans hq)]; simp
      have e1 : shd σ1 (T (da σ1 i)) = shd σ (if hasd σ i = true then T (31 + 2 * i) else T 29) := by
        rw [eT]
        exact (chk_congr ⟨hs 231 (by decide), hs 232 (by decide), hs 233 (by decide)⟩ _).2.1
      have hsh := sp_shardOf s3 (s1 _ hdv)
      rw [e1] at hsh
      obtain ⟨σ2, k1, k2⟩ := ih (i + 1) (xu σ1 238 i (shd σ (if hasd σ i = true then T (31 + 2 * i) else T 29))) (by omega) (fun b hb => by rw [xu_other _ _ _ hb]; exact hs b hb) (fun k hk => by
        by_cases e : k = i
        · subst e; rw [xu_same]
        · rw [xu_ne _ (Or.inr (by omega))]; exact hv k (by omega))
      rw [show (((i + 1 : Nat)) : Int) = (i : Int) + 1 by omega] at k2
      refine ⟨σ2, k1, ?_⟩
      refine e_iload 2 5 rfl rfl rfl ?_
      refine e_aload_n 3 6 rfl rfl rfl rfl ?_
      refine g_getR 4 9 ckX0 flX0_31 rfl rfl (Nat.le_of_ble_eq_true rfl) rfl rfl ?_
      refine g_alen 5 10 rfl rfl (Nat.le_of_ble_eq_true rfl) rfl (Nat.le_of_ble_eq_true rfl) ?_
      refine e_icmp_ge 6 36 13 rfl rfl rfl (by unfold xr at *; omega) (by unfold xr at *; omega) (fun h9 => absurd h9 (by omega)) (fun _ => ?_)
      refine e_aload_n 7 14 rfl rfl rfl rfl ?_
      refine g_getR 8 17 ckX0 flX0_31 rfl rfl (Nat.le_of_ble_eq_true rfl) rfl rfl ?_
      refine e_iload 9 19 rfl rfl rfl ?_
      refine e_aload_n 10 20 rfl rfl rfl rfl ?_
      refine e_aload_n 11 21 rfl rfl rfl rfl ?_
      refine e_iload 12 23 rfl rfl rfl ?_
      refine g_callV 13 26 (sp_stAt s2 (n := i) (by unfold xr; omega)) okX8_at cvX0_99 ⟨(Nat.le_of_ble_eq_true rfl), (Nat.le_of_ble_eq_true rfl)⟩ rfl rfl (Nat.le_of_ble_eq_true rfl) rfl rfl rfl rfl rfl (Nat.le_of_ble_eq_true rfl) (Nat.le_of_ble_eq_true rfl) (Nat.le_of_ble_eq_true rfl) ?_
      refine g_callV 14 29 (hsh) okX0_shardOf cvX0_103 ⟨(Nat.le_of_ble_eq_true rfl), (Nat.le_of_ble_eq_true rfl)⟩ rfl rfl (Nat.le_of_ble_eq_true rfl) rfl rfl rfl rfl rfl (Nat.le_of_ble_eq_true rfl) (Nat.le_of_ble_eq_true rfl) (Nat.le_of_ble_eq_true rfl) ?_
      refine g_iastore 15 30 rfl rfl (Nat.le_of_ble_eq_true rfl) rfl (by omega) (by omega) (by omega) ?_
      refine e_iinc 16 33 (ls' := [some _, some _, some _, some _, some _, none]) rfl rfl (Nat.le_of_ble_eq_true rfl) rfl rfl ?_
      refine e_goto 17 3 rfl rfl ?_
      exact k2
  obtain ⟨σ2, k1, k2⟩ := loop1 100 0 σ rfl (fun _ _ => rfl) (fun k hk => by omega)
  refine ⟨σ2, k1, ?_⟩
  refine e_entry okX0_shardAnew (Nat.le_of_ble_eq_true rfl) (ls := [some _, some _, some _, some _, none, none]) rfl ?_
  refine e_iconst 0 1 rfl rfl ?_
  refine e_istore 1 3 (ls' := [some _, some _, some _, some _, some _, none]) rfl rfl (Nat.le_of_ble_eq_true rfl) rfl ?_
  exact k2
end
section
/-! ===== values at places; Filter ===== -/
/-- the value that begins at a place -/
def sv (t : List Int) (i : Int) : List Int := (t.drop i.toNat).take (vsc (t.drop i.toNat) 0)
theorem sv_split (t : List Int) (i : Int) : t = t.take i.toNat ++ sv t i ++ (t.drop i.toNat).drop (vsc (t.drop i.toNat) 0) := by
  unfold sv
  rw [List.append_assoc, List.take_append_drop, List.take_append_drop]
/-- all that a document has at any path is values, and there is room for their places -/
def GD (t : List Int) : Prop := 0 < t.length ∧ ∀ path : Int, 0 ≤ path → path < 72 → (atp t path).length ≤ 24 ∧ ∀ i ∈ atp t path, 0 ≤ i ∧ i < t.length ∧ Cv (sv t i)
def isFi (q : Nat) : Prop := q < N0 ∧ SH q = .inr (.inr (2, [some (some (q + 1)), none, none])) ∧ vO (q + 1) = true ∧ vCap (q + 1) = 72 ∧ vA q = false
theorem isFi_s (i : Nat) (h : i < 3) : isFi (264 + 3 * i) := by
  rcases (by omega : i = 0 ∨ i = 1 ∨ i = 2) with rfl | rfl | rfl <;> exact ⟨Nat.le_of_ble_eq_true rfl, rfl, by decide +kernel, by decide +kernel, by decide +kernel⟩
theorem isFi_n : isFi 258 := ⟨Nat.le_of_ble_eq_true rfl, rfl, by decide +kernel, by decide +kernel, by decide +kernel⟩
/-- whether the value at a place fits a filter -/
def ffit (rel : Int) (w t : List Int) (i : Int) : Bool :=
  if rel = 0 then decide (lexc (sv t i) w = 0)
  else if rel = 3 then true
  else if rel = 4 then decide (knd (tok t i) = 3 ∧ wsc (t.drop i.toNat) 0 = tok w 0 - 2000)
  else decide ((knd (tok t i) = 1 ∨ knd (tok t i) = 2) ∧ knd (tok t i) = knd (tok w 0)) && (if rel = 1 then decide (tok t i < tok w 0) else decide (tok w 0 < tok t i))
theorem sp_isBeyond {σ : xSig} {q : Nat} {w : List Int} (hq : isFi q) (hW : VH σ (q + 1) 72 w) (hr : 0 ≤ σ q 2 ∧ σ q 2 ≤ 4) {x : Int} (hx : 0 ≤ x ∧ x < 6000) : Rd MX2_isBeyond [.ref q, .int (ii x)] σ (zv (if σ q 2 = 1 then decide (x < tok w 0) else decide (tok w 0 < x))) := by
  have hb := hW.bnd 0
  refine e_entry okX2_isBeyond (Nat.le_of_ble_eq_true rfl) (ls := [some _, some _]) rfl ?_
  refine e_aload_n 0 1 rfl rfl rfl rfl ?_
  refine g_getI 1 4 2 ckX2 flX2_24 rfl rfl hq.1 hq.2.1 rfl rfl rfl ?_
  refine e_iconst 2 5 rfl rfl ?_
  refine e_icmp_ne 3 28 8 rfl rfl rfl (by unfold xr at *; omega) (by unfold xr at *; omega) (fun h => ?_) (fun h => ?_)
  · skip
    rw [if_neg h]
    refine e_iload_n 14 29 rfl rfl rfl rfl ?_
    refine e_aload_n 15 30 rfl rfl rfl rfl ?_
    refine g_getR 16 33 ckX2 flX2_14 rfl rfl hq.1 hq.2.1 rfl ?_
    refine e_iconst 17 34 rfl rfl ?_
    refine g_callV 18 37 (sp_signAt hW xr_0) okX10_signAt cvX2_45 ⟨(Nat.le_of_ble_eq_true rfl), (Nat.le_of_ble_eq_true rfl)⟩ rfl rfl hW.1.1 hW.1.2.2.1 rfl rfl rfl rfl (Nat.le_of_ble_eq_true rfl) (Nat.le_of_ble_eq_true rfl) (Nat.le_of_ble_eq_true rfl) ?_
    refine e_icmp_le 19 44 40 rfl rfl rfl (by unfold xr at *; omega) (by unfold xr at *; omega) (fun h2 => ?_) (fun h2 => ?_)
    · skip
      rw [decide_eq_false (by omega)]
      refine e_iconst 22 45 rfl rfl ?_
      exact e_zreturn (x := 0) 23 rfl rfl (by omega) (Nat.le_of_ble_eq_true rfl) (Nat.le_of_ble_eq_true rfl)
    · skip
      rw [decide_eq_true h2]
      refine e_iconst 20 41 rfl rfl ?_
      refine e_goto 21 45 rfl rfl ?_
      exact e_zreturn (x := 1) 23 rfl rfl (by omega) (Nat.le_of_ble_eq_true rfl) (Nat.le_of_ble_eq_true rfl)
  · skip
    rw [if_pos h]
    refine e_iload_n 4 9 rfl rfl rfl rfl ?_
    refine e_aload_n 5 10 rfl rfl rfl rfl ?_
    refine g_getR 6 13 ckX2 flX2_14 rfl rfl hq.1 hq.2.1 rfl ?_
    refine e_iconst 7 14 rfl rfl ?_
    refine g_callV 8 17 (sp_signAt hW xr_0) okX10_signAt cvX2_45 ⟨(Nat.le_of_ble_eq_true rfl), (Nat.le_of_ble_eq_true rfl)⟩ rfl rfl hW.1.1 hW.1.2.2.1 rfl rfl rfl rfl (Nat.le_of_ble_eq_true rfl) (Nat.le_of_ble_eq_true rfl) (Nat.le_of_ble_eq_true rfl) ?_
    refine e_icmp_ge 9 24 20 rfl rfl rfl (by unfold xr at *; omega) (by unfold xr at *; omega) (fun h2 => ?_) (fun h2 => ?_)
    · skip
      rw [decide_eq_false (by omega)]
      refine e_iconst 12 25 rfl rfl ?_
      refine e_goto 13 45 rfl rfl ?_
      exact e_zreturn (x := 0) 23 rfl rfl (by omega) (Nat.le_of_ble_eq_true rfl) (Nat.le_of_ble_eq_true rfl)
    · skip
      rw [decide_eq_true h2]
      refine e_iconst 10 21 rfl rfl ?_
      refine e_goto 11 45 rfl rfl ?_
      exact e_zreturn (x := 1) 23 rfl rfl (by omega) (Nat.le_of_ble_eq_true rfl) (Nat.le_of_ble_eq_true rfl)
theorem lexc_in (a b : List Int) : lexc a b = -1 ∨ lexc a b = 0 ∨ lexc a b = 1 := by
  induction a generalizing b with
  | nil => simp [lexc]
  | cons x a ih =>
    cases b with
    | nil => simp [lexc]
    | cons y b =>
      simp only [lexc]
      split
      · exact Or.inl rfl
      · split
        · exact Or.inr (Or.inr rfl)
        · exact ih b
theorem sp_fits {σ : xSig} {q a cap : Nat} {w t : List Int} (hq : isFi q) (hW : VH σ (q + 1) 72 w) (hw : Cv w) (hr : 0 ≤ σ q 2 ∧ σ q 2 ≤ 4) (hV : VH σ a cap t) {i : Int} (hi : 0 ≤ i ∧ i < t.length) (hv : Cv (sv t i)) : Rd MX2_fits [.ref q, .ref a, .int (ii i)] σ (zv (ffit (σ q 2) w t i)) := by
  have hcap := hV.2.2.1
  have h200 := hV.2.2.2.1
  have hxi : xr i := by unfold xr; omega
  have hk := sp_kindAt hV hxi
  have hkb := knd_bnd (tok t i)
  have hkw := knd_bnd (tok w 0)
  have hli : ((t.take i.toNat).length : Int) = i := by rw [List.length_take]; omega
  have hb := hV.bnd i
  have hbw := hW.bnd 0
  have other : ∀ z : Int, (z = 1 ∨ z = 2) → σ q 2 = z → x_E MX2_fits 0 0 92 [some (.ref q), some (.ref a), some (.int (ii i)), some (.int (ii (knd (tok t i))))] [] (St σ) 0 0 (zv (ffit (σ q 2) w t i)) (St σ) := by
    intro z hz hz2
    have e : ffit (σ q 2) w t i = (decide ((knd (tok t i) = 1 ∨ knd (tok t i) = 2) ∧ knd (tok t i) = knd (tok w 0)) && (if σ q 2 = 1 then decide (tok t i < tok w 0) else decide (tok w 0 < tok t i))) := by unfold ffit; rw [if_neg (by omega), if_neg (by omega), if_neg (by omega)]
    rw [e]
    have h102 : (knd (tok t i) = 1 ∨ knd (tok t i) = 2) → x_E MX2_fits 0 0 102 [some (.ref q), some (.ref a), some (.int (ii i)), some (.int (ii (knd (tok t i))))] [] (St σ) 0 0 (zv (decide ((knd (tok t i) = 1 ∨ knd (tok t i) = 2) ∧ knd (tok t i) = knd (tok w 0)) && (if σ q 2 = 1 then decide (tok t i < tok w 0) else decide (tok w 0 < tok t i)))) (St σ) := by
      intro h12
      have hbe := sp_isBeyond hq hW hr hb
      refine e_iload_n 41 103 rfl rfl rfl rfl ?_
      refine e_aload_n 42 104 rfl rfl rfl rfl ?_
      refine g_getR 43 107 ckX2 flX2_14 rfl rfl hq.1 hq.2.1 rfl ?_
      refine e_iconst 44 108 rfl rfl ?_
      refine g_callV 45 111 (sp_kindAt hW xr_0) okX10_kindAt cvX2_48 ⟨(Nat.le_of_ble_eq_true rfl), (Nat.le_of_ble_eq_true rfl)⟩ rfl rfl hW.1.1 hW.1.2.2.1 rfl rfl rfl rfl (Nat.le_of_ble_eq_true rfl) (Nat.le_of_ble_eq_true rfl) (Nat.le_of_ble_eq_true rfl) ?_
      refine e_icmp_ne 46 130 114 rfl rfl rfl (by unfold xr at *; omega) (by unfold xr at *; omega) (fun h => ?_) (fun h => ?_)
      · skip
        rw [decide_eq_false (fun z => h z.2), Bool.false_and]
        refine e_iconst 55 131 rfl rfl ?_
        exact e_zreturn (x := 0) 56 rfl rfl (by omega) (Nat.le_of_ble_eq_true rfl) (Nat.le_of_ble_eq_true rfl)
      · skip
        rw [decide_eq_true ⟨h12, h⟩, Bool.true_and]
        refine e_aload_n 47 115 rfl rfl rfl rfl ?_
        refine e_aload_n 48 116 rfl rfl rfl rfl ?_
        refine e_iload_n 49 117 rfl rfl rfl rfl ?_
        refine g_callV 50 120 (sp_signAt hV hxi) okX10_signAt cvX2_45 ⟨(Nat.le_of_ble_eq_true rfl), (Nat.le_of_ble_eq_true rfl)⟩ rfl rfl hV.1.1 hV.1.2.2.1 rfl rfl rfl rfl (Nat.le_of_ble_eq_true rfl) (Nat.le_of_ble_eq_true rfl) (Nat.le_of_ble_eq_true rfl) ?_
        refine g_callV 51 123 (hbe) okX2_isBeyond cvX2_61 ⟨(Nat.le_of_ble_eq_true rfl), (Nat.le_of_ble_eq_true rfl)⟩ rfl rfl hq.1 hq.2.1 rfl rfl rfl rfl (Nat.le_of_ble_eq_true rfl) (Nat.le_of_ble_eq_true rfl) (Nat.le_of_ble_eq_true rfl) ?_
        refine e_ifb_eq 52 130 126 rfl rfl rfl (fun h3 => ?_) (fun h3 => ?_)
        · skip
          rw [h3]
          refine e_iconst 55 131 rfl rfl ?_
          exact e_zreturn (x := 0) 56 rfl rfl (by omega) (Nat.le_of_ble_eq_true rfl) (Nat.le_of_ble_eq_true rfl)
        · skip
          rw [h3]
          refine e_iconst 53 127 rfl rfl ?_
          refine e_goto 54 131 rfl rfl ?_
          exact e_zreturn (x := 1) 56 rfl rfl (by omega) (Nat.le_of_ble_eq_true rfl) (Nat.le_of_ble_eq_true rfl)
    refine e_iload_n 35 93 rfl rfl rfl rfl ?_
    refine e_iconst 36 94 rfl rfl ?_
    refine e_icmp_eq 37 102 97 rfl rfl rfl (by unfold xr at *; omega) (by unfold xr at *; omega) (fun h => ?_) (fun h => ?_)
    · skip
      exact h102 (Or.inl h)
    · skip
      refine e_iload_n 38 98 rfl rfl rfl rfl ?_
      refine e_iconst 39 99 rfl rfl ?_
      refine e_icmp_ne 40 130 102 rfl rfl rfl (by unfold xr at *; omega) (by unfold xr at *; omega) (fun h2 => ?_) (fun h2 => ?_)
      · skip
        rw [decide_eq_false (fun z => z.1.elim h h2), Bool.false_and]
        refine e_iconst 55 131 rfl rfl ?_
        exact e_zreturn (x := 0) 56 rfl rfl (by omega) (Nat.le_of_ble_eq_true rfl) (Nat.le_of_ble_eq_true rfl)
      · skip
        exact h102 (Or.inr h2)
  rcases (by omega : σ q 2 = 0 ∨ σ q 2 = 1 ∨ σ q 2 = 2 ∨ σ q 2 = 3 ∨ σ q 2 = 4) with h | h | h | h | h
  · have ho := sp_order hV hW (t.take i.toNat) (sv t i) ((t.drop i.toNat).drop (vsc (t.drop i.toNat) 0)) [] w [] (sv_split t i) (by simp) hv hw
    rw [hli] at ho
    have hlx := lexc_in (sv t i) w
    rw [h, show ffit 0 w t i = decide (lexc (sv t i) w = 0) by unfold ffit; rw [if_pos rfl]]
    refine e_entry okX2_fits (Nat.le_of_ble_eq_true rfl) (ls := [some _, some _, some _, none]) rfl ?_
    refine e_aload_n 0 1 rfl rfl rfl rfl ?_
    refine e_iload_n 1 2 rfl rfl rfl rfl ?_
    refine g_callV 2 5 (hk) okX10_kindAt cvX2_48 ⟨(Nat.le_of_ble_eq_true rfl), (Nat.le_of_ble_eq_true rfl)⟩ rfl rfl hV.1.1 hV.1.2.2.1 rfl rfl rfl rfl (Nat.le_of_ble_eq_true rfl) (Nat.le_of_ble_eq_true rfl) (Nat.le_of_ble_eq_true rfl) ?_
    refine e_istore_n 3 6 (ls' := [some _, some _, some _, some _]) rfl rfl rfl (Nat.le_of_ble_eq_true rfl) rfl ?_
    refine e_aload_n 4 7 rfl rfl rfl rfl ?_
    refine g_getI 5 10 2 ckX2 flX2_24 rfl rfl hq.1 hq.2.1 rfl rfl h ?_
    refine e_table 6 44 (x := 0) rfl (by unfold xr; omega) (by decide) (by decide) rfl rfl ?_
    refine e_aload_n 7 45 rfl rfl rfl rfl ?_
    refine e_iload_n 8 46 rfl rfl rfl rfl ?_
    refine e_aload_n 9 47 rfl rfl rfl rfl ?_
    refine g_getR 10 50 ckX2 flX2_14 rfl rfl hq.1 hq.2.1 rfl ?_
    refine e_iconst 11 51 rfl rfl ?_
    refine g_callS 12 54 (ho) okX10_order csX2_51 ⟨(Nat.le_of_ble_eq_true rfl), (Nat.le_of_ble_eq_true rfl)⟩ rfl rfl rfl rfl (Nat.le_of_ble_eq_true rfl) (Nat.le_of_ble_eq_true rfl) (Nat.le_of_ble_eq_true rfl) ?_
    refine e_if_ne 13 61 57 rfl rfl rfl (by unfold xr at *; omega) (fun h2 => ?_) (fun h2 => ?_)
    · skip
      rw [decide_eq_false h2]
      refine e_iconst 16 62 rfl rfl ?_
      exact e_zreturn (x := 0) 17 rfl rfl (by omega) (Nat.le_of_ble_eq_true rfl) (Nat.le_of_ble_eq_true rfl)
    · skip
      rw [decide_eq_true h2]
      refine e_iconst 14 58 rfl rfl ?_
      refine e_goto 15 62 rfl rfl ?_
      exact e_zreturn (x := 1) 17 rfl rfl (by omega) (Nat.le_of_ble_eq_true rfl) (Nat.le_of_ble_eq_true rfl)
  · skip
    refine e_entry okX2_fits (Nat.le_of_ble_eq_true rfl) (ls := [some _, some _, some _, none]) rfl ?_
    refine e_aload_n 0 1 rfl rfl rfl rfl ?_
    refine e_iload_n 1 2 rfl rfl rfl rfl ?_
    refine g_callV 2 5 (hk) okX10_kindAt cvX2_48 ⟨(Nat.le_of_ble_eq_true rfl), (Nat.le_of_ble_eq_true rfl)⟩ rfl rfl hV.1.1 hV.1.2.2.1 rfl rfl rfl rfl (Nat.le_of_ble_eq_true rfl) (Nat.le_of_ble_eq_true rfl) (Nat.le_of_ble_eq_true rfl) ?_
    refine e_istore_n 3 6 (ls' := [some _, some _, some _, some _]) rfl rfl rfl (Nat.le_of_ble_eq_true rfl) rfl ?_
    refine e_aload_n 4 7 rfl rfl rfl rfl ?_
    refine g_getI 5 10 2 ckX2 flX2_24 rfl rfl hq.1 hq.2.1 rfl rfl h ?_
    refine e_table 6 92 (x := 1) rfl (by unfold xr; omega) (by decide) (by decide) rfl rfl ?_
    exact other 1 (Or.inl rfl) h
  · skip
    refine e_entry okX2_fits (Nat.le_of_ble_eq_true rfl) (ls := [some _, some _, some _, none]) rfl ?_
    refine e_aload_n 0 1 rfl rfl rfl rfl ?_
    refine e_iload_n 1 2 rfl rfl rfl rfl ?_
    refine g_callV 2 5 (hk) okX10_kindAt cvX2_48 ⟨(Nat.le_of_ble_eq_true rfl), (Nat.le_of_ble_eq_true rfl)⟩ rfl rfl hV.1.1 hV.1.2.2.1 rfl rfl rfl rfl (Nat.le_of_ble_eq_true rfl) (Nat.le_of_ble_eq_true rfl) (Nat.le_of_ble_eq_true rfl) ?_
    refine e_istore_n 3 6 (ls' := [some _, some _, some _, some _]) rfl rfl rfl (Nat.le_of_ble_eq_true rfl) rfl ?_
    refine e_aload_n 4 7 rfl rfl rfl rfl ?_
    refine g_getI 5 10 2 ckX2 flX2_24 rfl rfl hq.1 hq.2.1 rfl rfl h ?_
    refine e_table 6 92 (x := 2) rfl (by unfold xr; omega) (by decide) (by decide) rfl rfl ?_
    exact other 2 (Or.inr rfl) h
  · rw [h, show ffit 3 w t i = true by unfold ffit; rw [if_neg (by decide), if_pos rfl]]
    refine e_entry okX2_fits (Nat.le_of_ble_eq_true rfl) (ls := [some _, some _, some _, none]) rfl ?_
    refine e_aload_n 0 1 rfl rfl rfl rfl ?_
    refine e_iload_n 1 2 rfl rfl rfl rfl ?_
    refine g_callV 2 5 (hk) okX10_kindAt cvX2_48 ⟨(Nat.le_of_ble_eq_true rfl), (Nat.le_of_ble_eq_true rfl)⟩ rfl rfl hV.1.1 hV.1.2.2.1 rfl rfl rfl rfl (Nat.le_of_ble_eq_true rfl) (Nat.le_of_ble_eq_true rfl) (Nat.le_of_ble_eq_true rfl) ?_
    refine e_istore_n 3 6 (ls' := [some _, some _, some _, some _]) rfl rfl rfl (Nat.le_of_ble_eq_true rfl) rfl ?_
    refine e_aload_n 4 7 rfl rfl rfl rfl ?_
    refine g_getI 5 10 2 ckX2 flX2_24 rfl rfl hq.1 hq.2.1 rfl rfl h ?_
    refine e_table 6 63 (x := 3) rfl (by unfold xr; omega) (by decide) (by decide) rfl rfl ?_
    refine e_iconst 18 64 rfl rfl ?_
    exact e_zreturn (x := 1) 19 rfl rfl (by omega) (Nat.le_of_ble_eq_true rfl) (Nat.le_of_ble_eq_true rfl)
  · have hwd := sp_widthAt hV (t.take i.toNat) (t.drop i.toNat) (List.take_append_drop _ _).symm
    rw [hli] at hwd
    have hwb := wsc_bnd (t.drop i.toNat) 0
    rw [List.length_drop] at hwb
    rw [h, show ffit 4 w t i = decide (knd (tok t i) = 3 ∧ wsc (t.drop i.toNat) 0 = tok w 0 - 2000) by unfold ffit; rw [if_neg (by decide), if_neg (by decide), if_pos rfl]]
    refine e_entry okX2_fits (Nat.le_of_ble_eq_true rfl) (ls := [some _, some _, some _, none]) rfl ?_
    refine e_aload_n 0 1 rfl rfl rfl rfl ?_
    refine e_iload_n 1 2 rfl rfl rfl rfl ?_
    refine g_callV 2 5 (hk) okX10_kindAt cvX2_48 ⟨(Nat.le_of_ble_eq_true rfl), (Nat.le_of_ble_eq_true rfl)⟩ rfl rfl hV.1.1 hV.1.2.2.1 rfl rfl rfl rfl (Nat.le_of_ble_eq_true rfl) (Nat.le_of_ble_eq_true rfl) (Nat.le_of_ble_eq_true rfl) ?_
    refine e_istore_n 3 6 (ls' := [some _, some _, some _, some _]) rfl rfl rfl (Nat.le_of_ble_eq_true rfl) rfl ?_
    refine e_aload_n 4 7 rfl rfl rfl rfl ?_
    refine g_getI 5 10 2 ckX2 flX2_24 rfl rfl hq.1 hq.2.1 rfl rfl h ?_
    refine e_table 6 65 (x := 4) rfl (by unfold xr; omega) (by decide) (by decide) rfl rfl ?_
    refine e_iload_n 20 66 rfl rfl rfl rfl ?_
    refine e_iconst 21 67 rfl rfl ?_
    refine e_icmp_ne 22 90 70 rfl rfl rfl (by unfold xr at *; omega) (by unfold xr at *; omega) (fun h2 => ?_) (fun h2 => ?_)
    · skip
      rw [decide_eq_false (fun z => h2 z.1)]
      refine e_iconst 33 91 rfl rfl ?_
      exact e_zreturn (x := 0) 34 rfl rfl (by omega) (Nat.le_of_ble_eq_true rfl) (Nat.le_of_ble_eq_true rfl)
    · skip
      refine e_aload_n 23 71 rfl rfl rfl rfl ?_
      refine e_iload_n 24 72 rfl rfl rfl rfl ?_
      refine g_callV 25 75 (hwd) okX10_widthAt cvX2_55 ⟨(Nat.le_of_ble_eq_true rfl), (Nat.le_of_ble_eq_true rfl)⟩ rfl rfl hV.1.1 hV.1.2.2.1 rfl rfl rfl rfl (Nat.le_of_ble_eq_true rfl) (Nat.le_of_ble_eq_true rfl) (Nat.le_of_ble_eq_true rfl) ?_
      refine e_aload_n 26 76 rfl rfl rfl rfl ?_
      refine g_getR 27 79 ckX2 flX2_14 rfl rfl hq.1 hq.2.1 rfl ?_
      refine e_iconst 28 80 rfl rfl ?_
      refine g_callV 29 83 (sp_numberAt hW xr_0) okX10_numberAt cvX2_58 ⟨(Nat.le_of_ble_eq_true rfl), (Nat.le_of_ble_eq_true rfl)⟩ rfl rfl hW.1.1 hW.1.2.2.1 rfl rfl rfl rfl (Nat.le_of_ble_eq_true rfl) (Nat.le_of_ble_eq_true rfl) (Nat.le_of_ble_eq_true rfl) ?_
      refine e_icmp_ne 30 90 86 rfl rfl rfl (by unfold xr at *; omega) (by unfold xr at *; omega) (fun h3 => ?_) (fun h3 => ?_)
      · skip
        rw [decide_eq_false (fun z => h3 z.2)]
        refine e_iconst 33 91 rfl rfl ?_
        exact e_zreturn (x := 0) 34 rfl rfl (by omega) (Nat.le_of_ble_eq_true rfl) (Nat.le_of_ble_eq_true rfl)
      · skip
        rw [decide_eq_true ⟨h2, h3⟩]
        refine e_iconst 31 87 rfl rfl ?_
        refine e_goto 32 91 rfl rfl ?_
        exact e_zreturn (x := 1) 34 rfl rfl (by omega) (Nat.le_of_ble_eq_true rfl) (Nat.le_of_ble_eq_true rfl)
theorem getD_mid (m r : List Int) (x : Int) : (m ++ x :: r).getD m.length 0 = x := by
  rw [List.getD_eq_getElem?_getD, List.getElem?_append_right (Nat.le_refl _), Nat.sub_self]
  rfl
theorem sp_fitsSome {σ : xSig} {q a cap p : Nat} {w t L : List Int} (hq : isFi q) (hW : VH σ (q + 1) 72 w) (hw : Cv w) (hr : 0 ≤ σ q 2 ∧ σ q 2 ≤ 4) (hV : VH σ a cap t) (hP : PH σ p L) (hL : ∀ i ∈ L, 0 ≤ i ∧ i < t.length ∧ Cv (sv t i)) : Rd MX2_fitsSome [.ref q, .ref a, .ref p] σ (zv (L.any (ffit (σ q 2) w t))) := by
  have h24 := hP.2.2.1
  have loop : ∀ (r m : List Int), L = m ++ r → x_E MX2_fitsSome 0 0 2 [some (.ref q), some (.ref a), some (.ref p), some (.int (ii m.length))] [] (St σ) 0 0 (zv (r.any (ffit (σ q 2) w t))) (St σ) := by
    intro r
    induction r with
    | nil =>
      intro m hm
      have hl : L.length = m.length := by rw [hm]; simp
      refine e_iload_n 2 3 rfl rfl rfl rfl ?_
      refine e_aload_n 3 4 rfl rfl rfl rfl ?_
      refine g_callV 4 7 (sp_plSize hP) okX6_size cvX2_31 ⟨(Nat.le_of_ble_eq_true rfl), (Nat.le_of_ble_eq_true rfl)⟩ rfl rfl hP.1.1 hP.1.2.2.1 rfl rfl rfl rfl (Nat.le_of_ble_eq_true rfl) (Nat.le_of_ble_eq_true rfl) (Nat.le_of_ble_eq_true rfl) ?_
      refine e_icmp_ge 5 31 10 rfl rfl rfl (by unfold xr at *; omega) (by unfold xr at *; omega) (fun _ => ?_) (fun h9 => absurd h9 (by omega))
      rw [show ([] : List Int).any (ffit (σ q 2) w t) = false from rfl]
      refine e_iconst 17 32 rfl rfl ?_
      exact e_zreturn (x := 0) 18 rfl rfl (by omega) (Nat.le_of_ble_eq_true rfl) (Nat.le_of_ble_eq_true rfl)
    | cons x r ih =>
      intro m hm
      have hl : L.length = m.length + r.length + 1 := by rw [hm]; simp; omega
      have hx := hL x (by rw [hm]; simp)
      have hn := ih (m ++ [x]) (by rw [hm, app_s])
      rw [len_s] at hn
      have hat := sp_plAt hP (i := m.length) (by omega)
      rw [hm, getD_mid] at hat
      have hf := sp_fits hq hW hw hr hV ⟨hx.1, hx.2.1⟩ hx.2.2
      rw [List.any_cons]
      refine e_iload_n 2 3 rfl rfl rfl rfl ?_
      refine e_aload_n 3 4 rfl rfl rfl rfl ?_
      refine g_callV 4 7 (sp_plSize hP) okX6_size cvX2_31 ⟨(Nat.le_of_ble_eq_true rfl), (Nat.le_of_ble_eq_true rfl)⟩ rfl rfl hP.1.1 hP.1.2.2.1 rfl rfl rfl rfl (Nat.le_of_ble_eq_true rfl) (Nat.le_of_ble_eq_true rfl) (Nat.le_of_ble_eq_true rfl) ?_
      refine e_icmp_ge 5 31 10 rfl rfl rfl (by unfold xr at *; omega) (by unfold xr at *; omega) (fun h9 => absurd h9 (by omega)) (fun _ => ?_)
      refine e_aload_n 6 11 rfl rfl rfl rfl ?_
      refine e_aload_n 7 12 rfl rfl rfl rfl ?_
      refine e_aload_n 8 13 rfl rfl rfl rfl ?_
      refine e_iload_n 9 14 rfl rfl rfl rfl ?_
      refine g_callV 10 17 (hat) okX6_at cvX2_37 ⟨(Nat.le_of_ble_eq_true rfl), (Nat.le_of_ble_eq_true rfl)⟩ rfl rfl hP.1.1 hP.1.2.2.1 rfl rfl rfl rfl (Nat.le_of_ble_eq_true rfl) (Nat.le_of_ble_eq_true rfl) (Nat.le_of_ble_eq_true rfl) ?_
      refine g_callV 11 20 (hf) okX2_fits cvX2_41 ⟨(Nat.le_of_ble_eq_true rfl), (Nat.le_of_ble_eq_true rfl)⟩ rfl rfl hq.1 hq.2.1 rfl rfl rfl rfl (Nat.le_of_ble_eq_true rfl) (Nat.le_of_ble_eq_true rfl) (Nat.le_of_ble_eq_true rfl) ?_
      refine e_ifb_eq 12 25 23 rfl rfl rfl (fun h => ?_) (fun h => ?_)
      · skip
        rw [h, Bool.false_or]
        refine e_iinc 15 28 (ls' := [some _, some _, some _, some _]) rfl rfl (Nat.le_of_ble_eq_true rfl) rfl rfl ?_
        refine e_goto 16 2 rfl rfl ?_
        exact hn
      · skip
        rw [h, Bool.true_or]
        refine e_iconst 13 24 rfl rfl ?_
        exact e_zreturn (x := 1) 14 rfl rfl (by omega) (Nat.le_of_ble_eq_true rfl) (Nat.le_of_ble_eq_true rfl)
  refine e_entry okX2_fitsSome (Nat.le_of_ble_eq_true rfl) (ls := [some _, some _, some _, none]) rfl ?_
  refine e_iconst 0 1 rfl rfl ?_
  refine e_istore_n 1 2 (ls' := [some _, some _, some _, some _]) rfl rfl rfl (Nat.le_of_ble_eq_true rfl) rfl ?_
  exact loop L [] rfl
theorem sp_fitsNothing {σ : xSig} {q : Nat} {w : List Int} (hq : isFi q) (hW : VH σ (q + 1) 72 w) (hr : 0 ≤ σ q 2 ∧ σ q 2 ≤ 4) : Rd MX2_fitsNothing [.ref q] σ (zv (decide (σ q 2 = 0 ∧ tok w 0 = 9))) := by
  have hb := hW.bnd 0
  refine e_entry okX2_fitsNothing (Nat.le_of_ble_eq_true rfl) (ls := [some _]) rfl ?_
  refine e_aload_n 0 1 rfl rfl rfl rfl ?_
  refine g_getI 1 4 2 ckX2 flX2_24 rfl rfl hq.1 hq.2.1 rfl rfl rfl ?_
  refine e_if_ne 2 24 7 rfl rfl rfl (by unfold xr at *; omega) (fun h => ?_) (fun h => ?_)
  · skip
    rw [decide_eq_false (fun z => h z.1)]
    refine e_iconst 11 25 rfl rfl ?_
    exact e_zreturn (x := 0) 12 rfl rfl (by omega) (Nat.le_of_ble_eq_true rfl) (Nat.le_of_ble_eq_true rfl)
  · skip
    refine e_aload_n 3 8 rfl rfl rfl rfl ?_
    refine g_getR 4 11 ckX2 flX2_14 rfl rfl hq.1 hq.2.1 rfl ?_
    refine e_iconst 5 12 rfl rfl ?_
    refine g_callV 6 15 (sp_signAt hW xr_0) okX10_signAt cvX2_45 ⟨(Nat.le_of_ble_eq_true rfl), (Nat.le_of_ble_eq_true rfl)⟩ rfl rfl hW.1.1 hW.1.2.2.1 rfl rfl rfl rfl (Nat.le_of_ble_eq_true rfl) (Nat.le_of_ble_eq_true rfl) (Nat.le_of_ble_eq_true rfl) ?_
    refine e_bipush 7 17 rfl rfl rfl ?_
    refine e_icmp_ne 8 24 20 rfl rfl rfl (by unfold xr at *; omega) (by unfold xr at *; omega) (fun h2 => ?_) (fun h2 => ?_)
    · skip
      rw [decide_eq_false (fun z => h2 z.2)]
      refine e_iconst 11 25 rfl rfl ?_
      exact e_zreturn (x := 0) 12 rfl rfl (by omega) (Nat.le_of_ble_eq_true rfl) (Nat.le_of_ble_eq_true rfl)
    · skip
      rw [decide_eq_true ⟨h, h2⟩]
      refine e_iconst 9 21 rfl rfl ?_
      refine e_goto 10 25 rfl rfl ?_
      exact e_zreturn (x := 1) 12 rfl rfl (by omega) (Nat.le_of_ble_eq_true rfl) (Nat.le_of_ble_eq_true rfl)
theorem sp_isFor {σ : xSig} {q : Nat} (hq : isFi q) (hr : 0 ≤ σ q 2 ∧ σ q 2 ≤ 4) (hp : xr (σ q 1)) {x : Int} (hx : xr x) : Rd MX2_isFor [.ref q, .int (ii x)] σ (zv (decide (σ q 1 = x ∧ σ q 2 < 3))) := by
  unfold xr at hp hx
  refine e_entry okX2_isFor (Nat.le_of_ble_eq_true rfl) (ls := [some _, some _]) rfl ?_
  refine e_aload_n 0 1 rfl rfl rfl rfl ?_
  refine g_getI 1 4 1 ckX2 flX2_20 rfl rfl hq.1 hq.2.1 rfl rfl rfl ?_
  refine e_iload_n 2 5 rfl rfl rfl rfl ?_
  refine e_icmp_ne 3 35 8 rfl rfl rfl (by unfold xr at *; omega) (by unfold xr at *; omega) (fun h => ?_) (fun h => ?_)
  · skip
    rw [decide_eq_false (fun z => h z.1)]
    refine e_iconst 17 36 rfl rfl ?_
    exact e_zreturn (x := 0) 18 rfl rfl (by omega) (Nat.le_of_ble_eq_true rfl) (Nat.le_of_ble_eq_true rfl)
  · skip
    refine e_aload_n 4 9 rfl rfl rfl rfl ?_
    refine g_getI 5 12 2 ckX2 flX2_24 rfl rfl hq.1 hq.2.1 rfl rfl rfl ?_
    refine e_if_eq 6 31 15 rfl rfl rfl (by unfold xr at *; omega) (fun h2 => ?_) (fun h2 => ?_)
    · skip
      rw [decide_eq_true (by omega)]
      refine e_iconst 15 32 rfl rfl ?_
      refine e_goto 16 36 rfl rfl ?_
      exact e_zreturn (x := 1) 18 rfl rfl (by omega) (Nat.le_of_ble_eq_true rfl) (Nat.le_of_ble_eq_true rfl)
    · skip
      refine e_aload_n 7 16 rfl rfl rfl rfl ?_
      refine g_getI 8 19 2 ckX2 flX2_24 rfl rfl hq.1 hq.2.1 rfl rfl rfl ?_
      refine e_iconst 9 20 rfl rfl ?_
      refine e_icmp_eq 10 31 23 rfl rfl rfl (by unfold xr at *; omega) (by unfold xr at *; omega) (fun h3 => ?_) (fun h3 => ?_)
      · skip
        rw [decide_eq_true (by omega)]
        refine e_iconst 15 32 rfl rfl ?_
        refine e_goto 16 36 rfl rfl ?_
        exact e_zreturn (x := 1) 18 rfl rfl (by omega) (Nat.le_of_ble_eq_true rfl) (Nat.le_of_ble_eq_true rfl)
      · skip
        refine e_aload_n 11 24 rfl rfl rfl rfl ?_
        refine g_getI 12 27 2 ckX2 flX2_24 rfl rfl hq.1 hq.2.1 rfl rfl rfl ?_
        refine e_iconst 13 28 rfl rfl ?_
        refine e_icmp_ne 14 35 31 rfl rfl rfl (by unfold xr at *; omega) (by unfold xr at *; omega) (fun h4 => ?_) (fun h4 => ?_)
        · skip
          rw [decide_eq_false (by omega)]
          refine e_iconst 17 36 rfl rfl ?_
          exact e_zreturn (x := 0) 18 rfl rfl (by omega) (Nat.le_of_ble_eq_true rfl) (Nat.le_of_ble_eq_true rfl)
        · skip
          rw [decide_eq_true (by omega)]
          refine e_iconst 15 32 rfl rfl ?_
          refine e_goto 16 36 rfl rfl ?_
          exact e_zreturn (x := 1) 18 rfl rfl (by omega) (Nat.le_of_ble_eq_true rfl) (Nat.le_of_ble_eq_true rfl)
theorem sp_fShape {σ : xSig} {q : Nat} (hq : isFi q) : Rd MX2_shape [.ref q] σ (iv (σ q 1 * 5 + σ q 2 + 1)) := by
  refine e_entry okX2_shape (Nat.le_of_ble_eq_true rfl) (ls := [some _]) rfl ?_
  refine e_aload_n 0 1 rfl rfl rfl rfl ?_
  refine g_getI 1 4 1 ckX2 flX2_20 rfl rfl hq.1 hq.2.1 rfl rfl rfl ?_
  refine e_iconst 2 5 rfl rfl ?_
  refine e_imul 3 6 rfl rfl ?_
  refine e_aload_n 4 7 rfl rfl rfl rfl ?_
  refine g_getI 5 10 2 ckX2 flX2_24 rfl rfl hq.1 hq.2.1 rfl rfl rfl ?_
  refine e_iadd 6 11 rfl rfl ?_
  refine e_iconst 7 12 rfl rfl ?_
  refine e_iadd 8 13 rfl rfl ?_
  exact e_ireturn 9 rfl rfl (Nat.le_of_ble_eq_true rfl) (Nat.le_of_ble_eq_true rfl)
theorem sp_fBecome {σ : xSig} {T : Nat → List Int} (hA : VAll σ T) {q b : Nat} (hq : isFi q) (hb : vO b = true) (hne : b ≠ q + 1) (hl : (T b).length ≤ 72) {x y : Int} :
    ∃ σ' : xSig, x_Sp MX2_become 0 0 [.ref q, .int (ii x), .int (ii y), .ref b] (St σ) vv (St σ') ∧ VAll σ' (uT T (q + 1) (T b)) ∧ NV [] (xu (xu σ q 1 x) q 2 y) σ' := by
  have hv := hq.2.2.1
  have hA1 : VAll (xu (xu σ q 1 x) q 2 y) T := (hA.xu _ _ hq.2.2.2.2).xu _ _ hq.2.2.2.2
  obtain ⟨e1, e2⟩ := vO_apart hv hb hne
  obtain ⟨σ', h1, h2, h3⟩ := sp_becomeV (hA1 _ hv) (hA1 b hb) (by rw [hq.2.2.2.1]; exact hl) hne e1 e2
  refine ⟨σ', ?_, hA1.put hv h2 h3, h3.nv hv⟩
  refine e_entry okX2_become (Nat.le_of_ble_eq_true rfl) (ls := [some _, some _, some _, some _]) rfl ?_
  refine e_aload_n 0 1 rfl rfl rfl rfl ?_
  refine e_iload_n 1 2 rfl rfl rfl rfl ?_
  refine g_putI 2 5 1 ckX2 flX2_20 rfl rfl hq.1 hq.2.1 rfl rfl ?_
  refine e_aload_n 3 6 rfl rfl rfl rfl ?_
  refine e_iload_n 4 7 rfl rfl rfl rfl ?_
  refine g_putI 5 10 2 ckX2 flX2_24 rfl rfl hq.1 hq.2.1 rfl rfl ?_
  refine e_aload_n 6 11 rfl rfl rfl rfl ?_
  refine g_getR 7 14 ckX2 flX2_14 rfl rfl hq.1 hq.2.1 rfl ?_
  refine e_aload_n 8 15 rfl rfl rfl rfl ?_
  refine g_callV 9 18 (h1) okX10_become_ cvX2_27 ⟨(Nat.le_of_ble_eq_true rfl), (Nat.le_of_ble_eq_true rfl)⟩ rfl rfl (vO_val hv).1 (vO_val hv).2.2.1 rfl rfl rfl rfl (Nat.le_of_ble_eq_true rfl) (Nat.le_of_ble_eq_true rfl) (Nat.le_of_ble_eq_true rfl) ?_
  exact e_return 10 rfl rfl (Nat.le_of_ble_eq_true rfl) (Nat.le_of_ble_eq_true rfl)
end
