section
-- ===== PART A: goes FIRST, ahead of the names: the tables' words, and 'selects' of the private methods out of them =====
/-- a private method of a class that the tables say can be made, by its rows of tables_1 -/
def lw_okq (q : MethodName × Nat) : Prop := (q.1.cls ≠ "java/lang/invoke/MethodHandle" ∧ q.1.cls ≠ "java/lang/invoke/VarHandle") ∧ Cond.instantiable q.1.cls q.2 ∈ tables_1 ∧ Cond.privateMethod q.1 ∈ tables_1 ∧ Cond.instanceMethod q.1 ∈ tables_1
theorem lw_p0 : lw_okq (⟨"Bijectory$Realm", "listPaths", "()V"⟩, 6) := ⟨⟨by decide +kernel, by decide +kernel⟩, List.mem_of_getElem? (i := 76) (by decide +kernel), List.mem_of_getElem? (i := 110) (by decide +kernel), List.mem_of_getElem? (i := 111) (by decide +kernel)⟩
theorem lw_p1 : lw_okq (⟨"Bijectory$Realm", "listOrders", "()V"⟩, 6) := ⟨⟨by decide +kernel, by decide +kernel⟩, List.mem_of_getElem? (i := 76) (by decide +kernel), List.mem_of_getElem? (i := 123) (by decide +kernel), List.mem_of_getElem? (i := 124) (by decide +kernel)⟩
theorem lw_p2 : lw_okq (⟨"Bijectory$Realm", "listImages", "(I)V"⟩, 6) := ⟨⟨by decide +kernel, by decide +kernel⟩, List.mem_of_getElem? (i := 76) (by decide +kernel), List.mem_of_getElem? (i := 135) (by decide +kernel), List.mem_of_getElem? (i := 136) (by decide +kernel)⟩
theorem lw_p3 : lw_okq (⟨"Bijectory$Realm", "codes", "(I)[I"⟩, 6) := ⟨⟨by decide +kernel, by decide +kernel⟩, List.mem_of_getElem? (i := 76) (by decide +kernel), List.mem_of_getElem? (i := 147) (by decide +kernel), List.mem_of_getElem? (i := 148) (by decide +kernel)⟩
theorem lw_p4 : lw_okq (⟨"Bijectory$Realm", "listValues", "(II)V"⟩, 6) := ⟨⟨by decide +kernel, by decide +kernel⟩, List.mem_of_getElem? (i := 76) (by decide +kernel), List.mem_of_getElem? (i := 228) (by decide +kernel), List.mem_of_getElem? (i := 229) (by decide +kernel)⟩
theorem lw_p5 : lw_okq (⟨"Bijectory", "digestOfObjects", "(J)J"⟩, 11) := ⟨⟨by decide +kernel, by decide +kernel⟩, List.mem_of_getElem? (i := 34) (by decide +kernel), List.mem_of_getElem? (i := 313) (by decide +kernel), List.mem_of_getElem? (i := 314) (by decide +kernel)⟩
theorem lw_p6 : lw_okq (⟨"java/lang/Throwable", "fillInStackTrace", "(I)Ljava/lang/Throwable;"⟩, 6) := ⟨⟨by decide +kernel, by decide +kernel⟩, List.mem_of_getElem? (i := 360) (by decide +kernel), List.mem_of_getElem? (i := 358) (by decide +kernel), List.mem_of_getElem? (i := 359) (by decide +kernel)⟩
theorem lw_p7 : lw_okq (⟨"Bijectory", "refutedClaims", "()I"⟩, 11) := ⟨⟨by decide +kernel, by decide +kernel⟩, List.mem_of_getElem? (i := 34) (by decide +kernel), List.mem_of_getElem? (i := 390) (by decide +kernel), List.mem_of_getElem? (i := 391) (by decide +kernel)⟩
theorem lw_p8 : lw_okq (⟨"Bijectory", "claimAt", "(I)LBijectory$Claim;"⟩, 11) := ⟨⟨by decide +kernel, by decide +kernel⟩, List.mem_of_getElem? (i := 34) (by decide +kernel), List.mem_of_getElem? (i := 394) (by decide +kernel), List.mem_of_getElem? (i := 395) (by decide +kernel)⟩
theorem lw_p9 : lw_okq (⟨"Bijectory", "digestOfMap", "(JI)J"⟩, 11) := ⟨⟨by decide +kernel, by decide +kernel⟩, List.mem_of_getElem? (i := 34) (by decide +kernel), List.mem_of_getElem? (i := 438) (by decide +kernel), List.mem_of_getElem? (i := 439) (by decide +kernel)⟩
theorem lw_p10 : lw_okq (⟨"Bijectory", "chartAt", "(I)LBijectory$Chart;"⟩, 11) := ⟨⟨by decide +kernel, by decide +kernel⟩, List.mem_of_getElem? (i := 34) (by decide +kernel), List.mem_of_getElem? (i := 446) (by decide +kernel), List.mem_of_getElem? (i := 447) (by decide +kernel)⟩
theorem lw_p11 : lw_okq (⟨"Bijectory$Survey", "countDistinct", "(I)I"⟩, 2) := ⟨⟨by decide +kernel, by decide +kernel⟩, List.mem_of_getElem? (i := 44) (by decide +kernel), List.mem_of_getElem? (i := 466) (by decide +kernel), List.mem_of_getElem? (i := 467) (by decide +kernel)⟩
theorem lw_p12 : lw_okq (⟨"Bijectory$Survey", "forget", "()V"⟩, 2) := ⟨⟨by decide +kernel, by decide +kernel⟩, List.mem_of_getElem? (i := 44) (by decide +kernel), List.mem_of_getElem? (i := 470) (by decide +kernel), List.mem_of_getElem? (i := 471) (by decide +kernel)⟩
theorem lw_p13 : lw_okq (⟨"Bijectory$Survey", "meet", "(I)Z"⟩, 2) := ⟨⟨by decide +kernel, by decide +kernel⟩, List.mem_of_getElem? (i := 44) (by decide +kernel), List.mem_of_getElem? (i := 474) (by decide +kernel), List.mem_of_getElem? (i := 475) (by decide +kernel)⟩
theorem lw_p14 : lw_okq (⟨"Bijectory$Survey", "countUnmoved", "(I)I"⟩, 2) := ⟨⟨by decide +kernel, by decide +kernel⟩, List.mem_of_getElem? (i := 44) (by decide +kernel), List.mem_of_getElem? (i := 482) (by decide +kernel), List.mem_of_getElem? (i := 483) (by decide +kernel)⟩
theorem lw_p15 : lw_okq (⟨"Bijectory$Survey", "followRounds", "(LBijectory$Chart;I)V"⟩, 2) := ⟨⟨by decide +kernel, by decide +kernel⟩, List.mem_of_getElem? (i := 44) (by decide +kernel), List.mem_of_getElem? (i := 487) (by decide +kernel), List.mem_of_getElem? (i := 488) (by decide +kernel)⟩
def lw_privs_1 : List (MethodName × Nat) := [(⟨"Bijectory$Realm", "listPaths", "()V"⟩, 6), (⟨"Bijectory$Realm", "listOrders", "()V"⟩, 6), (⟨"Bijectory$Realm", "listImages", "(I)V"⟩, 6), (⟨"Bijectory$Realm", "codes", "(I)[I"⟩, 6), (⟨"Bijectory$Realm", "listValues", "(II)V"⟩, 6), (⟨"Bijectory", "digestOfObjects", "(J)J"⟩, 11), (⟨"java/lang/Throwable", "fillInStackTrace", "(I)Ljava/lang/Throwable;"⟩, 6), (⟨"Bijectory", "refutedClaims", "()I"⟩, 11), (⟨"Bijectory", "claimAt", "(I)LBijectory$Claim;"⟩, 11), (⟨"Bijectory", "digestOfMap", "(JI)J"⟩, 11), (⟨"Bijectory", "chartAt", "(I)LBijectory$Chart;"⟩, 11), (⟨"Bijectory$Survey", "countDistinct", "(I)I"⟩, 2), (⟨"Bijectory$Survey", "forget", "()V"⟩, 2), (⟨"Bijectory$Survey", "meet", "(I)Z"⟩, 2), (⟨"Bijectory$Survey", "countUnmoved", "(I)I"⟩, 2), (⟨"Bijectory$Survey", "followRounds", "(LBijectory$Chart;I)V"⟩, 2)]
theorem lw_r1 : ∀ q ∈ lw_privs_1, lw_okq q := List.forall_mem_cons.mpr ⟨lw_p0, List.forall_mem_cons.mpr ⟨lw_p1, List.forall_mem_cons.mpr ⟨lw_p2, List.forall_mem_cons.mpr ⟨lw_p3, List.forall_mem_cons.mpr ⟨lw_p4, List.forall_mem_cons.mpr ⟨lw_p5, List.forall_mem_cons.mpr ⟨lw_p6, List.forall_mem_cons.mpr ⟨lw_p7, List.forall_mem_cons.mpr ⟨lw_p8, List.forall_mem_cons.mpr ⟨lw_p9, List.forall_mem_cons.mpr ⟨lw_p10, List.forall_mem_cons.mpr ⟨lw_p11, List.forall_mem_cons.mpr ⟨lw_p12, List.forall_mem_cons.mpr ⟨lw_p13, List.forall_mem_cons.mpr ⟨lw_p14, List.forall_mem_cons.mpr ⟨lw_p15, fun _ h => absurd h List.not_mem_nil⟩⟩⟩⟩⟩⟩⟩⟩⟩⟩⟩⟩⟩⟩⟩⟩
theorem lw_p16 : lw_okq (⟨"Bijectory$Survey", "roundLength", "(II)I"⟩, 2) := ⟨⟨by decide +kernel, by decide +kernel⟩, List.mem_of_getElem? (i := 44) (by decide +kernel), List.mem_of_getElem? (i := 491) (by decide +kernel), List.mem_of_getElem? (i := 492) (by decide +kernel)⟩
theorem lw_p17 : lw_okq (⟨"Bijectory", "needRank", "(II)V"⟩, 11) := ⟨⟨by decide +kernel, by decide +kernel⟩, List.mem_of_getElem? (i := 34) (by decide +kernel), List.mem_of_getElem? (i := 502) (by decide +kernel), List.mem_of_getElem? (i := 503) (by decide +kernel)⟩
theorem lw_p18 : lw_okq (⟨"Bijectory", "firstAgainst", "(LBijectory$Chart;II)I"⟩, 11) := ⟨⟨by decide +kernel, by decide +kernel⟩, List.mem_of_getElem? (i := 34) (by decide +kernel), List.mem_of_getElem? (i := 520) (by decide +kernel), List.mem_of_getElem? (i := 521) (by decide +kernel)⟩
theorem lw_p19 : lw_okq (⟨"Bijectory", "walkerAt", "(I)LBijectory$Walker;"⟩, 11) := ⟨⟨by decide +kernel, by decide +kernel⟩, List.mem_of_getElem? (i := 34) (by decide +kernel), List.mem_of_getElem? (i := 532) (by decide +kernel), List.mem_of_getElem? (i := 533) (by decide +kernel)⟩
theorem lw_p20 : lw_okq (⟨"Bijectory", "tryClaim", "(LBijectory$Claim;LBijectory$Chart;)Z"⟩, 11) := ⟨⟨by decide +kernel, by decide +kernel⟩, List.mem_of_getElem? (i := 34) (by decide +kernel), List.mem_of_getElem? (i := 730) (by decide +kernel), List.mem_of_getElem? (i := 731) (by decide +kernel)⟩
theorem lw_p21 : lw_okq (⟨"Bijectory", "isPairedOff", "(LBijectory$Chart;II)Z"⟩, 11) := ⟨⟨by decide +kernel, by decide +kernel⟩, List.mem_of_getElem? (i := 34) (by decide +kernel), List.mem_of_getElem? (i := 870) (by decide +kernel), List.mem_of_getElem? (i := 871) (by decide +kernel)⟩
theorem lw_p22 : lw_okq (⟨"BijectoryModel", "grow", "(I)V"⟩, 11) := ⟨⟨by decide +kernel, by decide +kernel⟩, List.mem_of_getElem? (i := 893) (by decide +kernel), List.mem_of_getElem? (i := 929) (by decide +kernel), List.mem_of_getElem? (i := 930) (by decide +kernel)⟩
theorem lw_p23 : lw_okq (⟨"BijectoryModel", "fill", "(II[I)V"⟩, 11) := ⟨⟨by decide +kernel, by decide +kernel⟩, List.mem_of_getElem? (i := 893) (by decide +kernel), List.mem_of_getElem? (i := 939) (by decide +kernel), List.mem_of_getElem? (i := 940) (by decide +kernel)⟩
theorem lw_p24 : lw_okq (⟨"BijectoryModel", "start", "(ZI)Z"⟩, 11) := ⟨⟨by decide +kernel, by decide +kernel⟩, List.mem_of_getElem? (i := 893) (by decide +kernel), List.mem_of_getElem? (i := 988) (by decide +kernel), List.mem_of_getElem? (i := 989) (by decide +kernel)⟩
theorem lw_p25 : lw_okq (⟨"BijectoryModel", "refuse", "(ZI)Z"⟩, 11) := ⟨⟨by decide +kernel, by decide +kernel⟩, List.mem_of_getElem? (i := 893) (by decide +kernel), List.mem_of_getElem? (i := 992) (by decide +kernel), List.mem_of_getElem? (i := 993) (by decide +kernel)⟩
theorem lw_p26 : lw_okq (⟨"java/util/ArrayList", "add", "(Ljava/lang/Object;[Ljava/lang/Object;I)V"⟩, 3) := ⟨⟨by decide +kernel, by decide +kernel⟩, List.mem_of_getElem? (i := 900) (by decide +kernel), List.mem_of_getElem? (i := 1032) (by decide +kernel), List.mem_of_getElem? (i := 1033) (by decide +kernel)⟩
theorem lw_p27 : lw_okq (⟨"java/util/ArrayList", "grow", "()[Ljava/lang/Object;"⟩, 3) := ⟨⟨by decide +kernel, by decide +kernel⟩, List.mem_of_getElem? (i := 900) (by decide +kernel), List.mem_of_getElem? (i := 1036) (by decide +kernel), List.mem_of_getElem? (i := 1037) (by decide +kernel)⟩
theorem lw_p28 : lw_okq (⟨"java/util/ArrayList", "grow", "(I)[Ljava/lang/Object;"⟩, 3) := ⟨⟨by decide +kernel, by decide +kernel⟩, List.mem_of_getElem? (i := 900) (by decide +kernel), List.mem_of_getElem? (i := 1040) (by decide +kernel), List.mem_of_getElem? (i := 1041) (by decide +kernel)⟩
theorem lw_p29 : lw_okq (⟨"BijectoryModel", "isNoMap", "(I)Z"⟩, 11) := ⟨⟨by decide +kernel, by decide +kernel⟩, List.mem_of_getElem? (i := 893) (by decide +kernel), List.mem_of_getElem? (i := 1090) (by decide +kernel), List.mem_of_getElem? (i := 1091) (by decide +kernel)⟩
theorem lw_p30 : lw_okq (⟨"BijectoryModel", "isClaimed", "(I)Z"⟩, 11) := ⟨⟨by decide +kernel, by decide +kernel⟩, List.mem_of_getElem? (i := 893) (by decide +kernel), List.mem_of_getElem? (i := 1108) (by decide +kernel), List.mem_of_getElem? (i := 1109) (by decide +kernel)⟩
theorem lw_p31 : lw_okq (⟨"BijectoryModel", "to", "(I)I"⟩, 11) := ⟨⟨by decide +kernel, by decide +kernel⟩, List.mem_of_getElem? (i := 893) (by decide +kernel), List.mem_of_getElem? (i := 1161) (by decide +kernel), List.mem_of_getElem? (i := 1162) (by decide +kernel)⟩
def lw_privs_2 : List (MethodName × Nat) := [(⟨"Bijectory$Survey", "roundLength", "(II)I"⟩, 2), (⟨"Bijectory", "needRank", "(II)V"⟩, 11), (⟨"Bijectory", "firstAgainst", "(LBijectory$Chart;II)I"⟩, 11), (⟨"Bijectory", "walkerAt", "(I)LBijectory$Walker;"⟩, 11), (⟨"Bijectory", "tryClaim", "(LBijectory$Claim;LBijectory$Chart;)Z"⟩, 11), (⟨"Bijectory", "isPairedOff", "(LBijectory$Chart;II)Z"⟩, 11), (⟨"BijectoryModel", "grow", "(I)V"⟩, 11), (⟨"BijectoryModel", "fill", "(II[I)V"⟩, 11), (⟨"BijectoryModel", "start", "(ZI)Z"⟩, 11), (⟨"BijectoryModel", "refuse", "(ZI)Z"⟩, 11), (⟨"java/util/ArrayList", "add", "(Ljava/lang/Object;[Ljava/lang/Object;I)V"⟩, 3), (⟨"java/util/ArrayList", "grow", "()[Ljava/lang/Object;"⟩, 3), (⟨"java/util/ArrayList", "grow", "(I)[Ljava/lang/Object;"⟩, 3), (⟨"BijectoryModel", "isNoMap", "(I)Z"⟩, 11), (⟨"BijectoryModel", "isClaimed", "(I)Z"⟩, 11), (⟨"BijectoryModel", "to", "(I)I"⟩, 11)]
theorem lw_r2 : ∀ q ∈ lw_privs_2, lw_okq q := List.forall_mem_cons.mpr ⟨lw_p16, List.forall_mem_cons.mpr ⟨lw_p17, List.forall_mem_cons.mpr ⟨lw_p18, List.forall_mem_cons.mpr ⟨lw_p19, List.forall_mem_cons.mpr ⟨lw_p20, List.forall_mem_cons.mpr ⟨lw_p21, List.forall_mem_cons.mpr ⟨lw_p22, List.forall_mem_cons.mpr ⟨lw_p23, List.forall_mem_cons.mpr ⟨lw_p24, List.forall_mem_cons.mpr ⟨lw_p25, List.forall_mem_cons.mpr ⟨lw_p26, List.forall_mem_cons.mpr ⟨lw_p27, List.forall_mem_cons.mpr ⟨lw_p28, List.forall_mem_cons.mpr ⟨lw_p29, List.forall_mem_cons.mpr ⟨lw_p30, List.forall_mem_cons.mpr ⟨lw_p31, fun _ h => absurd h List.not_mem_nil⟩⟩⟩⟩⟩⟩⟩⟩⟩⟩⟩⟩⟩⟩⟩⟩
theorem lw_p32 : lw_okq (⟨"BijectoryModel", "index", "(II)I"⟩, 11) := ⟨⟨by decide +kernel, by decide +kernel⟩, List.mem_of_getElem? (i := 893) (by decide +kernel), List.mem_of_getElem? (i := 1179) (by decide +kernel), List.mem_of_getElem? (i := 1180) (by decide +kernel)⟩
theorem lw_p33 : lw_okq (⟨"BijectoryModel", "isTried", "(LBijectoryModel$Claim;)Z"⟩, 11) := ⟨⟨by decide +kernel, by decide +kernel⟩, List.mem_of_getElem? (i := 893) (by decide +kernel), List.mem_of_getElem? (i := 1243) (by decide +kernel), List.mem_of_getElem? (i := 1244) (by decide +kernel)⟩
theorem lw_p34 : lw_okq (⟨"BijectoryModel", "againstNow", "(III)I"⟩, 11) := ⟨⟨by decide +kernel, by decide +kernel⟩, List.mem_of_getElem? (i := 893) (by decide +kernel), List.mem_of_getElem? (i := 1247) (by decide +kernel), List.mem_of_getElem? (i := 1248) (by decide +kernel)⟩
theorem lw_p35 : lw_okq (⟨"BijectoryModel", "from", "(I)I"⟩, 11) := ⟨⟨by decide +kernel, by decide +kernel⟩, List.mem_of_getElem? (i := 893) (by decide +kernel), List.mem_of_getElem? (i := 1251) (by decide +kernel), List.mem_of_getElem? (i := 1252) (by decide +kernel)⟩
theorem lw_p36 : lw_okq (⟨"BijectoryModel", "statisticOf", "(III)I"⟩, 11) := ⟨⟨by decide +kernel, by decide +kernel⟩, List.mem_of_getElem? (i := 893) (by decide +kernel), List.mem_of_getElem? (i := 1255) (by decide +kernel), List.mem_of_getElem? (i := 1256) (by decide +kernel)⟩
theorem lw_p37 : lw_okq (⟨"BijectoryModel", "ofPath", "(II)I"⟩, 11) := ⟨⟨by decide +kernel, by decide +kernel⟩, List.mem_of_getElem? (i := 893) (by decide +kernel), List.mem_of_getElem? (i := 1259) (by decide +kernel), List.mem_of_getElem? (i := 1260) (by decide +kernel)⟩
theorem lw_p38 : lw_okq (⟨"BijectoryModel", "ofOrder", "(II)I"⟩, 11) := ⟨⟨by decide +kernel, by decide +kernel⟩, List.mem_of_getElem? (i := 893) (by decide +kernel), List.mem_of_getElem? (i := 1273) (by decide +kernel), List.mem_of_getElem? (i := 1274) (by decide +kernel)⟩
theorem lw_p39 : lw_okq (⟨"BijectoryModel", "read", "(I)V"⟩, 11) := ⟨⟨by decide +kernel, by decide +kernel⟩, List.mem_of_getElem? (i := 893) (by decide +kernel), List.mem_of_getElem? (i := 1277) (by decide +kernel), List.mem_of_getElem? (i := 1278) (by decide +kernel)⟩
theorem lw_p40 : lw_okq (⟨"BijectoryModel", "imageOf", "(II)I"⟩, 11) := ⟨⟨by decide +kernel, by decide +kernel⟩, List.mem_of_getElem? (i := 893) (by decide +kernel), List.mem_of_getElem? (i := 1281) (by decide +kernel), List.mem_of_getElem? (i := 1282) (by decide +kernel)⟩
theorem lw_p41 : lw_okq (⟨"BijectoryModel", "step", "(II)I"⟩, 11) := ⟨⟨by decide +kernel, by decide +kernel⟩, List.mem_of_getElem? (i := 893) (by decide +kernel), List.mem_of_getElem? (i := 1285) (by decide +kernel), List.mem_of_getElem? (i := 1286) (by decide +kernel)⟩
theorem lw_p42 : lw_okq (⟨"BijectoryModel", "shape", "(II)I"⟩, 11) := ⟨⟨by decide +kernel, by decide +kernel⟩, List.mem_of_getElem? (i := 893) (by decide +kernel), List.mem_of_getElem? (i := 1313) (by decide +kernel), List.mem_of_getElem? (i := 1314) (by decide +kernel)⟩
theorem lw_p43 : lw_okq (⟨"BijectoryModel", "invert", "(I)I"⟩, 11) := ⟨⟨by decide +kernel, by decide +kernel⟩, List.mem_of_getElem? (i := 893) (by decide +kernel), List.mem_of_getElem? (i := 1317) (by decide +kernel), List.mem_of_getElem? (i := 1318) (by decide +kernel)⟩
theorem lw_p44 : lw_okq (⟨"BijectoryModel", "written", "()I"⟩, 11) := ⟨⟨by decide +kernel, by decide +kernel⟩, List.mem_of_getElem? (i := 893) (by decide +kernel), List.mem_of_getElem? (i := 1321) (by decide +kernel), List.mem_of_getElem? (i := 1322) (by decide +kernel)⟩
theorem lw_p45 : lw_okq (⟨"BijectoryModel", "turn", "(I)I"⟩, 11) := ⟨⟨by decide +kernel, by decide +kernel⟩, List.mem_of_getElem? (i := 893) (by decide +kernel), List.mem_of_getElem? (i := 1325) (by decide +kernel), List.mem_of_getElem? (i := 1326) (by decide +kernel)⟩
theorem lw_p46 : lw_okq (⟨"BijectoryModel", "sort", "(I)I"⟩, 11) := ⟨⟨by decide +kernel, by decide +kernel⟩, List.mem_of_getElem? (i := 893) (by decide +kernel), List.mem_of_getElem? (i := 1329) (by decide +kernel), List.mem_of_getElem? (i := 1330) (by decide +kernel)⟩
theorem lw_p47 : lw_okq (⟨"BijectoryModel", "isMove", "(I)Z"⟩, 11) := ⟨⟨by decide +kernel, by decide +kernel⟩, List.mem_of_getElem? (i := 893) (by decide +kernel), List.mem_of_getElem? (i := 1337) (by decide +kernel), List.mem_of_getElem? (i := 1338) (by decide +kernel)⟩
def lw_privs_3 : List (MethodName × Nat) := [(⟨"BijectoryModel", "index", "(II)I"⟩, 11), (⟨"BijectoryModel", "isTried", "(LBijectoryModel$Claim;)Z"⟩, 11), (⟨"BijectoryModel", "againstNow", "(III)I"⟩, 11), (⟨"BijectoryModel", "from", "(I)I"⟩, 11), (⟨"BijectoryModel", "statisticOf", "(III)I"⟩, 11), (⟨"BijectoryModel", "ofPath", "(II)I"⟩, 11), (⟨"BijectoryModel", "ofOrder", "(II)I"⟩, 11), (⟨"BijectoryModel", "read", "(I)V"⟩, 11), (⟨"BijectoryModel", "imageOf", "(II)I"⟩, 11), (⟨"BijectoryModel", "step", "(II)I"⟩, 11), (⟨"BijectoryModel", "shape", "(II)I"⟩, 11), (⟨"BijectoryModel", "invert", "(I)I"⟩, 11), (⟨"BijectoryModel", "written", "()I"⟩, 11), (⟨"BijectoryModel", "turn", "(I)I"⟩, 11), (⟨"BijectoryModel", "sort", "(I)I"⟩, 11), (⟨"BijectoryModel", "isMove", "(I)Z"⟩, 11)]
theorem lw_r3 : ∀ q ∈ lw_privs_3, lw_okq q := List.forall_mem_cons.mpr ⟨lw_p32, List.forall_mem_cons.mpr ⟨lw_p33, List.forall_mem_cons.mpr ⟨lw_p34, List.forall_mem_cons.mpr ⟨lw_p35, List.forall_mem_cons.mpr ⟨lw_p36, List.forall_mem_cons.mpr ⟨lw_p37, List.forall_mem_cons.mpr ⟨lw_p38, List.forall_mem_cons.mpr ⟨lw_p39, List.forall_mem_cons.mpr ⟨lw_p40, List.forall_mem_cons.mpr ⟨lw_p41, List.forall_mem_cons.mpr ⟨lw_p42, List.forall_mem_cons.mpr ⟨lw_p43, List.forall_mem_cons.mpr ⟨lw_p44, List.forall_mem_cons.mpr ⟨lw_p45, List.forall_mem_cons.mpr ⟨lw_p46, List.forall_mem_cons.mpr ⟨lw_p47, fun _ h => absurd h List.not_mem_nil⟩⟩⟩⟩⟩⟩⟩⟩⟩⟩⟩⟩⟩⟩⟩⟩
theorem lw_p48 : lw_okq (⟨"BijectoryModel", "isNoRank", "(II)Z"⟩, 11) := ⟨⟨by decide +kernel, by decide +kernel⟩, List.mem_of_getElem? (i := 893) (by decide +kernel), List.mem_of_getElem? (i := 1353) (by decide +kernel), List.mem_of_getElem? (i := 1354) (by decide +kernel)⟩
theorem lw_p49 : lw_okq (⟨"BijectoryModel", "statistics", "(II)[I"⟩, 11) := ⟨⟨by decide +kernel, by decide +kernel⟩, List.mem_of_getElem? (i := 893) (by decide +kernel), List.mem_of_getElem? (i := 1369) (by decide +kernel), List.mem_of_getElem? (i := 1370) (by decide +kernel)⟩
theorem lw_p50 : lw_okq (⟨"BijectoryModel", "signsNow", "(II)I"⟩, 11) := ⟨⟨by decide +kernel, by decide +kernel⟩, List.mem_of_getElem? (i := 893) (by decide +kernel), List.mem_of_getElem? (i := 1377) (by decide +kernel), List.mem_of_getElem? (i := 1378) (by decide +kernel)⟩
theorem lw_p51 : lw_okq (⟨"BijectoryModel", "isLike", "(III)Z"⟩, 11) := ⟨⟨by decide +kernel, by decide +kernel⟩, List.mem_of_getElem? (i := 893) (by decide +kernel), List.mem_of_getElem? (i := 1399) (by decide +kernel), List.mem_of_getElem? (i := 1400) (by decide +kernel)⟩
theorem lw_p52 : lw_okq (⟨"BijectoryModel", "sortedNow", "(I)I"⟩, 11) := ⟨⟨by decide +kernel, by decide +kernel⟩, List.mem_of_getElem? (i := 893) (by decide +kernel), List.mem_of_getElem? (i := 1407) (by decide +kernel), List.mem_of_getElem? (i := 1408) (by decide +kernel)⟩
theorem lw_p53 : lw_okq (⟨"BijectoryModel", "images", "(I)[I"⟩, 11) := ⟨⟨by decide +kernel, by decide +kernel⟩, List.mem_of_getElem? (i := 893) (by decide +kernel), List.mem_of_getElem? (i := 1415) (by decide +kernel), List.mem_of_getElem? (i := 1416) (by decide +kernel)⟩
theorem lw_p54 : lw_okq (⟨"BijectoryModel", "ofMapNow", "(II[I)I"⟩, 11) := ⟨⟨by decide +kernel, by decide +kernel⟩, List.mem_of_getElem? (i := 893) (by decide +kernel), List.mem_of_getElem? (i := 1419) (by decide +kernel), List.mem_of_getElem? (i := 1420) (by decide +kernel)⟩
theorem lw_p55 : lw_okq (⟨"BijectoryModel", "unlike", "(I[I)I"⟩, 11) := ⟨⟨by decide +kernel, by decide +kernel⟩, List.mem_of_getElem? (i := 893) (by decide +kernel), List.mem_of_getElem? (i := 1423) (by decide +kernel), List.mem_of_getElem? (i := 1424) (by decide +kernel)⟩
theorem lw_p56 : lw_okq (⟨"BijectoryModel", "fixed", "(I[I)I"⟩, 11) := ⟨⟨by decide +kernel, by decide +kernel⟩, List.mem_of_getElem? (i := 893) (by decide +kernel), List.mem_of_getElem? (i := 1427) (by decide +kernel), List.mem_of_getElem? (i := 1428) (by decide +kernel)⟩
theorem lw_p57 : lw_okq (⟨"BijectoryModel", "rounds", "(II[I)J"⟩, 11) := ⟨⟨by decide +kernel, by decide +kernel⟩, List.mem_of_getElem? (i := 893) (by decide +kernel), List.mem_of_getElem? (i := 1443) (by decide +kernel), List.mem_of_getElem? (i := 1444) (by decide +kernel)⟩
theorem lw_p58 : lw_okq (⟨"BijectoryModel", "isPerfect", "(I[I)Z"⟩, 11) := ⟨⟨by decide +kernel, by decide +kernel⟩, List.mem_of_getElem? (i := 893) (by decide +kernel), List.mem_of_getElem? (i := 1447) (by decide +kernel), List.mem_of_getElem? (i := 1448) (by decide +kernel)⟩
theorem lw_p59 : lw_okq (⟨"BijectoryModel", "ofWalkerNow", "(LBijectoryModel$Walker;I)I"⟩, 11) := ⟨⟨by decide +kernel, by decide +kernel⟩, List.mem_of_getElem? (i := 893) (by decide +kernel), List.mem_of_getElem? (i := 1471) (by decide +kernel), List.mem_of_getElem? (i := 1472) (by decide +kernel)⟩
theorem lw_p60 : lw_okq (⟨"BijectoryModel", "ofClaimNow", "(LBijectoryModel$Claim;I)I"⟩, 11) := ⟨⟨by decide +kernel, by decide +kernel⟩, List.mem_of_getElem? (i := 893) (by decide +kernel), List.mem_of_getElem? (i := 1479) (by decide +kernel), List.mem_of_getElem? (i := 1480) (by decide +kernel)⟩
theorem lw_p61 : lw_okq (⟨"BijectoryModel", "manyNow", "(I)I"⟩, 11) := ⟨⟨by decide +kernel, by decide +kernel⟩, List.mem_of_getElem? (i := 893) (by decide +kernel), List.mem_of_getElem? (i := 1487) (by decide +kernel), List.mem_of_getElem? (i := 1488) (by decide +kernel)⟩
theorem lw_p62 : lw_okq (⟨"BijectoryModel", "refuted", "()I"⟩, 11) := ⟨⟨by decide +kernel, by decide +kernel⟩, List.mem_of_getElem? (i := 893) (by decide +kernel), List.mem_of_getElem? (i := 1491) (by decide +kernel), List.mem_of_getElem? (i := 1492) (by decide +kernel)⟩
theorem lw_p63 : lw_okq (⟨"BijectoryModel", "digestMap", "(JI)J"⟩, 11) := ⟨⟨by decide +kernel, by decide +kernel⟩, List.mem_of_getElem? (i := 893) (by decide +kernel), List.mem_of_getElem? (i := 1508) (by decide +kernel), List.mem_of_getElem? (i := 1509) (by decide +kernel)⟩
def lw_privs_4 : List (MethodName × Nat) := [(⟨"BijectoryModel", "isNoRank", "(II)Z"⟩, 11), (⟨"BijectoryModel", "statistics", "(II)[I"⟩, 11), (⟨"BijectoryModel", "signsNow", "(II)I"⟩, 11), (⟨"BijectoryModel", "isLike", "(III)Z"⟩, 11), (⟨"BijectoryModel", "sortedNow", "(I)I"⟩, 11), (⟨"BijectoryModel", "images", "(I)[I"⟩, 11), (⟨"BijectoryModel", "ofMapNow", "(II[I)I"⟩, 11), (⟨"BijectoryModel", "unlike", "(I[I)I"⟩, 11), (⟨"BijectoryModel", "fixed", "(I[I)I"⟩, 11), (⟨"BijectoryModel", "rounds", "(II[I)J"⟩, 11), (⟨"BijectoryModel", "isPerfect", "(I[I)Z"⟩, 11), (⟨"BijectoryModel", "ofWalkerNow", "(LBijectoryModel$Walker;I)I"⟩, 11), (⟨"BijectoryModel", "ofClaimNow", "(LBijectoryModel$Claim;I)I"⟩, 11), (⟨"BijectoryModel", "manyNow", "(I)I"⟩, 11), (⟨"BijectoryModel", "refuted", "()I"⟩, 11), (⟨"BijectoryModel", "digestMap", "(JI)J"⟩, 11)]
theorem lw_r4 : ∀ q ∈ lw_privs_4, lw_okq q := List.forall_mem_cons.mpr ⟨lw_p48, List.forall_mem_cons.mpr ⟨lw_p49, List.forall_mem_cons.mpr ⟨lw_p50, List.forall_mem_cons.mpr ⟨lw_p51, List.forall_mem_cons.mpr ⟨lw_p52, List.forall_mem_cons.mpr ⟨lw_p53, List.forall_mem_cons.mpr ⟨lw_p54, List.forall_mem_cons.mpr ⟨lw_p55, List.forall_mem_cons.mpr ⟨lw_p56, List.forall_mem_cons.mpr ⟨lw_p57, List.forall_mem_cons.mpr ⟨lw_p58, List.forall_mem_cons.mpr ⟨lw_p59, List.forall_mem_cons.mpr ⟨lw_p60, List.forall_mem_cons.mpr ⟨lw_p61, List.forall_mem_cons.mpr ⟨lw_p62, List.forall_mem_cons.mpr ⟨lw_p63, fun _ h => absurd h List.not_mem_nil⟩⟩⟩⟩⟩⟩⟩⟩⟩⟩⟩⟩⟩⟩⟩⟩
def lw_privs : List (MethodName × Nat) := lw_privs_1 ++ (lw_privs_2 ++ (lw_privs_3 ++ (lw_privs_4)))
def lw_tbl : List Cond := k2_sels lw_privs ++ tables_1
theorem lw_privs_ok : ∀ q ∈ lw_privs, lw_okq q := by
  show ∀ q ∈ lw_privs_1 ++ (lw_privs_2 ++ (lw_privs_3 ++ (lw_privs_4))), lw_okq q
  exact List.forall_mem_append.mpr ⟨lw_r1, List.forall_mem_append.mpr ⟨lw_r2, List.forall_mem_append.mpr ⟨lw_r3, lw_r4⟩⟩⟩
/-- the streams that the claim lets the run draw from -/
abbrev lw_cs : List Choice := [Jvm.Choice.named "NaN.bits"]
theorem lw_bits : nanBits ∈ lw_cs := by first | decide | exact List.mem_cons_self | simp [lw_cs, nanBits]
end
section
/-! ===== BEGIN words of one list among another's, by their places ===== -/
theorem goodIn_r {big : List Cond} (ws : List Cond) (ps : List Nat) (hp : ws = ps.filterMap (fun i => big[i]?)) (h : ws.all goodWord = true) : GoodIn big ws := by
  intro w hw
  have h1 := List.all_eq_true.mp h w hw
  rw [hp] at hw
  obtain ⟨i, -, hi⟩ := List.mem_filterMap.mp hw
  have hm : w ∈ big := by first | exact List.mem_of_getElem? hi | exact List.getElem?_mem hi
  exact ⟨hm, good_of_word h1⟩
theorem goodIn_app {big a b : List Cond} (ha : GoodIn big a) (hb : GoodIn big b) : GoodIn big (a ++ b) := fun w h => (List.mem_append.mp h).elim (ha w) (hb w)
theorem goodIn_ca {big a b : List Cond} {c : Cond} (ha : GoodIn big (c :: a)) (hb : GoodIn big b) : GoodIn big (c :: (a ++ b)) := fun w h => (List.mem_cons.mp h).elim (fun e => ha w (List.mem_cons.mpr (Or.inl e))) (fun h => (List.mem_append.mp h).elim (fun h => ha w (List.mem_cons.mpr (Or.inr h))) (hb w))
theorem goodIn_sub {big ws : List Cond} (hm : ∀ w ∈ ws, w ∈ big) (h : ws.all goodWord = true) : GoodIn big ws := fun w hw => ⟨hm w hw, good_of_word (List.all_eq_true.mp h w hw)⟩
/-! ===== END ===== -/
/-! ===== BEGIN exceptions that leave a method, and their catching by the caller (launches without stack traces) ===== -/
section VXA
/-! The laws vx_back, vx_callV, vx_callS, vx_callSW, vx_throw0, vx_throwS follow proofs of the library, with one case more: JvmDerived/Free/Laws.lean (Back.of_free), Shelf42/LK1.lean (callV, callS), Shelf/KitTraced.lean (throwNew0V, throwNewS). -/
/-- where a method has thrown q: the class by its name, the cell, what was written, the world -/
def vx_T (XC : String → State → State → Prop) (st : State) (q : Addr) (t : State) (mc ms : Nat) (free : Addr → Prop) : Prop :=
  ∃ (E : String) (ce : Cell) (L : List Loc), XC E st t ∧ t.heap[q]? = some ce ∧ ce.vm = .none ∧ st.vm.findClass E = some ce.cls ∧ st.WarmedH t.vm ∧ st.sameButNew ({ t with vm := st.vm } : State) L mc ms ∧ ∀ z ∈ L, free z.base
def vx_Q (Qc : Array Value → State → Outcome → State → Prop) (XC : String → State → State → Prop) (mc ms : Nat) (free : Addr → Prop) : Array Value → State → Outcome → State → Prop := fun a st o t =>
  (Qc a st o t ∧ ∃ L, FrameEnd st o t L mc ms ∧ ∀ q ∈ L, free q.base) ∨ ∃ q, o = .threw q ∧ vx_T XC st q t mc ms free
/-- a callee that returns or throws -/
def vx_Met (l : Launch) (y : MethodName) (ws : List Cond) (rm : Room) (Pc : Array Value → State → Prop) (Qc : Array Value → State → Outcome → State → Prop) (XC : String → State → State → Prop) (mc ms : Nat) (free : Addr → Prop) : Prop :=
  MetFree l y (headSpec ws rm) Pc (fun _ _ _ _ _ => True) (vx_Q Qc XC mc ms free)
def vx_Post (XC : String → State → State → Prop) (mc ms : Nat) (free : Addr → Prop) : Pt → Array Value → Addr → Pt → Prop := fun A a q B =>
  ∃ (g : JFrame) (mk : MethodId) (t : State) (L : List Loc) (E : String) (ce : Cell), B.U.heap = t.heap ∧ B.U.vm = t.vm ∧ XC E (A.U.calling g mk a) t ∧ t.heap[q]? = some ce ∧ ce.vm = .none ∧ A.U.vm.findClass E = some ce.cls ∧ B.locs = A.locs ++ L ∧ (∀ z ∈ L, free z.base) ∧ B.cells = A.cells + mc ∧ B.slots = A.slots + ms
def vx_Back (l : Launch) (R : Room) (p : Program) (e : Env) (below : List Frame) (s : State) (sargs : Array Value) (y : MethodName) (len W9 : Nat)
    (Pre : Pt → Array Value → Prop) (Post : Pt → Array Value → Option Value → Pt → Prop) (PostX : Pt → Array Value → Addr → Pt → Prop) : Prop :=
  ∀ (m : MethodId) (meth : Method) (c : Code) (A : Pt) (g : JFrame) (ig : Instr) (mk : MethodId) (a : Array Value),
    Stand p l e R s m sargs below meth c A.U A.locs A.cells A.slots → g.method = m → g.locals.size = c.maxLocals → decode c.code g.pc = .ok (ig, len) →
    2 * g.monitorRoom + (g.stack.map fun v => v.category).sum ≤ W9 → A.U.methodNamed? y = some mk → Pre A a →
    (∃ (v : Option Value) (B : Pt), Stand p l e R s m sargs below meth c B.U B.locs B.cells B.slots ∧ Post A a v B ∧
      Steps p.tables e below (doInvoke e (A.U.setTop g) [] mk a).1 (B.U.setTop { g with pc := g.pc + len, stack := v.toList ++ g.stack })) ∨
    (∃ (q : Addr) (B : Pt), Stand p l e R s m sargs below meth c B.U B.locs B.cells B.slots ∧ PostX A a q B ∧
      Steps p.tables e below (doInvoke e (A.U.setTop g) [] mk a).1 ((B.U.setTop g).pushFrame (.throwing q)))
section Payer
variable {l : Launch} {R : Room} {p : Program} {e : Env} {below : List Frame} {s : State} {sargs : Array Value} {y : MethodName} {len W9 : Nat}
theorem vx_back {ws : List Cond} {rm : Room} {Pc : Array Value → State → Prop} {Qc : Array Value → State → Outcome → State → Prop} {XC : String → State → State → Prop} {mc ms : Nat} {free : Addr → Prop} {bytes : ByteArray} {maxL : Nat} {ret : Option FieldType}
    (hM : vx_Met l y ws rm Pc Qc XC mc ms free) (hblind : FrameBlind Pc) (hrc : rm.cells = mc) (hrs : rm.slots = ms)
    (hframes : rm.frames + 1 ≤ R.frames) (hlocals : W9 + (maxL + 11) + rm.locals ≤ R.locals)
    (hws : ∀ w ∈ ws, ∀ a' U, s.WarmedH U.vm → w.before a' U = true) (hcode : Cond.code y bytes maxL ret ∈ ws) (hinit : ∀ a' U, s.WarmedH U.vm → (Cond.initialized y.cls).before a' U = true) :
    vx_Back l R p e below s sargs y len W9 (PreOf R mc ms Pc) (PostOf Qc mc ms free) (vx_Post XC mc ms free) := by
  intro m meth c A g ig mk a X hg hsize hdg hW hn hp
  have h1 : (headSpec ws rm).pre.before a A.U = true := atoms_intro fun w hw => hws w hw _ _ X.warmed
  have h2 : (Cond.code y bytes maxL ret).before a A.U = true := hws _ hcode _ _ X.warmed
  have h3 : (Cond.initialized y.cls).before a A.U = true := hinit _ _ X.warmed
  have h4 : A.cells + (headSpec ws rm).room.cells ≤ R.cells := by rw [show (headSpec ws rm).room.cells = mc from hrc]; exact hp.1
  have h5 : A.slots + (headSpec ws rm).room.slots ≤ R.slots := by rw [show (headSpec ws rm).room.slots = ms from hrs]; exact hp.2.1
  have hPc : Pc a (A.U.calling g mk a) := hblind _ _ _ _ hp.2.2
  obtain ⟨U, Ls, c0, s0⟩ := A
  dsimp only [Pt.U, Pt.locs, Pt.cells, Pt.slots] at h1 h2 h3 h4 h5 X hn hPc ⊢
  obtain ⟨methY, cY, hmY, hcY, -, hlY, -, -, -, -⟩ := Cond.code_spec hn h2
  obtain ⟨kY, hkY, -⟩ := className_of_methodNamed hn
  have hinitY : kY.init = .initialized := Cond.initialized_spec (findClass_of_methodNamed hn) hkY h3
  have h : At U g.method c below := by rw [hg]; exact X.here
  have hlocals9 : W9 + (maxL + 11) + (headSpec ws rm).room.locals ≤ R.locals := hlocals
  have happ : (headSpec ws rm).appliesLoose y e.platform (U.calling g mk a) = true :=
    Spec.appliesLoose_calling (g := g) h hdg hn hkY hinitY
      (X.room_calling (g := g) (R' := (headSpec ws rm).room) hsize hmY hcY hframes (by rw [hlY]; omega) h4 h5) h1
  obtain ⟨mid, hmid⟩ := h.above
  have hfr : (U.setTop g).frames = (.java g :: mid) ++ below := by rw [State.frames_setTop' g h.top, hmid]; rfl
  obtain ⟨o, s₂, hsteps, -, hend, hq⟩ := Steps.callFree hM p X.admits X.cas X.clock (acts := []) hfr happ hPc trivial
  have hq' : vx_Q Qc XC mc ms free a (U.calling g mk a) o s₂ := hq
  rw [State.frames_setTop' g h.top] at hend
  obtain ⟨g₀, hg0⟩ := Option.isSome_iff_exists.mp h.top
  obtain ⟨r, hr⟩ := State.topJava?_eq_some.mp hg0
  have hr' : (({ U with heap := s₂.heap, slotsUsed := s₂.slotsUsed } : State).setVm s₂.vm).frames = .java g₀ :: r := hr
  rcases hq' with ⟨hqc, L, hfe, hL⟩ | ⟨q, rfl, E, ce, L, hx, hce, hcv, hcl, hW₂, hsm, hL⟩
  · obtain ⟨⟨v, rfl⟩, hW₂, e2, q2, q3, q4, q5, q6⟩ := id hfe
    have e3 : s₂ = ({ (U.calling g mk a).setFrames s₂.frames with heap := s₂.heap, slotsUsed := s₂.slotsUsed } : State).setVm s₂.vm := by
      have : s₂ = ({ s₂ with vm := (U.calling g mk a).vm } : State).setVm s₂.vm := rfl
      rw [e2] at this
      exact this
    obtain ⟨c₂, i₂, len₂, hc₂, hd₂, hf₂⟩ := hend
    have hW' : U.WarmedH s₂.vm := hW₂
    have hcc : c₂ = c := by
      have h1 : s₂.code? g.method = U.code? g.method := by
        rw [State.code?_eq, State.code?_eq, hW'.alike.method?]
      exact Option.some.inj (hc₂.symm.trans (h1.trans h.code))
    subst hcc
    have hlen : len₂ = len := by rw [hdg] at hd₂; cases hd₂; rfl
    subst hlen
    have hs₂ : s₂ = (({ U with heap := s₂.heap, slotsUsed := s₂.slotsUsed } : State).setVm s₂.vm).setTop { g with pc := g.pc + len₂, stack := v.toList ++ g.stack } := by
      refine e3.trans ?_
      rw [hf₂, State.calling_eq h.top, State.setFrames_setFrames, State.setTop_of_frames _ hr', hr]
      rfl
    have hsame : U.sameButNew ({ U with heap := s₂.heap, slotsUsed := s₂.slotsUsed } : State) L mc ms := by
      refine ⟨?_, q2, q3, q4, q5, q6⟩
      obtain ⟨t, ht, -⟩ := State.frames_cons hr
      show ({ U with heap := s₂.heap, slotsUsed := s₂.slotsUsed } : State) = { U.setFrames U.frames with heap := s₂.heap, slotsUsed := s₂.slotsUsed }
      rw [State.setFrames_self ht]
    subst hg
    refine Or.inl ⟨v, ⟨(({ U with heap := s₂.heap, slotsUsed := s₂.slotsUsed } : State).setVm s₂.vm), Ls ++ L, c0 + mc, s0 + ms⟩,
      ⟨X.admits, X.cas, X.clock, X.frames, X.room, X.hears, X.method, X.code, (X.here.setHeapUsed s₂.heap s₂.slotsUsed).setVm hW'.alike, X.tail, State.WarmedH.trans X.warmed hW', X.limits, X.bytes, X.same.trans (hsame.setVm s.vm)⟩,
      ⟨g, mk, s₂, L, rfl, rfl, hqc, rfl, hL, rfl, rfl⟩, ?_⟩
    show Steps p.tables e below _ ((({ U with heap := s₂.heap, slotsUsed := s₂.slotsUsed } : State).setVm s₂.vm).setTop { g with pc := g.pc + len₂, stack := v.toList ++ g.stack })
    rw [← hs₂]
    exact hsteps
  · obtain ⟨e2, q2, q3, q4, q5, q6⟩ := id hsm
    have e3 : s₂ = ({ (U.calling g mk a).setFrames s₂.frames with heap := s₂.heap, slotsUsed := s₂.slotsUsed } : State).setVm s₂.vm := by
      have : s₂ = ({ s₂ with vm := (U.calling g mk a).vm } : State).setVm s₂.vm := rfl
      rw [e2] at this
      exact this
    have hf₂ : s₂.frames = .throwing q :: .java g :: U.frames.tail := hend
    have hW' : U.WarmedH s₂.vm := hW₂
    have hs₂ : s₂ = ((({ U with heap := s₂.heap, slotsUsed := s₂.slotsUsed } : State).setVm s₂.vm).setTop g).pushFrame (.throwing q) := by
      refine e3.trans ?_
      rw [hf₂, State.calling_eq h.top, State.setFrames_setFrames, State.pushFrame, State.frames_setTop _ hr', State.setTop_of_frames _ hr', State.setFrames_setFrames, hr]
      rfl
    have hsame : U.sameButNew ({ U with heap := s₂.heap, slotsUsed := s₂.slotsUsed } : State) L mc ms := by
      refine ⟨?_, q2, q3, q4, q5, q6⟩
      obtain ⟨t, ht, -⟩ := State.frames_cons hr
      show ({ U with heap := s₂.heap, slotsUsed := s₂.slotsUsed } : State) = { U.setFrames U.frames with heap := s₂.heap, slotsUsed := s₂.slotsUsed }
      rw [State.setFrames_self ht]
    subst hg
    refine Or.inr ⟨q, ⟨(({ U with heap := s₂.heap, slotsUsed := s₂.slotsUsed } : State).setVm s₂.vm), Ls ++ L, c0 + mc, s0 + ms⟩,
      ⟨X.admits, X.cas, X.clock, X.frames, X.room, X.hears, X.method, X.code, (X.here.setHeapUsed s₂.heap s₂.slotsUsed).setVm hW'.alike, X.tail, State.WarmedH.trans X.warmed hW', X.limits, X.bytes, X.same.trans (hsame.setVm s.vm)⟩,
      ⟨g, mk, s₂, L, E, ce, rfl, rfl, hx, hce, hcv, hcl, rfl, hL, rfl, rfl⟩, ?_⟩
    show Steps p.tables e below _ (((({ U with heap := s₂.heap, slotsUsed := s₂.slotsUsed } : State).setVm s₂.vm).setTop g).pushFrame (.throwing q))
    rw [← hs₂]
    exact hsteps
end Payer
section Calls
variable {p : Program} {l : Launch} {e : Env} {R : Room} {s : State} {m : MethodId} {args : Array Value} {below : List Frame} {meth : Method} {c : Code} {T : State} {locs : List Loc} {cells slots : Nat}
theorem vx_callV (X : Stand p l e R s m args below meth c T locs cells slots) (hexec : p.tables.exec = Jvm.exec) {own C : String} {index : Nat} {y : MethodName} {bytes : ByteArray} {maxL : Nat} {ret : Option FieldType}
    (hown : s.vm.findClass own = some m.cls) (hlink : (Cond.methodLink own index y).before args s = true) (hinst : (Cond.instanceMethod y).before args s = true) (hsel : (Cond.selects C y y).before args s = true)
    (hcode : (Cond.code y bytes maxL ret).before args s = true) (hy : y.cls ≠ "java/lang/invoke/MethodHandle" ∧ y.cls ≠ "java/lang/invoke/VarHandle")
    {W9 : Nat} {Pre : Pt → Array Value → Prop} {Post : Pt → Array Value → Option Value → Pt → Prop} {PostX : Pt → Array Value → Addr → Pt → Prop} (hK : vx_Back l R p e below s args y 3 W9 Pre Post PostX)
    {b : Addr} {cellB : Cell} (hcell : T.heap[b]? = some cellB) (hobj : cellB.vm.isStatics = false) (hcls : s.vm.findClass C = some cellB.cls)
    {g : JFrame} (hg : g.method = m) (hsize : g.locals.size = c.maxLocals) {argsL rest : List Value} (hlen : ∀ sig, parseMethodDescriptor y.desc = some sig → argsL.length = sig.parameters.length)
    (hstack : g.stack = argsL.reverse ++ .ref b :: rest) (hW : 2 * g.monitorRoom + (rest.map fun v => v.category).sum ≤ W9) (hdg : decode c.code g.pc = .ok (.invokevirtual index, 3))
    (hpre : ∀ vm₁, s.WarmedH vm₁ → Pre ⟨T.setVm vm₁, locs, cells, slots⟩ (Value.ref b :: argsL).toArray) :
    (∃ (v : Option Value) (vm₁ : Vm) (B : Pt), s.WarmedH vm₁ ∧ Stand p l e R s m args below meth c B.U B.locs B.cells B.slots ∧ Post ⟨T.setVm vm₁, locs, cells, slots⟩ (Value.ref b :: argsL).toArray v B ∧
      ∀ target, Steps p.tables e below (B.U.setTop { g with pc := g.pc + 3, stack := v.toList ++ rest }) target → Steps p.tables e below (T.setTop g) target) ∨
    (∃ (q : Addr) (vm₁ : Vm) (B : Pt), s.WarmedH vm₁ ∧ Stand p l e R s m args below meth c B.U B.locs B.cells B.slots ∧ PostX ⟨T.setVm vm₁, locs, cells, slots⟩ (Value.ref b :: argsL).toArray q B ∧
      Steps p.tables e below (T.setTop g) ((B.U.setTop { g with stack := rest }).pushFrame (.throwing q))) := by
  obtain ⟨mk, methM, hnamed, hmethM, hstM, habM⟩ := Cond.instanceMethod_spec hinst
  obtain ⟨methM', cM, hmethM', -, -, -, -, -, -, hsigM⟩ := Cond.code_spec hnamed hcode
  cases hmethM.symm.trans hmethM'
  obtain ⟨c2, r2, m2, q1, q2, q3, q4, kP, hkP, hkPi⟩ := Cond.selects_spec hsel
  cases hcls.symm.trans q1
  cases (State.methodFound?_of_named hnamed hy).symm.trans q2
  cases hnamed.symm.trans q3
  have hselP : selectMethod e.platform s.vm cellB.cls mk = .method mk := by rw [Launch.admits_selectMethod X.admits]; exact q4
  obtain ⟨vm₁, X₁, hstep₁⟩ := X.invokevirtual hexec hown hlink hnamed hmethM hstM hkP hkPi hy (a := b) (cell := cellB) hcell
    (fun z h => by rw [h] at hobj; cases hobj) hselP hmethM habM hkP hkPi (g := g) hg (argsL := argsL) (rest := rest) (hlen _ hsigM) hstack hdg
  rcases hK m meth c ⟨T.setVm vm₁, locs, cells, slots⟩ { g with stack := rest } (.invokevirtual index) mk (Value.ref b :: argsL).toArray X₁ hg hsize hdg hW (X₁.named hnamed) (hpre vm₁ X₁.warmed) with ⟨v, B, X', hpost, hsteps⟩ | ⟨q, B, X', hpost, hsteps⟩
  · exact Or.inl ⟨v, vm₁, B, X₁.warmed, X', hpost, fun target h => hstep₁ _ fun acts => by rw [doInvoke_state]; exact hsteps.trans h⟩
  · exact Or.inr ⟨q, vm₁, B, X₁.warmed, X', hpost, hstep₁ _ fun acts => by rw [doInvoke_state]; exact hsteps⟩
theorem vx_callS (X : Stand p l e R s m args below meth c T locs cells slots) (hexec : p.tables.exec = Jvm.exec) {own : String} {index : Nat} {y : MethodName} {bytes : ByteArray} {maxL : Nat} {ret : Option FieldType}
    (hown : s.vm.findClass own = some m.cls) (hlink : (Cond.methodLink own index y).before args s = true) (hstat : (Cond.static y).before args s = true) (hinit : (Cond.initialized y.cls).before args s = true)
    (hcode : (Cond.code y bytes maxL ret).before args s = true) (hy : y.cls ≠ "java/lang/invoke/MethodHandle" ∧ y.cls ≠ "java/lang/invoke/VarHandle")
    {W9 : Nat} {Pre : Pt → Array Value → Prop} {Post : Pt → Array Value → Option Value → Pt → Prop} {PostX : Pt → Array Value → Addr → Pt → Prop} (hK : vx_Back l R p e below s args y 3 W9 Pre Post PostX)
    {g : JFrame} (hg : g.method = m) (hsize : g.locals.size = c.maxLocals) {argsL rest : List Value} (hlen : ∀ sig, parseMethodDescriptor y.desc = some sig → argsL.length = sig.parameters.length)
    (hstack : g.stack = argsL.reverse ++ rest) (hW : 2 * g.monitorRoom + (rest.map fun v => v.category).sum ≤ W9) (hdg : decode c.code g.pc = .ok (.invokestatic index, 3))
    (hpre : ∀ vm₁, s.WarmedH vm₁ → Pre ⟨T.setVm vm₁, locs, cells, slots⟩ argsL.toArray) :
    (∃ (v : Option Value) (vm₁ : Vm) (B : Pt), s.WarmedH vm₁ ∧ Stand p l e R s m args below meth c B.U B.locs B.cells B.slots ∧ Post ⟨T.setVm vm₁, locs, cells, slots⟩ argsL.toArray v B ∧
      ∀ target, Steps p.tables e below (B.U.setTop { g with pc := g.pc + 3, stack := v.toList ++ rest }) target → Steps p.tables e below (T.setTop g) target) ∨
    (∃ (q : Addr) (vm₁ : Vm) (B : Pt), s.WarmedH vm₁ ∧ Stand p l e R s m args below meth c B.U B.locs B.cells B.slots ∧ PostX ⟨T.setVm vm₁, locs, cells, slots⟩ argsL.toArray q B ∧
      Steps p.tables e below (T.setTop g) ((B.U.setTop { g with stack := rest }).pushFrame (.throwing q))) := by
  obtain ⟨mk, hnamed⟩ := Cond.code_named hcode
  obtain ⟨methM, cM, hmethM, -, -, -, -, -, -, hsigM⟩ := Cond.code_spec hnamed hcode
  have hstatic : methM.isStatic = true := Cond.static_spec hnamed hmethM hstat
  obtain ⟨kP, hkP, -⟩ := className_of_methodNamed hnamed
  have hinitP : kP.init = .initialized := Cond.initialized_spec (findClass_of_methodNamed hnamed) hkP hinit
  obtain ⟨vm₁, X₁, hstep₁⟩ := X.invokestatic hexec hown hlink hnamed hmethM hstatic hkP hinitP hy (g := g) hg (argsL := argsL) (rest := rest) (hlen _ hsigM) hstack hdg
  rcases hK m meth c ⟨T.setVm vm₁, locs, cells, slots⟩ { g with stack := rest } (.invokestatic index) mk argsL.toArray X₁ hg hsize hdg hW (X₁.named hnamed) (hpre vm₁ X₁.warmed) with ⟨v, B, X', hpost, hsteps⟩ | ⟨q, B, X', hpost, hsteps⟩
  · exact Or.inl ⟨v, vm₁, B, X₁.warmed, X', hpost, fun target h => hstep₁ _ fun acts => by rw [doInvoke_state]; exact hsteps.trans h⟩
  · exact Or.inr ⟨q, vm₁, B, X₁.warmed, X', hpost, hstep₁ _ fun acts => by rw [doInvoke_state]; exact hsteps⟩
end Calls
theorem vx_cls {s : State} {T : State} {vm₁ : Vm} {E : String} {k : ClassId} (hW : s.WarmedH vm₁) (h : (T.setVm vm₁).vm.findClass E = some k) : s.vm.findClass E = some k := by
  have h1 : vm₁.findClass E = some k := h
  rw [hW.alike.findClass] at h1
  exact h1
/-- the method's frame g, with q thrown over it -/
def vx_W (p : Program) (l : Launch) (e : Env) (R : Room) (s : State) (m : MethodId) (args : Array Value) (below : List Frame) (meth : Method) (c : Code) (H : Heap) (locs : List Loc) (cells slots : Nat) (Q : State → Prop) (g : JFrame) (q : Addr) : Prop :=
  ∀ T : State, T.heap = H → Stand p l e R s m args below meth c T locs cells slots → ∃ t, Steps p.tables e below ((T.setTop g).pushFrame (.throwing q)) t ∧ Q t
def vx_Run (p : Program) (l : Launch) (e : Env) (R : Room) (s : State) (m : MethodId) (args : Array Value) (below : List Frame) (meth : Method) (c : Code) (H : Heap) (locs : List Loc) (cells slots mc ms : Nat) (g : JFrame) (rest : List Value) (Qa : State → Outcome → State → Prop) (XC : String → State → State → Prop) (free : Addr → Prop) : Prop :=
  ∀ T : State, T.heap = H → Stand p l e R s m args below meth c T locs cells slots →
    (∃ (v : Option Value) (st₀ t T' : State) (L : List Loc), st₀.heap = H ∧ Stand p l e R s m args below meth c T' (locs ++ L) (cells + mc) (slots + ms) ∧ (∀ q ∈ L, free q.base) ∧ T'.heap = t.heap ∧ T'.vm = t.vm ∧ Qa st₀ (.returned v) t ∧
      Goes p e below T g T' { g with pc := g.pc + 3, stack := v.toList ++ rest }) ∨
    (∃ (q : Addr) (st₀ t T' : State) (L : List Loc) (E : String) (ce : Cell), st₀.heap = H ∧ Stand p l e R s m args below meth c T' (locs ++ L) (cells + mc) (slots + ms) ∧ (∀ z ∈ L, free z.base) ∧ T'.heap = t.heap ∧ T'.vm = t.vm ∧ XC E st₀ t ∧ t.heap[q]? = some ce ∧ ce.vm = .none ∧ s.vm.findClass E = some ce.cls ∧
      Steps p.tables e below (T.setTop g) ((T'.setTop { g with stack := rest }).pushFrame (.throwing q)))
def vx_X {S : Type} (px : S → Prop) (B : String → S → State → Prop) (A : Nat → Prop) : String → State → State → Prop := fun E st t => ∃ u : S, px u ∧ B E u t ∧ va_F A st t
section Runs
variable {p : Program} {l : Launch} {e : Env} {R : Room} {s : State} {m : MethodId} {args : Array Value} {below : List Frame} {meth : Method} {c : Code} {H : Heap} {locs : List Loc} {cells slots : Nat}
variable {y : MethodName} {bytes cc : ByteArray} {maxL nL mc ms n index : Nat} {ret : Option FieldType} {ws : List Cond} {rm : Room} {Pc : Array Value → State → Prop} {Qc : Array Value → State → Outcome → State → Prop} {XC : String → State → State → Prop} {free : Addr → Prop} {Ts : List Cond} {own C : String} {b : Addr} {As rest : List Value} {g : JFrame}
theorem vx_callBack (cb : CallB R s args own index y bytes maxL ret ws rm mc ms n) (hM : vx_Met l y ws rm Pc Qc XC mc ms free) (hbl : FrameBlind Pc) : vx_Back l R p e below s args y 3 8 (PreOf R mc ms Pc) (PostOf Qc mc ms free) (vx_Post XC mc ms free) := by
  obtain ⟨hrc, hrs, hfr, hlo, hws, hcw, -, hini, -⟩ := cb
  exact vx_back (bytes := bytes) (maxL := maxL) (ret := ret) hM hbl hrc hrs hfr hlo hws hcw (fun a' U hW => word_at hW (Or.inl (by first | rfl | simp [Cond.onTables, Cond.keeps, Cond.steady])) hini)
theorem vx_runV (S : CallFix p m c cc nL s args Ts own) (hM : vx_Met l y ws rm Pc Qc XC mc ms free) (cw : CallW R s args own C index y bytes maxL ret ws rm mc ms n) (hp : PreV s H C b Pc As)
    (hg : g.method = m) (hn : As.length = n) (hsize : g.locals.size = nL) (hstack : g.stack = As.reverse ++ .ref b :: rest) (hW : 2 * g.monitorRoom + (rest.map fun v => v.category).sum ≤ 8) (hdg : decode cc g.pc = .ok (.invokevirtual index, 3)) (hf : cells + mc ≤ R.cells ∧ slots + ms ≤ R.slots) :
    vx_Run p l e R s m args below meth c H locs cells slots mc ms g rest (Qc (Value.ref b :: As).toArray) XC free := by
  have hK : vx_Back l R p e below s args y 3 8 (PreOf R mc ms Pc) (PostOf Qc mc ms free) (vx_Post XC mc ms free) := vx_callBack cw.1 hM hp.1
  obtain ⟨⟨-, -, -, -, -, -, hcode, -, hy, hlen, hl⟩, hin, hse⟩ := cw
  obtain ⟨hx, hb, hml, ho, -⟩ := S
  obtain ⟨-, ⟨cellB, hcB, hoB, hclB⟩, hPc⟩ := hp
  intro T hT X
  rcases vx_callV X hx (C := C) (bytes := bytes) (maxL := maxL) (ret := ret) ho hl hin hse hcode hy hK (by rw [hT]; exact hcB) hoB hclB hg (hsize.trans hml.symm) (argsL := As) (rest := rest) (fun sig h => hn.trans (hlen sig h)) hstack hW (by rw [hb]; exact hdg)
    (fun vm₁ hW₁ => ⟨hf.1, hf.2, hPc (T.setVm vm₁) hT hW₁⟩) with ⟨v, vm₁, ⟨U', l2, c2, s2⟩, hW₁, X', ⟨g', mk, t, L, e1, e2, hq, h1, hL, h2, h3⟩, st⟩ | ⟨q, vm₁, ⟨U', l2, c2, s2⟩, hW₁, X', ⟨g', mk, t, L, E, ce, e1, e2, hq, hce, hcv, hcl, h1, hL, h2, h3⟩, st⟩
  · dsimp only [Pt.U, Pt.locs, Pt.cells, Pt.slots] at X' e1 e2 h1 h2 h3 st
    subst h1; subst h2; subst h3
    exact Or.inl ⟨v, (T.setVm vm₁).calling g' mk (Value.ref b :: As).toArray, t, U', L, hT, X', hL, e1, e2, hq, st⟩
  · dsimp only [Pt.U, Pt.locs, Pt.cells, Pt.slots] at X' e1 e2 h1 h2 h3 st hcl
    subst h1; subst h2; subst h3
    exact Or.inr ⟨q, (T.setVm vm₁).calling g' mk (Value.ref b :: As).toArray, t, U', L, E, ce, hT, X', hL, e1, e2, hq, hce, hcv, vx_cls hW₁ hcl, st⟩
theorem vx_runS (S : CallFix p m c cc nL s args Ts own) (hM : vx_Met l y ws rm Pc Qc XC mc ms free) (cw : CallB R s args own index y bytes maxL ret ws rm mc ms n ∧ (Cond.static y).before args s = true) (hp : PreS s H Pc As)
    (hg : g.method = m) (hn : As.length = n) (hsize : g.locals.size = nL) (hstack : g.stack = As.reverse ++ rest) (hW : 2 * g.monitorRoom + (rest.map fun v => v.category).sum ≤ 8) (hdg : decode cc g.pc = .ok (.invokestatic index, 3)) (hf : cells + mc ≤ R.cells ∧ slots + ms ≤ R.slots) :
    vx_Run p l e R s m args below meth c H locs cells slots mc ms g rest (Qc As.toArray) XC free := by
  have hK : vx_Back l R p e below s args y 3 8 (PreOf R mc ms Pc) (PostOf Qc mc ms free) (vx_Post XC mc ms free) := vx_callBack cw.1 hM hp.1
  obtain ⟨⟨-, -, -, -, -, -, hcode, hini, hy, hlen, hl⟩, hstt⟩ := cw
  obtain ⟨hx, hb, hml, ho, -⟩ := S
  intro T hT X
  rcases vx_callS X hx (bytes := bytes) (maxL := maxL) (ret := ret) ho hl hstt hini hcode hy hK hg (hsize.trans hml.symm) (argsL := As) (rest := rest) (fun sig h => hn.trans (hlen sig h)) hstack hW (by rw [hb]; exact hdg)
    (fun vm₁ hW₁ => ⟨hf.1, hf.2, hp.2 (T.setVm vm₁) hT hW₁⟩) with ⟨v, vm₁, ⟨U', l2, c2, s2⟩, hW₁, X', ⟨g', mk, t, L, e1, e2, hq, h1, hL, h2, h3⟩, st⟩ | ⟨q, vm₁, ⟨U', l2, c2, s2⟩, hW₁, X', ⟨g', mk, t, L, E, ce, e1, e2, hq, hce, hcv, hcl, h1, hL, h2, h3⟩, st⟩
  · dsimp only [Pt.U, Pt.locs, Pt.cells, Pt.slots] at X' e1 e2 h1 h2 h3 st
    subst h1; subst h2; subst h3
    exact Or.inl ⟨v, (T.setVm vm₁).calling g' mk As.toArray, t, U', L, hT, X', hL, e1, e2, hq, st⟩
  · dsimp only [Pt.U, Pt.locs, Pt.cells, Pt.slots] at X' e1 e2 h1 h2 h3 st hcl
    subst h1; subst h2; subst h3
    exact Or.inr ⟨q, (T.setVm vm₁).calling g' mk As.toArray, t, U', L, E, ce, hT, X', hL, e1, e2, hq, hce, hcv, vx_cls hW₁ hcl, st⟩
end Runs
section Rows
variable {p : Program} {l : Launch} {e : Env} {R : Room} {s : State} {m : MethodId} {args : Array Value} {below : List Frame} {meth : Method} {c : Code} {H : Heap} {locs : List Loc} {cells slots : Nat} {Q : State → Prop}
variable {mc ms : Nat} {free : Addr → Prop} {A0 A1 : Nat → Prop} {H0 : Heap} {a : Array Value} {pc : Nat} {ls : Array Slot} {st0 rest : List Value}
theorem vx_keep {st₀ t T' : State} {L : List Loc} (h0 : st₀.heap = H) (e1 : T'.heap = t.heap) (hS : va_S A0 H0 H locs) (hA : ∀ q, q < H.size → A1 q → A0 q) (hf : ∀ q, free q → A0 q) (hL : ∀ q ∈ L, free q.base) (hF : va_F A1 st₀ t) :
    H.size ≤ T'.heap.size ∧ (∀ q : Nat, q < H.size → ¬ A1 q → T'.heap[q]? = H[q]?) ∧ va_S A0 H0 T'.heap (locs ++ L) := by
  obtain ⟨hz, hk⟩ := hF
  rw [h0] at hz hk
  exact ⟨by rw [e1]; exact hz, fun q h1 h2 => by rw [e1]; exact hk q h1 h2,
    ⟨Nat.le_trans hS.1 (by rw [e1]; exact hz), fun q h1 h2 => by rw [e1, hk q (Nat.lt_of_lt_of_le h1 hS.1) (fun z => h2 (hA q (Nat.lt_of_lt_of_le h1 hS.1) z))]; exact hS.2.1 q h1 h2, fun q hq => by
      rcases List.mem_append.mp hq with h | h
      · exact hS.2.2 q h
      · exact hf _ (hL q h)⟩⟩
theorem vx_calli {S SX : Type} {post : Int32 → S → Prop} {px : SX → Prop} {B : S → State → Prop} {BX : String → SX → State → Prop} {AX : Nat → Prop} (hr : vx_Run p l e R s m args below meth c H locs cells slots mc ms (F0 m pc ls st0) rest (va_Qi post B A1 a) (vx_X px BX AX) free) (hS : va_S A0 H0 H locs) (hA : ∀ q, q < H.size → A1 q → A0 q) (hf : ∀ q, free q → A0 q) (hAX : ∀ q, q < H.size → AX q → A0 q)
    (kx : ∀ (E : String) (ce : Cell) (q9 : Addr) (u : SX) (t : State) (H1 : Heap) (locs1 : List Loc), t.heap = H1 → s.vm.Alike t.vm → px u → BX E u t → H.size ≤ H1.size → (∀ q : Nat, q < H.size → ¬ AX q → H1[q]? = H[q]?) → va_S A0 H0 H1 locs1 → H1[q9]? = some ce → ce.vm = .none → s.vm.findClass E = some ce.cls → vx_W p l e R s m args below meth c H1 locs1 (cells + mc) (slots + ms) Q (F0 m pc ls rest) q9)
    (kk : ∀ (r : Int32) (u : S) (t : State) (H1 : Heap) (locs1 : List Loc), t.heap = H1 → s.vm.Alike t.vm → post r u → B u t → H.size ≤ H1.size → (∀ q : Nat, q < H.size → ¬ A1 q → H1[q]? = H[q]?) → va_S A0 H0 H1 locs1 → W p l e R s m args below meth c H1 locs1 (cells + mc) (slots + ms) Q (F0 m (pc + 3) ls (.int r :: rest))) : W p l e R s m args below meth c H locs cells slots Q (F0 m pc ls st0) := by
  intro T hT X
  rcases hr T hT X with ⟨v, st₀, t, T', L, h0, X', hL, e1, e2, ⟨⟨r, u, hv, hp, hb⟩, hF⟩, st⟩ | ⟨q, st₀, t, T', L, E, ce, h0, X', hL, e1, e2, ⟨u, hp, hb, hF⟩, hce, hcv, hcl, st⟩
  · cases hv
    obtain ⟨k1, k2, k3⟩ := vx_keep h0 e1 hS hA hf hL hF
    obtain ⟨t2, a1, b1⟩ := kk r u t T'.heap (locs ++ L) e1.symm (by rw [← e2]; exact X'.warmed.alike) hp hb k1 k2 k3 T' rfl X'
    exact ⟨t2, st t2 a1, b1⟩
  · obtain ⟨k1, k2, k3⟩ := vx_keep h0 e1 hS hAX hf hL hF
    obtain ⟨t2, a1, b1⟩ := kx E ce q u t T'.heap (locs ++ L) e1.symm (by rw [← e2]; exact X'.warmed.alike) hp hb k1 k2 k3 (by rw [e1]; exact hce) hcv hcl T' rfl X'
    exact ⟨t2, st.trans a1, b1⟩
theorem vx_calll {S SX : Type} {post : Int64 → S → Prop} {px : SX → Prop} {B : S → State → Prop} {BX : String → SX → State → Prop} {AX : Nat → Prop} (hr : vx_Run p l e R s m args below meth c H locs cells slots mc ms (F0 m pc ls st0) rest (va_Ql post B A1 a) (vx_X px BX AX) free) (hS : va_S A0 H0 H locs) (hA : ∀ q, q < H.size → A1 q → A0 q) (hf : ∀ q, free q → A0 q) (hAX : ∀ q, q < H.size → AX q → A0 q)
    (kx : ∀ (E : String) (ce : Cell) (q9 : Addr) (u : SX) (t : State) (H1 : Heap) (locs1 : List Loc), t.heap = H1 → s.vm.Alike t.vm → px u → BX E u t → H.size ≤ H1.size → (∀ q : Nat, q < H.size → ¬ AX q → H1[q]? = H[q]?) → va_S A0 H0 H1 locs1 → H1[q9]? = some ce → ce.vm = .none → s.vm.findClass E = some ce.cls → vx_W p l e R s m args below meth c H1 locs1 (cells + mc) (slots + ms) Q (F0 m pc ls rest) q9)
    (kk : ∀ (r : Int64) (u : S) (t : State) (H1 : Heap) (locs1 : List Loc), t.heap = H1 → s.vm.Alike t.vm → post r u → B u t → H.size ≤ H1.size → (∀ q : Nat, q < H.size → ¬ A1 q → H1[q]? = H[q]?) → va_S A0 H0 H1 locs1 → W p l e R s m args below meth c H1 locs1 (cells + mc) (slots + ms) Q (F0 m (pc + 3) ls (.long r :: rest))) : W p l e R s m args below meth c H locs cells slots Q (F0 m pc ls st0) := by
  intro T hT X
  rcases hr T hT X with ⟨v, st₀, t, T', L, h0, X', hL, e1, e2, ⟨⟨r, u, hv, hp, hb⟩, hF⟩, st⟩ | ⟨q, st₀, t, T', L, E, ce, h0, X', hL, e1, e2, ⟨u, hp, hb, hF⟩, hce, hcv, hcl, st⟩
  · cases hv
    obtain ⟨k1, k2, k3⟩ := vx_keep h0 e1 hS hA hf hL hF
    obtain ⟨t2, a1, b1⟩ := kk r u t T'.heap (locs ++ L) e1.symm (by rw [← e2]; exact X'.warmed.alike) hp hb k1 k2 k3 T' rfl X'
    exact ⟨t2, st t2 a1, b1⟩
  · obtain ⟨k1, k2, k3⟩ := vx_keep h0 e1 hS hAX hf hL hF
    obtain ⟨t2, a1, b1⟩ := kx E ce q u t T'.heap (locs ++ L) e1.symm (by rw [← e2]; exact X'.warmed.alike) hp hb k1 k2 k3 (by rw [e1]; exact hce) hcv hcl T' rfl X'
    exact ⟨t2, st.trans a1, b1⟩
theorem vx_callf {S SX : Type} {post : UInt32 → S → Prop} {px : SX → Prop} {B : S → State → Prop} {BX : String → SX → State → Prop} {AX : Nat → Prop} (hr : vx_Run p l e R s m args below meth c H locs cells slots mc ms (F0 m pc ls st0) rest (va_Qf post B A1 a) (vx_X px BX AX) free) (hS : va_S A0 H0 H locs) (hA : ∀ q, q < H.size → A1 q → A0 q) (hf : ∀ q, free q → A0 q) (hAX : ∀ q, q < H.size → AX q → A0 q)
    (kx : ∀ (E : String) (ce : Cell) (q9 : Addr) (u : SX) (t : State) (H1 : Heap) (locs1 : List Loc), t.heap = H1 → s.vm.Alike t.vm → px u → BX E u t → H.size ≤ H1.size → (∀ q : Nat, q < H.size → ¬ AX q → H1[q]? = H[q]?) → va_S A0 H0 H1 locs1 → H1[q9]? = some ce → ce.vm = .none → s.vm.findClass E = some ce.cls → vx_W p l e R s m args below meth c H1 locs1 (cells + mc) (slots + ms) Q (F0 m pc ls rest) q9)
    (kk : ∀ (r : UInt32) (u : S) (t : State) (H1 : Heap) (locs1 : List Loc), t.heap = H1 → s.vm.Alike t.vm → post r u → B u t → H.size ≤ H1.size → (∀ q : Nat, q < H.size → ¬ A1 q → H1[q]? = H[q]?) → va_S A0 H0 H1 locs1 → W p l e R s m args below meth c H1 locs1 (cells + mc) (slots + ms) Q (F0 m (pc + 3) ls (.float r :: rest))) : W p l e R s m args below meth c H locs cells slots Q (F0 m pc ls st0) := by
  intro T hT X
  rcases hr T hT X with ⟨v, st₀, t, T', L, h0, X', hL, e1, e2, ⟨⟨r, u, hv, hp, hb⟩, hF⟩, st⟩ | ⟨q, st₀, t, T', L, E, ce, h0, X', hL, e1, e2, ⟨u, hp, hb, hF⟩, hce, hcv, hcl, st⟩
  · cases hv
    obtain ⟨k1, k2, k3⟩ := vx_keep h0 e1 hS hA hf hL hF
    obtain ⟨t2, a1, b1⟩ := kk r u t T'.heap (locs ++ L) e1.symm (by rw [← e2]; exact X'.warmed.alike) hp hb k1 k2 k3 T' rfl X'
    exact ⟨t2, st t2 a1, b1⟩
  · obtain ⟨k1, k2, k3⟩ := vx_keep h0 e1 hS hAX hf hL hF
    obtain ⟨t2, a1, b1⟩ := kx E ce q u t T'.heap (locs ++ L) e1.symm (by rw [← e2]; exact X'.warmed.alike) hp hb k1 k2 k3 (by rw [e1]; exact hce) hcv hcl T' rfl X'
    exact ⟨t2, st.trans a1, b1⟩
theorem vx_calld {S SX : Type} {post : UInt64 → S → Prop} {px : SX → Prop} {B : S → State → Prop} {BX : String → SX → State → Prop} {AX : Nat → Prop} (hr : vx_Run p l e R s m args below meth c H locs cells slots mc ms (F0 m pc ls st0) rest (va_Qd post B A1 a) (vx_X px BX AX) free) (hS : va_S A0 H0 H locs) (hA : ∀ q, q < H.size → A1 q → A0 q) (hf : ∀ q, free q → A0 q) (hAX : ∀ q, q < H.size → AX q → A0 q)
    (kx : ∀ (E : String) (ce : Cell) (q9 : Addr) (u : SX) (t : State) (H1 : Heap) (locs1 : List Loc), t.heap = H1 → s.vm.Alike t.vm → px u → BX E u t → H.size ≤ H1.size → (∀ q : Nat, q < H.size → ¬ AX q → H1[q]? = H[q]?) → va_S A0 H0 H1 locs1 → H1[q9]? = some ce → ce.vm = .none → s.vm.findClass E = some ce.cls → vx_W p l e R s m args below meth c H1 locs1 (cells + mc) (slots + ms) Q (F0 m pc ls rest) q9)
    (kk : ∀ (r : UInt64) (u : S) (t : State) (H1 : Heap) (locs1 : List Loc), t.heap = H1 → s.vm.Alike t.vm → post r u → B u t → H.size ≤ H1.size → (∀ q : Nat, q < H.size → ¬ A1 q → H1[q]? = H[q]?) → va_S A0 H0 H1 locs1 → W p l e R s m args below meth c H1 locs1 (cells + mc) (slots + ms) Q (F0 m (pc + 3) ls (.double r :: rest))) : W p l e R s m args below meth c H locs cells slots Q (F0 m pc ls st0) := by
  intro T hT X
  rcases hr T hT X with ⟨v, st₀, t, T', L, h0, X', hL, e1, e2, ⟨⟨r, u, hv, hp, hb⟩, hF⟩, st⟩ | ⟨q, st₀, t, T', L, E, ce, h0, X', hL, e1, e2, ⟨u, hp, hb, hF⟩, hce, hcv, hcl, st⟩
  · cases hv
    obtain ⟨k1, k2, k3⟩ := vx_keep h0 e1 hS hA hf hL hF
    obtain ⟨t2, a1, b1⟩ := kk r u t T'.heap (locs ++ L) e1.symm (by rw [← e2]; exact X'.warmed.alike) hp hb k1 k2 k3 T' rfl X'
    exact ⟨t2, st t2 a1, b1⟩
  · obtain ⟨k1, k2, k3⟩ := vx_keep h0 e1 hS hAX hf hL hF
    obtain ⟨t2, a1, b1⟩ := kx E ce q u t T'.heap (locs ++ L) e1.symm (by rw [← e2]; exact X'.warmed.alike) hp hb k1 k2 k3 (by rw [e1]; exact hce) hcv hcl T' rfl X'
    exact ⟨t2, st.trans a1, b1⟩
theorem vx_callv {S SX : Type} {post : S → Prop} {px : SX → Prop} {B : S → State → Prop} {BX : String → SX → State → Prop} {AX : Nat → Prop} (hr : vx_Run p l e R s m args below meth c H locs cells slots mc ms (F0 m pc ls st0) rest (va_Qv post B A1 a) (vx_X px BX AX) free) (hS : va_S A0 H0 H locs) (hA : ∀ q, q < H.size → A1 q → A0 q) (hf : ∀ q, free q → A0 q) (hAX : ∀ q, q < H.size → AX q → A0 q)
    (kx : ∀ (E : String) (ce : Cell) (q9 : Addr) (u : SX) (t : State) (H1 : Heap) (locs1 : List Loc), t.heap = H1 → s.vm.Alike t.vm → px u → BX E u t → H.size ≤ H1.size → (∀ q : Nat, q < H.size → ¬ AX q → H1[q]? = H[q]?) → va_S A0 H0 H1 locs1 → H1[q9]? = some ce → ce.vm = .none → s.vm.findClass E = some ce.cls → vx_W p l e R s m args below meth c H1 locs1 (cells + mc) (slots + ms) Q (F0 m pc ls rest) q9)
    (kk : ∀ (u : S) (t : State) (H1 : Heap) (locs1 : List Loc), t.heap = H1 → s.vm.Alike t.vm → post u → B u t → H.size ≤ H1.size → (∀ q : Nat, q < H.size → ¬ A1 q → H1[q]? = H[q]?) → va_S A0 H0 H1 locs1 → W p l e R s m args below meth c H1 locs1 (cells + mc) (slots + ms) Q (F0 m (pc + 3) ls (rest))) : W p l e R s m args below meth c H locs cells slots Q (F0 m pc ls st0) := by
  intro T hT X
  rcases hr T hT X with ⟨v, st₀, t, T', L, h0, X', hL, e1, e2, ⟨⟨u, hv, hp, hb⟩, hF⟩, st⟩ | ⟨q, st₀, t, T', L, E, ce, h0, X', hL, e1, e2, ⟨u, hp, hb, hF⟩, hce, hcv, hcl, st⟩
  · cases hv
    obtain ⟨k1, k2, k3⟩ := vx_keep h0 e1 hS hA hf hL hF
    obtain ⟨t2, a1, b1⟩ := kk u t T'.heap (locs ++ L) e1.symm (by rw [← e2]; exact X'.warmed.alike) hp hb k1 k2 k3 T' rfl X'
    exact ⟨t2, st t2 a1, b1⟩
  · obtain ⟨k1, k2, k3⟩ := vx_keep h0 e1 hS hAX hf hL hF
    obtain ⟨t2, a1, b1⟩ := kx E ce q u t T'.heap (locs ++ L) e1.symm (by rw [← e2]; exact X'.warmed.alike) hp hb k1 k2 k3 (by rw [e1]; exact hce) hcv hcl T' rfl X'
    exact ⟨t2, st.trans a1, b1⟩
/-- caught by the row x of this method's table; the rows ahead don't take it -/
theorem vx_catch {own name : String} {E : String} {ce : Cell} {q : Addr} (hown : s.vm.findClass own = some m.cls) (pre : List ExceptionTableEntry) (x : ExceptionTableEntry) (suf : List ExceptionTableEntry) (hsplit : c.exceptionTable.toList = pre ++ x :: suf)
    (hpass : ∀ z ∈ pre, covers z pc = false ∨ (z.catchType ≠ 0 ∧ ∃ nm : String, (Cond.classLink own z.catchType nm).before args s = true ∧ va_Nc E nm s)) (hx : covers x pc = true) (h0 : x.catchType ≠ 0)
    (hlink : (Cond.classLink own x.catchType name).before args s = true) (hcast : (Cond.castable E name).before args s = true) (hcell : H[q]? = some ce) (hv : ce.vm = .none) (hcl : s.vm.findClass E = some ce.cls)
    (kk : W p l e R s m args below meth c H locs cells slots Q (F0 m x.handlerPc ls [.ref q])) : vx_W p l e R s m args below meth c H locs cells slots Q (F0 m pc ls rest) q := by
  intro T hT X
  have hpl : e.platform.magicAccessors = ({} : Platform).magicAccessors := by rw [X.admits.platform]
  obtain ⟨c3, c4, hc3, hc4, hasg⟩ := Cond.castable_spec hcast
  cases Option.some.inj (hc3.symm.trans hcl)
  obtain ⟨c5, hc5, hcl5⟩ := Cond.classLink_spec hown hlink e.platform hpl
  cases Option.some.inj (hc4.symm.trans hc5)
  obtain ⟨vm', X', st⟩ := X.thenCaughtThrough q (g := F0 m pc ls rest) rfl (Steps.refl _) (by rw [hT]; exact hcell) (by rw [hv]; rfl) (by obtain ⟨k9, h9, -⟩ := Vm.findClass_spec hcl; exact ⟨k9, h9⟩) pre x suf hsplit
    (fun z hz => by
      rcases hpass z hz with h | ⟨hz0, nm, hl1, hn1⟩
      · exact Or.inl h
      · obtain ⟨c6, hc6, hcl6⟩ := Cond.classLink_spec hown hl1 e.platform hpl
        obtain ⟨a8, b8, h1, h2, h3⟩ := hn1
        cases Option.some.inj (h1.symm.trans hcl)
        cases Option.some.inj (h2.symm.trans hc6)
        exact Or.inr ⟨hz0, _, hcl6, h3⟩) hx (Or.inr ⟨h0, c4, hcl5, hasg⟩)
  obtain ⟨t, a1, b1⟩ := kk (T.setVm vm') hT X'
  exact ⟨t, st.trans a1, b1⟩
end Rows
section Ends
variable {p : Program} {l : Launch} {e : Env} {R : Room} {s : State} {m : MethodId} {args : Array Value} {below : List Frame} {meth : Method} {c : Code} {H : Heap} {locs : List Loc} {cells slots : Nat} {Q : State → Prop}
variable {mc ms : Nat} {free : Addr → Prop} {A0 A1 : Nat → Prop} {H0 : Heap} {a : Array Value} {ls : Array Slot} {st0 rest : List Value}
variable {Qc : Array Value → State → Outcome → State → Prop} {XC : String → State → State → Prop}
/-- what a body that may throw owes at its end -/
def vx_MQ (below : List Frame) (Qc : Array Value → State → Outcome → State → Prop) (XC : String → State → State → Prop) (a : Array Value) (s : State) (mc ms : Nat) (free : Addr → Prop) : State → Prop := fun t =>
  ∃ o, t.status = .running ∧ Ended t below o ∧ vx_Q Qc XC mc ms free a s o t
theorem vx_ret {g : JFrame} {mc ms : Nat} (k : W p l e R s m args below meth c H locs cells slots (MQ below Qc args s mc ms free) g) : W p l e R s m args below meth c H locs cells slots (vx_MQ below Qc XC args s mc ms free) g := by
  intro T hT X
  obtain ⟨t, a1, o, b1, b2, b3, b4⟩ := k T hT X
  exact ⟨t, a1, o, b1, b2, Or.inl ⟨b3, b4⟩⟩
/-- not caught here: it goes on to the caller -/
theorem vx_widen {g : JFrame} {q : Addr} {k n : Nat} (h1 : cells ≤ k) (h2 : slots ≤ n) (kk : vx_W p l e R s m args below meth c H locs k n Q g q) : vx_W p l e R s m args below meth c H locs cells slots Q g q := fun T hT X => kk T hT (stand_widen X h1 h2)
theorem vx_out {pc : Nat} {E : String} {ce : Cell} {q : Addr} {mc ms : Nat} (hout : ∀ x ∈ c.exceptionTable.toList, covers x pc = false) (hlocks : meth.locks = false) (hcell : H[q]? = some ce) (hv : ce.vm = .none) (hcl : s.vm.findClass E = some ce.cls)
    (hx : ∀ t : State, t.heap = H → s.vm.Alike t.vm → XC E s t) (hf : ∀ z ∈ locs, free z.base) (hc : cells ≤ mc) (hs : slots ≤ ms) :
    vx_W p l e R s m args below meth c H locs cells slots (vx_MQ below Qc XC args s mc ms free) (F0 m pc ls rest) q := by
  intro T hT X
  obtain ⟨st1, hrun, hend, hW, hsm⟩ := X.leaveThrown q (g := F0 m pc ls rest) rfl rfl rfl hout hlocks
  have hcell9 : (T.setFrames (.throwing q :: below)).heap[q]? = some ce := by
    show T.heap[q]? = some ce
    rw [hT]; exact hcell
  exact ⟨_, st1, .threw q, hrun, hend, Or.inr ⟨q, rfl, E, ce, locs, hx _ hT hW.alike, hcell9, hv, hcl, hW, hsm.mono hc hs, hf⟩⟩
theorem vx_frame {U : State} {k n : Nat} (h : s.sameButNew ({ U with vm := s.vm } : State) locs k n) : s.heap.size ≤ U.heap.size ∧ ∀ q : Nat, q < s.heap.size → (∀ z ∈ locs, z.base ≠ q) → U.heap[q]? = s.heap[q]? := by
  obtain ⟨-, h2, -, -, -, h6⟩ := h
  refine ⟨h2, fun q hq hz => ?_⟩
  obtain ⟨c9, e1, e2, e3, e4⟩ := h6 q _ (Array.getElem?_eq_getElem hq)
  have hs : c9.slots = (s.heap[q]).slots := Array.ext_getElem? fun i => e4 i fun hm => hz _ hm rfl
  have h9 : c9 = s.heap[q] := by
    rw [hs] at e2
    exact e2
  have e5 : U.heap[q]? = some c9 := e1
  rw [e5, h9, Array.getElem?_eq_getElem hq]
/-- the words of a throw but the four that speak of the heap -/
def vx_no (w : Cond) : Bool := decide (w ≠ .isRef (.static Bundle.tN "UNASSIGNED_STACK" Bundle.steD)) && decide (w ≠ .isRef (.static Bundle.tN "SUPPRESSED_SENTINEL" Bundle.listD)) && decide (w ≠ .laysStatic Bundle.tN "UNASSIGNED_STACK" Bundle.steD) && decide (w ≠ .laysStatic Bundle.tN "SUPPRESSED_SENTINEL" Bundle.listD)
def vx_at0 (own : String) (ic : Nat) (X : String) (names : List String) : List Cond := (Bundle.ownAtoms0 own ic X names).filter vx_no
def vx_atS (own : String) (ic : Nat) (X : String) (names : List String) : List Cond := (Bundle.ownAtoms own ic X names).filter vx_no
/-- a word that the tables alone decide, or a good one -/
def vx_ot (w : Cond) : Bool := w.onTables || goodWord w
theorem vx_ot_at {args a' : Array Value} {s U : State} {w : Cond} (hW : s.WarmedH U.vm) (hvm : s.vm = U.vm) (hg : vx_ot w = true) (h : w.before args s = true) : w.before a' U = true := by
  simp only [vx_ot, Bool.or_eq_true] at hg
  rcases hg with hg | hg
  · exact va_tabs hg hvm h
  · exact word_at hW (good_of_word hg) h
/-- a list's words: the good ones out of the method's own list, the others by premises of their own -/
theorem vx_hat {args : Array Value} {s : State} {L B : List Cond} (h1 : ∀ w ∈ L.filter goodWord, w.before args s = true) (h2 : ∀ w ∈ L.filter (fun w => !goodWord w), w ∈ B) (h3 : ∀ w ∈ B, w.before args s = true) : ∀ w ∈ L, w.before args s = true := by
  intro w hw
  by_cases g : goodWord w = true
  · exact h1 w (List.mem_filter.mpr ⟨hw, g⟩)
  · refine h3 w (h2 w (List.mem_filter.mpr ⟨hw, ?_⟩))
    show (!goodWord w) = true
    cases hgw : goodWord w
    · rfl
    · exact absurd hgw g
theorem vx_c {args : Array Value} {s : State} {w : Cond} {B : List Cond} (h : w.before args s = true) (t : ∀ w ∈ B, w.before args s = true) : ∀ w' ∈ w :: B, w'.before args s = true := fun w' h' => (List.mem_cons.mp h').elim (fun e => by rw [e]; exact h) (t w')
theorem vx_n {args : Array Value} {s : State} : ∀ w ∈ ([] : List Cond), w.before args s = true := fun _ h => nomatch h
theorem vx_own {args : Array Value} {s : State} {L : List Cond} (h1 : ∀ w ∈ L.filter vx_no, w.before args s = true)
    (hU : (Cond.isRef (.static Bundle.tN "UNASSIGNED_STACK" Bundle.steD)).before args s = true) (hN : (Cond.isRef (.static Bundle.tN "SUPPRESSED_SENTINEL" Bundle.listD)).before args s = true)
    (lU : (Cond.laysStatic Bundle.tN "UNASSIGNED_STACK" Bundle.steD).before args s = true) (lN : (Cond.laysStatic Bundle.tN "SUPPRESSED_SENTINEL" Bundle.listD).before args s = true) : ∀ w ∈ L, w.before args s = true := by
  intro w hw
  by_cases e1 : w = .isRef (.static Bundle.tN "UNASSIGNED_STACK" Bundle.steD)
  · rw [e1]; exact hU
  · by_cases e2 : w = .isRef (.static Bundle.tN "SUPPRESSED_SENTINEL" Bundle.listD)
    · rw [e2]; exact hN
    · by_cases e3 : w = .laysStatic Bundle.tN "UNASSIGNED_STACK" Bundle.steD
      · rw [e3]; exact lU
      · by_cases e4 : w = .laysStatic Bundle.tN "SUPPRESSED_SENTINEL" Bundle.listD
        · rw [e4]; exact lN
        · exact h1 w (List.mem_filter.mpr ⟨hw, by unfold vx_no; rw [decide_eq_true e1, decide_eq_true e2, decide_eq_true e3, decide_eq_true e4]; rfl⟩)
/-- where a static field lies, its class's statics cell in H -/
def vx_L (C n d : String) (A : Nat → Prop) (U : State) (H : Heap) : Prop := ∃ (c : ClassId) (k : Class) (i : Nat) (f : Field) (a : Nat) (cell : Cell), U.vm.findClass C = some c ∧ U.fieldFound? C n d = some (c, k, i, f) ∧ f.isStatic = true ∧ k.statics = some a ∧ H[a]? = some cell ∧ cell.vm.isStatics = true ∧ cell.cls = c ∧ f.slot < cell.slots.size ∧ k.staticTypes[f.slot]? = some f.type ∧ ¬ A a
theorem vx_L.moved {C n d : String} {A : Nat → Prop} {u U : State} {H : Heap} (hvm : u.vm.Alike U.vm) (h : vx_L C n d A u H) : vx_L C n d A U H := by
  obtain ⟨c, k, i, f, a, cell, h1, h2, h3, h4, h5, h6, h7, h8, h9, h10⟩ := h
  obtain ⟨k', hi', he⟩ := State.fieldFound?_setVm hvm h2
  exact ⟨c, k', i, f, a, cell, by rw [hvm.findClass]; exact h1, hi', h3, by rw [he]; exact h4, h5, h6, h7, h8, by rw [he]; exact h9, h10⟩
theorem vx_L.kept {C n d : String} {A : Nat → Prop} {U : State} {H H1 : Heap} (h : vx_L C n d A U H) (hq : ∀ a : Nat, a < H.size → ¬ A a → H1[a]? = H[a]?) : vx_L C n d A U H1 := by
  obtain ⟨c, k, i, f, a, cell, h1, h2, h3, h4, h5, h6, h7, h8, h9, h10⟩ := h
  exact ⟨c, k, i, f, a, cell, h1, h2, h3, h4, by rw [hq a (Array.getElem?_eq_some_iff.mp h5).1 h10]; exact h5, h6, h7, h8, h9, h10⟩
theorem vx_L.narrow {C n d : String} {A B : Nat → Prop} {U : State} {H : Heap} (h : vx_L C n d A U H) (hAB : ∀ q, B q → A q) : vx_L C n d B U H := by
  obtain ⟨c, k, i, f, a, cell, h1, h2, h3, h4, h5, h6, h7, h8, h9, h10⟩ := h
  exact ⟨c, k, i, f, a, cell, h1, h2, h3, h4, h5, h6, h7, h8, h9, fun z => h10 (hAB _ z)⟩
theorem vx_L.word {C n d : String} {A : Nat → Prop} {s : State} {args : Array Value} (h : vx_L C n d A s s.heap) : (Cond.laysStatic C n d).before args s = true := by
  obtain ⟨c, k, i, f, a, cell, h1, h2, h3, h4, h5, h6, h7, h8, h9, -⟩ := h
  show (Cond.laysStatic C n d).holds args s none s [] = true
  exact Cond.laysStatic_of h1 h2 h3 h4 h5 h6 h7 h8 h9
/-- .. and what it holds: null or some reference -/
def vx_Zq (C n d : String) (A : Nat → Prop) (U : State) (H : Heap) : Prop := va_Zq C n d A U H ∧ vx_L C n d A U H
theorem vx_Zq.moved {C n d : String} {A : Nat → Prop} {u U : State} {H : Heap} (hvm : u.vm.Alike U.vm) (h : vx_Zq C n d A u H) : vx_Zq C n d A U H := ⟨va_Zq.moved hvm h.1, vx_L.moved hvm h.2⟩
theorem vx_Zq.kept {C n d : String} {A : Nat → Prop} {U : State} {H H1 : Heap} (h : vx_Zq C n d A U H) (hq : ∀ a : Nat, a < H.size → ¬ A a → H1[a]? = H[a]?) : vx_Zq C n d A U H1 := ⟨va_Zq.kept h.1 hq, vx_L.kept h.2 hq⟩
theorem vx_Zq.narrow {C n d : String} {A B : Nat → Prop} {U : State} {H : Heap} (h : vx_Zq C n d A U H) (hAB : ∀ q, B q → A q) : vx_Zq C n d B U H := ⟨va_Zq.narrow h.1 hAB, vx_L.narrow h.2 hAB⟩
theorem vx_Zqof {args : Array Value} {s : State} {C n d : String} {A : Nat → Prop} (hl : (Cond.laysStatic C n d).before args s = true) (hini : (Cond.initialized C).before args s = true) (h : (Cond.isRef (.static C n d)).before args s = true) (hA : ∀ a : Nat, a < s.heap.size → ¬ A a) : vx_Zq C n d A s s.heap := by
  refine ⟨va_Zqof hl hini h hA, ?_⟩
  obtain ⟨c, k, i, f, a, cell, h1, h2, h3, h4, h5, h6, h7, h8, h9⟩ := Cond.laysStatic_spec hl
  exact ⟨c, k, i, f, a, cell, h1, h2, h3, h4, h5, h6, h7, h8, h9, hA a (Array.getElem?_eq_some_iff.mp h5).1⟩
theorem vx_isRef {C n d : String} {v : Value} {A : Nat → Prop} {s : State} {args : Array Value} (h : va_Z C n d v A s s.heap) (hv : v.isRef = true) : (Cond.isRef (.static C n d)).before args s = true := by
  obtain ⟨cf, kf, fi, f, a, cell, h1, h2, h3, h4, h5, h6, h7, -⟩ := h
  have he : (Term.static C n d).eval args s none [] s = some v := by
    simp [Term.eval, State.fieldNamed?, h1, h2, h4, h5, h6, h7]
  simp only [Cond.before, Cond.holds, Cond.value, he]
  cases v <;> simp_all [Value.isRef]
theorem vx_isRefq {C n d : String} {A : Nat → Prop} {s : State} {args : Array Value} (h : va_Zq C n d A s s.heap) : (Cond.isRef (.static C n d)).before args s = true := by
  rcases h with h | ⟨t, h⟩
  · exact vx_isRef h rfl
  · exact vx_isRef h rfl
/-- the same frame, seen from here: as if the method were called anew in this heap -/
theorem vx_rebase {T : State} (X : Stand p l e R s m args below meth c T locs cells slots) {R' : Room} (hf : R'.frames ≤ R.frames) (hl : R'.locals ≤ R.locals) (hc : cells + R'.cells ≤ R.cells) (hs : slots + R'.slots ≤ R.slots) :
    Stand p l e R' ((T.setVm s.vm).setFrames (.invoking m args :: below)) m args below meth c T [] 0 0 := by
  have htop : (T.setVm s.vm).topJava?.isSome := X.here.top
  have hF : ((T.setVm s.vm).setFrames (.invoking m args :: below)).frames = .invoking m args :: below := State.frames_setFrames _ (State.cur_lt_of_top htop)
  obtain ⟨g₀, hg0⟩ := Option.isSome_iff_exists.mp htop
  obtain ⟨r, hr⟩ := State.topJava?_eq_some.mp hg0
  have hl9 : e.platform.stackLimits (T.setVm s.vm).me = e.platform.stackLimits s.me := X.limits
  have hb9 : (T.setVm s.vm).me.stackBytes = s.me.stackBytes := X.bytes
  refine ⟨X.admits, X.cas, X.clock, hF, ?_, X.hears, X.method, X.code, X.here, X.tail, X.warmed, ?_, ?_, ?_⟩
  · have h := X.room
    have hU : ((T.setVm s.vm).setFrames (.invoking m args :: below)).localsInUse = s.localsInUse := by
      rw [State.localsInUse_invoking hF (meth := meth) (c := c) X.method X.code, State.localsInUse_invoking X.frames X.method X.code]
    simp only [State.hasRoom, Bool.and_eq_true, decide_eq_true_eq] at h ⊢
    obtain ⟨⟨⟨⟨h1, h2, h3, h4, h5, h6⟩, h7⟩, h8⟩, h9⟩ := h
    rw [X.frames, List.length_cons] at h2 h3
    have q1 := X.heapSize
    have q2 := X.used
    simp only [hF, hU, List.length_cons, State.stackLimits_setFrames, State.stackBytes_setFrames, hl9, hb9]
    refine ⟨⟨⟨⟨by omega, by omega, by omega, by omega, by omega, h6⟩, ?_⟩, ?_⟩, X.book⟩
    · show T.heap.size + R'.cells ≤ e.platform.maxCells
      omega
    · show T.slotsUsed + R'.slots ≤ e.platform.maxSlots
      omega
  · rw [State.stackLimits_setFrames]; rfl
  · rw [State.stackBytes_setFrames]; rfl
  · refine ⟨?_, Nat.le_refl _, Nat.le_refl _, ?_, ?_, fun a c9 h9 => ⟨c9, h9, rfl, rfl, fun _ _ => rfl⟩⟩
    · obtain ⟨t, ht, -⟩ := State.frames_cons hr
      show T.setVm s.vm = { ((T.setVm s.vm).setFrames (.invoking m args :: below)).setFrames (T.setVm s.vm).frames with heap := T.heap, slotsUsed := T.slotsUsed }
      rw [State.setFrames_setFrames, State.setFrames_self ht]
      rfl
    · show T.slotsUsed = T.slotsUsed + ((T.heap.toList.drop T.heap.size).map (·.slots.size)).sum
      rw [List.drop_eq_nil_of_le (Nat.le_of_eq Array.length_toList)]
      rfl
    · show ((T.heap.toList.drop T.heap.size).map (·.slots.size)).sum ≤ 0
      rw [List.drop_eq_nil_of_le (Nat.le_of_eq Array.length_toList)]
      exact Nat.le_refl _
/-- 'throw new E()': new; dup; invokespecial; athrow -/
theorem vx_throw0 {cc : ByteArray} {pc : Nat} (hexec : p.tables.exec = Jvm.exec) (hb : c.code = cc) (hl : l.stackTraces = false) {own cls : String} {names : List String} {ik ic mc ms : Nat} {A : Nat → Prop}
    (hown : s.vm.findClass own = some m.cls) (hcls : Bundle.fit cls = true) (hnames : ∀ n ∈ names, Bundle.fit n = true)
    (hk : (Cond.classLink own ik cls).before args s = true) (hini : (Cond.initialized cls).before args s = true) (hat : ∀ w ∈ vx_at0 own ic cls names, w.before args s = true)
    (hgood : ∀ w ∈ Cond.classLink own ik cls :: Cond.initialized cls :: vx_at0 own ic cls names, vx_ot w = true)
    (hU : vx_Zq Bundle.tN "UNASSIGNED_STACK" Bundle.steD A s s.heap) (hN : vx_Zq Bundle.tN "SUPPRESSED_SENTINEL" Bundle.listD A s s.heap) (hS : va_S A s.heap H locs) (hsize : ls.size = c.maxLocals)
    (d0 : decode cc pc = .ok (.new ik, 3)) (d3 : decode cc (pc + 3) = .ok (.dup, 1)) (d4 : decode cc (pc + 4) = .ok (.invokespecial ic, 3)) (d7 : decode cc (pc + 7) = .ok (.athrow, 1))
    (hout : ∀ x ∈ c.exceptionTable.toList, covers x (pc + 7) = false)
    (hRframes : names.length + 3 < R.frames) (hRlocals : (rest.map fun v => v.category).sum + (13 * (names.length + 1) + 42) ≤ R.locals) (hRcells : cells + 1 ≤ R.cells) (hRslots : slots + 6 ≤ R.slots) (hlocks : meth.locks = false)
    (hx : ∀ t : State, s.vm.Alike t.vm → H.size ≤ t.heap.size → (∀ q : Nat, q < H.size → t.heap[q]? = H[q]?) → XC cls s t)
    (hf : ∀ z ∈ locs, free z.base) (hc : cells + 1 ≤ mc) (hs : slots + 6 ≤ ms) :
    W p l e R s m args below meth c H locs cells slots (vx_MQ below Qc XC args s mc ms free) (F0 m pc ls rest) := by
  intro T hT X
  have htr : e.platform.stackTraces = false := (show e.platform.stackTraces = l.stackTraces by rw [X.admits.platform]).trans hl
  have Y := vx_rebase X (R' := { frames := R.frames, locals := R.locals, cells := 1, slots := 6 }) (Nat.le_refl _) (Nat.le_refl _) hRcells hRslots
  obtain ⟨s', hA⟩ : ∃ z, z = (T.setVm s.vm).setFrames (.invoking m args :: below) := ⟨_, rfl⟩
  rw [← hA] at Y
  have hvm : s'.vm = s.vm := by rw [hA]; rfl
  have hhp : s'.heap = H := by rw [hA]; exact hT
  have hW0 : s.WarmedH s'.vm := by rw [hvm]; exact State.WarmedH.refl s
  have hat' : ∀ w ∈ vx_at0 own ic cls names, w.before args s' = true := fun w hw => vx_ot_at hW0 hvm.symm (hgood w (List.mem_cons_of_mem _ (List.mem_cons_of_mem _ hw))) (hat w hw)
  have hk' : (Cond.classLink own ik cls).before args s' = true := vx_ot_at hW0 hvm.symm (hgood _ List.mem_cons_self) hk
  have hini' : (Cond.initialized cls).before args s' = true := vx_ot_at hW0 hvm.symm (hgood _ (List.mem_cons_of_mem _ List.mem_cons_self)) hini
  have hU' : vx_Zq Bundle.tN "UNASSIGNED_STACK" Bundle.steD A s' s'.heap := by rw [hhp]; exact vx_Zq.moved hW0.alike (hU.kept hS.2.1)
  have hN' : vx_Zq Bundle.tN "SUPPRESSED_SENTINEL" Bundle.listD A s' s'.heap := by rw [hhp]; exact vx_Zq.moved hW0.alike (hN.kept hS.2.1)
  have h : ∀ w ∈ Bundle.ownAtoms0 own ic cls names, w.before args s' = true := vx_own hat' (vx_isRefq hU'.1) (vx_isRefq hN'.1) hU'.2.word hN'.2.word
  have hown' : s'.vm.findClass own = some m.cls := by rw [hvm]; exact hown
  have hins : (Cond.instantiable cls 6).before args s' = true := h _ (by simp [Bundle.ownAtoms0])
  obtain ⟨vm₁, cX, kX, hfX, hkX, -, -, X₁, st1⟩ := Y.newCold hexec (own := own) (C := cls) (index := ik) (n := 6) hown' hk' hins hini'
    (g := F0 m pc ls rest) rfl (by rw [hb]; exact d0) (Nat.le_refl _) (Nat.le_refl _)
  generalize hT1 : (T.setVm vm₁).pushCell { cls := cX, slots := kX.instanceTypes.map defaultValue, vm := .none } = T1 at X₁ st1
  have hcat : (Value.ref T.heap.size).category = 1 := rfl
  have hcellA : T1.heap[T.heap.size]? = some (freshCell cX kX) := by rw [← hT1]; exact State.heap_pushCell_size _ _
  have d3' : decode c.code (pc + 3) = .ok (.dup, 1) := by rw [hb]; exact d3
  obtain ⟨U, hsteps, hrun, hend, hW, hsame, ce, hce, hO⟩ := X₁.ctorThrow0 hexec htr (own := own) (cls := cls) (names := names) (ic := ic) hown' hcls hnames h (fun x hx => nomatch hx) hfX hkX hcellA (by rw [hhp, hT]; exact Nat.le_refl _)
    (g := { method := m, pc := pc + 4, locals := ls, stack := .ref T.heap.size :: .ref T.heap.size :: rest, locked := none }) rfl hsize rfl rfl (rest := rest) rfl
    (by rw [hb]; exact d4) (by rw [hb]; exact d7) hout hRframes (by simp only [List.map_cons, List.sum_cons, hcat]; omega) hlocks
  obtain ⟨f1, f2⟩ := vx_frame hsame
  rw [hhp] at f1 f2
  have hWs : s.WarmedH U.vm := State.WarmedH.trans hW0 hW
  have hcl : s.vm.findClass cls = some ce.cls := by
    have h9 := hO.cls
    rw [hvm] at h9
    exact h9
  have hall : s.sameButNew ({ U with vm := s.vm } : State) locs mc ms := by
    subst hA
    obtain ⟨e1, e2⟩ := hsame
    rw [State.setFrames_setFrames] at e1
    have h2 : (T.setVm s.vm).sameButNew ({ U with vm := s.vm } : State) [] (0 + 1) (0 + 6) := ⟨e1, e2⟩
    have h3 := X.same.trans h2
    rw [List.append_nil] at h3
    exact h3.mono hc hs
  refine ⟨U, ?_, .threw T.heap.size, hrun, hend, Or.inr ⟨T.heap.size, rfl, cls, ce, locs, hx U hWs.alike f1 (fun q hq => f2 q hq (fun z hz => nomatch hz)), hce, hO.vm, hcl, hWs, hall, hf⟩⟩
  refine st1 _ ?_
  show Steps p.tables e below (T1.setTop { method := m, pc := pc + 3, locals := ls, stack := .ref T.heap.size :: rest, locked := none }) _
  jvm_step X₁.here [X₁.here.top, hexec, d3', Value.category]
  exact hsteps
/-- 'throw new E("text")': new; dup; ldc; invokespecial; athrow -/
theorem vx_throwS {cc : ByteArray} {pc : Nat} (hexec : p.tables.exec = Jvm.exec) (hb : c.code = cc) (hl : l.stackTraces = false) {own cls text : String} {names : List String} {ik is ic mc ms sa : Nat} {A : Nat → Prop}
    (hown : s.vm.findClass own = some m.cls) (hcls : Bundle.fit cls = true) (hnames : ∀ n ∈ names, Bundle.fit n = true)
    (hk : (Cond.classLink own ik cls).before args s = true) (hini : (Cond.initialized cls).before args s = true) (hstr : vk_R own is text sa s) (hat : ∀ w ∈ vx_atS own ic cls names, w.before args s = true)
    (hgood : ∀ w ∈ Cond.classLink own ik cls :: Cond.initialized cls :: vx_atS own ic cls names, vx_ot w = true)
    (hU : vx_Zq Bundle.tN "UNASSIGNED_STACK" Bundle.steD A s s.heap) (hN : vx_Zq Bundle.tN "SUPPRESSED_SENTINEL" Bundle.listD A s s.heap) (hS : va_S A s.heap H locs) (hsize : ls.size = c.maxLocals)
    (d0 : decode cc pc = .ok (.new ik, 3)) (d3 : decode cc (pc + 3) = .ok (.dup, 1)) (d4 : decode cc (pc + 4) = .ok (.ldc is, 2)) (d6 : decode cc (pc + 6) = .ok (.invokespecial ic, 3)) (d9 : decode cc (pc + 9) = .ok (.athrow, 1))
    (hout : ∀ x ∈ c.exceptionTable.toList, covers x (pc + 9) = false)
    (hRframes : names.length + 3 < R.frames) (hRlocals : (rest.map fun v => v.category).sum + (13 * (names.length + 1) + 43) ≤ R.locals) (hRcells : cells + 1 ≤ R.cells) (hRslots : slots + 6 ≤ R.slots) (hlocks : meth.locks = false)
    (hx : ∀ t : State, s.vm.Alike t.vm → H.size ≤ t.heap.size → (∀ q : Nat, q < H.size → t.heap[q]? = H[q]?) → XC cls s t)
    (hf : ∀ z ∈ locs, free z.base) (hc : cells + 1 ≤ mc) (hs : slots + 6 ≤ ms) :
    W p l e R s m args below meth c H locs cells slots (vx_MQ below Qc XC args s mc ms free) (F0 m pc ls rest) := by
  intro T hT X
  have htr : e.platform.stackTraces = false := (show e.platform.stackTraces = l.stackTraces by rw [X.admits.platform]).trans hl
  have Y := vx_rebase X (R' := { frames := R.frames, locals := R.locals, cells := 1, slots := 6 }) (Nat.le_refl _) (Nat.le_refl _) hRcells hRslots
  obtain ⟨s', hA⟩ : ∃ z, z = (T.setVm s.vm).setFrames (.invoking m args :: below) := ⟨_, rfl⟩
  rw [← hA] at Y
  have hvm : s'.vm = s.vm := by rw [hA]; rfl
  have hhp : s'.heap = H := by rw [hA]; exact hT
  have hW0 : s.WarmedH s'.vm := by rw [hvm]; exact State.WarmedH.refl s
  have hat' : ∀ w ∈ vx_atS own ic cls names, w.before args s' = true := fun w hw => vx_ot_at hW0 hvm.symm (hgood w (List.mem_cons_of_mem _ (List.mem_cons_of_mem _ hw))) (hat w hw)
  have hk' : (Cond.classLink own ik cls).before args s' = true := vx_ot_at hW0 hvm.symm (hgood _ List.mem_cons_self) hk
  have hini' : (Cond.initialized cls).before args s' = true := vx_ot_at hW0 hvm.symm (hgood _ (List.mem_cons_of_mem _ List.mem_cons_self)) hini
  have hU' : vx_Zq Bundle.tN "UNASSIGNED_STACK" Bundle.steD A s' s'.heap := by rw [hhp]; exact vx_Zq.moved hW0.alike (hU.kept hS.2.1)
  have hN' : vx_Zq Bundle.tN "SUPPRESSED_SENTINEL" Bundle.listD A s' s'.heap := by rw [hhp]; exact vx_Zq.moved hW0.alike (hN.kept hS.2.1)
  have h : ∀ w ∈ Bundle.ownAtoms own ic cls names, w.before args s' = true := vx_own hat' (vx_isRefq hU'.1) (vx_isRefq hN'.1) hU'.2.word hN'.2.word
  have hown' : s'.vm.findClass own = some m.cls := by rw [hvm]; exact hown
  have hins : (Cond.instantiable cls 6).before args s' = true := h _ (by simp [Bundle.ownAtoms])
  obtain ⟨vm₁, cX, kX, hfX, hkX, -, -, X₁, st1⟩ := Y.newCold hexec (own := own) (C := cls) (index := ik) (n := 6) hown' hk' hins hini'
    (g := F0 m pc ls rest) rfl (by rw [hb]; exact d0) (Nat.le_refl _) (Nat.le_refl _)
  generalize hT1 : (T.setVm vm₁).pushCell { cls := cX, slots := kX.instanceTypes.map defaultValue, vm := .none } = T1 at X₁ st1
  have hcat : (Value.ref T.heap.size).category = 1 := rfl
  have hcellA : T1.heap[T.heap.size]? = some (freshCell cX kX) := by rw [← hT1]; exact State.heap_pushCell_size _ _
  have d3' : decode c.code (pc + 3) = .ok (.dup, 1) := by rw [hb]; exact d3
  have d4' : decode c.code (pc + 4) = .ok (.ldc is, 2) := by rw [hb]; exact d4
  have hstr' : vk_R own is text sa s' := vk_R.warm hW0 hstr
  obtain ⟨U, hsteps, hrun, hend, hW, hsame, ce, hce, hO⟩ := X₁.ctorThrowS hexec htr (own := own) (cls := cls) (names := names) (ic := ic) hown' hcls hnames h (fun x hx => nomatch hx) hfX hkX hcellA (by rw [hhp, hT]; exact Nat.le_refl _) (msg := .ref sa) rfl
    (g := { method := m, pc := pc + 6, locals := ls, stack := .ref sa :: .ref T.heap.size :: .ref T.heap.size :: rest, locked := none }) rfl hsize rfl rfl (rest := rest) rfl
    (by rw [hb]; exact d6) (by rw [hb]; exact d9) hout hRframes (by simp only [List.map_cons, List.sum_cons, hcat]; omega) hlocks
  obtain ⟨f1, f2⟩ := vx_frame hsame
  rw [hhp] at f1 f2
  have hWs : s.WarmedH U.vm := State.WarmedH.trans hW0 hW
  have hcl : s.vm.findClass cls = some ce.cls := by
    have h9 := hO.cls
    rw [hvm] at h9
    exact h9
  have hall : s.sameButNew ({ U with vm := s.vm } : State) locs mc ms := by
    subst hA
    obtain ⟨e1, e2⟩ := hsame
    rw [State.setFrames_setFrames] at e1
    have h2 : (T.setVm s.vm).sameButNew ({ U with vm := s.vm } : State) [] (0 + 1) (0 + 6) := ⟨e1, e2⟩
    have h3 := X.same.trans h2
    rw [List.append_nil] at h3
    exact h3.mono hc hs
  refine ⟨U, ?_, .threw T.heap.size, hrun, hend, Or.inr ⟨T.heap.size, rfl, cls, ce, locs, hx U hWs.alike f1 (fun q hq => f2 q hq (fun z hz => nomatch hz)), hce, hO.vm, hcl, hWs, hall, hf⟩⟩
  refine st1 _ ?_
  show Steps p.tables e below (T1.setTop { method := m, pc := pc + 3, locals := ls, stack := .ref T.heap.size :: rest, locked := none }) _
  jvm_step X₁.here [X₁.here.top, hexec, d3', Value.category]
  exact X₁.ldcString hexec (own := own) (text := text) (index := is) (a := sa) hown' hstr'.1 hstr'.2
    (g := { method := m, pc := pc + 4, locals := ls, stack := .ref T.heap.size :: .ref T.heap.size :: rest, locked := none }) rfl d4' _ hsteps
/-- 'throw new E("text")', the text by a wide index -/
theorem vx_throwSW {cc : ByteArray} {pc : Nat} (hexec : p.tables.exec = Jvm.exec) (hb : c.code = cc) (hl : l.stackTraces = false) {own cls text : String} {names : List String} {ik is ic mc ms sa : Nat} {A : Nat → Prop}
    (hown : s.vm.findClass own = some m.cls) (hcls : Bundle.fit cls = true) (hnames : ∀ n ∈ names, Bundle.fit n = true)
    (hk : (Cond.classLink own ik cls).before args s = true) (hini : (Cond.initialized cls).before args s = true) (hstr : vk_R own is text sa s) (hat : ∀ w ∈ vx_atS own ic cls names, w.before args s = true)
    (hgood : ∀ w ∈ Cond.classLink own ik cls :: Cond.initialized cls :: vx_atS own ic cls names, vx_ot w = true)
    (hU : vx_Zq Bundle.tN "UNASSIGNED_STACK" Bundle.steD A s s.heap) (hN : vx_Zq Bundle.tN "SUPPRESSED_SENTINEL" Bundle.listD A s s.heap) (hS : va_S A s.heap H locs) (hsize : ls.size = c.maxLocals)
    (d0 : decode cc pc = .ok (.new ik, 3)) (d3 : decode cc (pc + 3) = .ok (.dup, 1)) (d4 : decode cc (pc + 4) = .ok (.ldc_w is, 3)) (d7 : decode cc (pc + 7) = .ok (.invokespecial ic, 3)) (d10 : decode cc (pc + 10) = .ok (.athrow, 1))
    (hout : ∀ x ∈ c.exceptionTable.toList, covers x (pc + 10) = false)
    (hRframes : names.length + 3 < R.frames) (hRlocals : (rest.map fun v => v.category).sum + (13 * (names.length + 1) + 43) ≤ R.locals) (hRcells : cells + 1 ≤ R.cells) (hRslots : slots + 6 ≤ R.slots) (hlocks : meth.locks = false)
    (hx : ∀ t : State, s.vm.Alike t.vm → H.size ≤ t.heap.size → (∀ q : Nat, q < H.size → t.heap[q]? = H[q]?) → XC cls s t)
    (hf : ∀ z ∈ locs, free z.base) (hc : cells + 1 ≤ mc) (hs : slots + 6 ≤ ms) :
    W p l e R s m args below meth c H locs cells slots (vx_MQ below Qc XC args s mc ms free) (F0 m pc ls rest) := by
  intro T hT X
  have htr : e.platform.stackTraces = false := (show e.platform.stackTraces = l.stackTraces by rw [X.admits.platform]).trans hl
  have Y := vx_rebase X (R' := { frames := R.frames, locals := R.locals, cells := 1, slots := 6 }) (Nat.le_refl _) (Nat.le_refl _) hRcells hRslots
  obtain ⟨s', hA⟩ : ∃ z, z = (T.setVm s.vm).setFrames (.invoking m args :: below) := ⟨_, rfl⟩
  rw [← hA] at Y
  have hvm : s'.vm = s.vm := by rw [hA]; rfl
  have hhp : s'.heap = H := by rw [hA]; exact hT
  have hW0 : s.WarmedH s'.vm := by rw [hvm]; exact State.WarmedH.refl s
  have hat' : ∀ w ∈ vx_atS own ic cls names, w.before args s' = true := fun w hw => vx_ot_at hW0 hvm.symm (hgood w (List.mem_cons_of_mem _ (List.mem_cons_of_mem _ hw))) (hat w hw)
  have hk' : (Cond.classLink own ik cls).before args s' = true := vx_ot_at hW0 hvm.symm (hgood _ List.mem_cons_self) hk
  have hini' : (Cond.initialized cls).before args s' = true := vx_ot_at hW0 hvm.symm (hgood _ (List.mem_cons_of_mem _ List.mem_cons_self)) hini
  have hU' : vx_Zq Bundle.tN "UNASSIGNED_STACK" Bundle.steD A s' s'.heap := by rw [hhp]; exact vx_Zq.moved hW0.alike (hU.kept hS.2.1)
  have hN' : vx_Zq Bundle.tN "SUPPRESSED_SENTINEL" Bundle.listD A s' s'.heap := by rw [hhp]; exact vx_Zq.moved hW0.alike (hN.kept hS.2.1)
  have h : ∀ w ∈ Bundle.ownAtoms own ic cls names, w.before args s' = true := vx_own hat' (vx_isRefq hU'.1) (vx_isRefq hN'.1) hU'.2.word hN'.2.word
  have hown' : s'.vm.findClass own = some m.cls := by rw [hvm]; exact hown
  have hins : (Cond.instantiable cls 6).before args s' = true := h _ (by simp [Bundle.ownAtoms])
  obtain ⟨vm₁, cX, kX, hfX, hkX, -, -, X₁, st1⟩ := Y.newCold hexec (own := own) (C := cls) (index := ik) (n := 6) hown' hk' hins hini'
    (g := F0 m pc ls rest) rfl (by rw [hb]; exact d0) (Nat.le_refl _) (Nat.le_refl _)
  generalize hT1 : (T.setVm vm₁).pushCell { cls := cX, slots := kX.instanceTypes.map defaultValue, vm := .none } = T1 at X₁ st1
  have hcat : (Value.ref T.heap.size).category = 1 := rfl
  have hcellA : T1.heap[T.heap.size]? = some (freshCell cX kX) := by rw [← hT1]; exact State.heap_pushCell_size _ _
  have d3' : decode c.code (pc + 3) = .ok (.dup, 1) := by rw [hb]; exact d3
  have d4' : decode c.code (pc + 4) = .ok (.ldc_w is, 3) := by rw [hb]; exact d4
  have hstr' : vk_R own is text sa s' := vk_R.warm hW0 hstr
  obtain ⟨U, hsteps, hrun, hend, hW, hsame, ce, hce, hO⟩ := X₁.ctorThrowS hexec htr (own := own) (cls := cls) (names := names) (ic := ic) hown' hcls hnames h (fun x hx => nomatch hx) hfX hkX hcellA (by rw [hhp, hT]; exact Nat.le_refl _) (msg := .ref sa) rfl
    (g := { method := m, pc := pc + 7, locals := ls, stack := .ref sa :: .ref T.heap.size :: .ref T.heap.size :: rest, locked := none }) rfl hsize rfl rfl (rest := rest) rfl
    (by rw [hb]; exact d7) (by rw [hb]; exact d10) hout hRframes (by simp only [List.map_cons, List.sum_cons, hcat]; omega) hlocks
  obtain ⟨f1, f2⟩ := vx_frame hsame
  rw [hhp] at f1 f2
  have hWs : s.WarmedH U.vm := State.WarmedH.trans hW0 hW
  have hcl : s.vm.findClass cls = some ce.cls := by
    have h9 := hO.cls
    rw [hvm] at h9
    exact h9
  have hall : s.sameButNew ({ U with vm := s.vm } : State) locs mc ms := by
    subst hA
    obtain ⟨e1, e2⟩ := hsame
    rw [State.setFrames_setFrames] at e1
    have h2 : (T.setVm s.vm).sameButNew ({ U with vm := s.vm } : State) [] (0 + 1) (0 + 6) := ⟨e1, e2⟩
    have h3 := X.same.trans h2
    rw [List.append_nil] at h3
    exact h3.mono hc hs
  refine ⟨U, ?_, .threw T.heap.size, hrun, hend, Or.inr ⟨T.heap.size, rfl, cls, ce, locs, hx U hWs.alike f1 (fun q hq => f2 q hq (fun z hz => nomatch hz)), hce, hO.vm, hcl, hWs, hall, hf⟩⟩
  refine st1 _ ?_
  show Steps p.tables e below (T1.setTop { method := m, pc := pc + 3, locals := ls, stack := .ref T.heap.size :: rest, locked := none }) _
  jvm_step X₁.here [X₁.here.top, hexec, d3', Value.category]
  exact X₁.ldcStringW hexec (own := own) (text := text) (index := is) (a := sa) hown' hstr'.1 hstr'.2
    (g := { method := m, pc := pc + 4, locals := ls, stack := .ref T.heap.size :: .ref T.heap.size :: rest, locked := none }) rfl d4' _ hsteps
end Ends
section Bodies
variable {l : Launch}
theorem vx_ofW {y : MethodName} {ws ws' : List Cond} {rm : Room} {Pc : Array Value → State → Prop} {Qc : Array Value → State → Outcome → State → Prop} {XC : String → State → State → Prop} {mc ms : Nat} {free : Addr → Prop} {cc : ByteArray} {maxL : Nat} {ret : Option FieldType}
    (hy : plainName y.cls = true) (hw : ws = Cond.code y cc maxL ret :: ws')
    (body : ∀ p e s m args below meth c s₁, BodyLoose p l y (headSpec ws rm) cc maxL ret e s m args below meth c s₁ → c.maxLocals = maxL → (∀ x ∈ c.exceptionTable.toList, False) → Pc args s →
      W p l e (headSpec ws rm).room s m args below meth c s.heap [] 0 0 (vx_MQ below Qc XC args s mc ms free) (entryFrame m args maxL)) : vx_Met l y ws rm Pc Qc XC mc ms free := by
  refine MetFree.of_bodyS (code := cc) (maxLocals := maxL) (ret := ret) hy ?_ ?_
  · intro args s m h hn
    obtain ⟨meth, c, h1, h2, h3, h4, h5, h6, -, -⟩ := Cond.code_spec hn (atoms_spec (ws := ws) h _ (by rw [hw]; exact List.mem_cons_self))
    exact ⟨meth, c, h1, h2, h3, h4, h5, h6⟩
  · intro p e s m args below meth c s₁ B hml hP _
    have hh0 : s₁.heap = s.heap := by rw [B.state]; rfl
    have ht : ∀ x ∈ c.exceptionTable.toList, False := by
      obtain ⟨meth9, c9, h1, h2, -, -, -, -, h7, -⟩ := Cond.code_spec B.named (atoms_spec (ws := ws) B.pre _ (by rw [hw]; exact List.mem_cons_self))
      cases Option.some.inj (h1.symm.trans B.method)
      cases Option.some.inj (h2.symm.trans (Stand.of_body B).code)
      intro x hx
      rw [Array.isEmpty_iff.mp h7] at hx
      cases hx
    obtain ⟨t, a1, o, b1, b2, b3⟩ := body p e s m args below meth c s₁ B hml ht hP s₁ hh0 (Stand.of_body B)
    exact ⟨t, o, a1, b1, b2, b3⟩
/-- the table of a body with handlers -/
theorem vx_table {p : Program} {x y : MethodName} {S : Spec} {cc bytes : ByteArray} {maxL maxL' : Nat} {ret ret' : Option FieldType} {e : Env} {s s₁ : State} {m : MethodId} {args : Array Value} {below : List Frame} {meth : Method} {c : Code} {hh : List (Nat × Nat × Nat × Nat)}
    (B : BodyLoose p l y S cc maxL ret e s m args below meth c s₁) (h : (Cond.codeWith y bytes maxL' ret' hh).before args s = true) : c.exceptionTable.toList = tableOf hh := by
  obtain ⟨m9, meth9, c9, hn9, h1, h2, -, -, h6, -⟩ := Cond.codeWith_spec h
  cases Option.some.inj (hn9.symm.trans B.named)
  cases Option.some.inj (h1.symm.trans B.method)
  cases Option.some.inj (h2.symm.trans (Stand.of_body B).code)
  rw [← h6, table_eq]
end Bodies
end VXA
/-! ===== END ===== -/
/-! ===== BEGIN a static call of a method with an exception table ===== -/
section VXS
variable {p : Program} {l : Launch} {e : Env} {R : Room} {s : State} {m : MethodId} {args : Array Value} {below : List Frame} {meth : Method} {c : Code} {T : State} {H : Heap} {locs : List Loc} {cells slots : Nat}
abbrev vx_CSW (R : Room) (s : State) (args : Array Value) (own : String) (index : Nat) (y : MethodName) (bytes : ByteArray) (maxL : Nat) (ret : Option FieldType) (hh : List (Nat × Nat × Nat × Nat)) (ws : List Cond) (rm : Room) (mc ms n : Nat) : Prop :=
  (rm.cells = mc ∧ rm.slots = ms ∧ rm.frames + 1 ≤ R.frames ∧ 8 + (maxL + 11) + rm.locals ≤ R.locals ∧ (∀ w ∈ ws, ∀ (a' : Array Value) (U : State), s.WarmedH U.vm → w.before a' U = true) ∧ Cond.codeWith y bytes maxL ret hh ∈ ws) ∧
  (Cond.codeWith y bytes maxL ret hh).before args s = true ∧ (Cond.initialized y.cls).before args s = true ∧ (y.cls ≠ "java/lang/invoke/MethodHandle" ∧ y.cls ≠ "java/lang/invoke/VarHandle") ∧
  (∀ sig, parseMethodDescriptor y.desc = some sig → n = sig.parameters.length) ∧ (Cond.methodLink own index y).before args s = true ∧ (Cond.static y).before args s = true
theorem vx_cwSW {own : String} {index maxL mc ms : Nat} {y : MethodName} {bytes : ByteArray} {ret : Option FieldType} {hh : List (Nat × Nat × Nat × Nat)} {Ts ws ws' : List Cond} {rm : Room} (n : Nat) (ht : ∀ w ∈ Ts, w.before args s = true) (hT : GoodIn Ts (va_wsS own index y ws)) (hw : ws = Cond.codeWith y bytes maxL ret hh :: ws') (hrc : rm.cells = mc) (hrs : rm.slots = ms)
    (hd : y.cls ≠ "java/lang/invoke/MethodHandle" ∧ y.cls ≠ "java/lang/invoke/VarHandle" ∧ (parseMethodDescriptor y.desc).map (fun d => d.parameters.length) = some n) (hR : rm.frames + 1 ≤ R.frames ∧ 8 + (maxL + 11) + rm.locals ≤ R.locals) :
    vx_CSW R s args own index y bytes maxL ret hh ws rm mc ms n := by
  have ok : ∀ w ∈ va_wsS own index y ws, w.before args s = true := fun w h => ht w (hT w h).1
  have hG : GoodIn Ts ws := fun w h => hT w (by unfold va_wsS; exact List.mem_append_right _ h)
  have hc : Cond.codeWith y bytes maxL ret hh ∈ ws := by rw [hw]; exact List.mem_cons_self
  refine ⟨⟨hrc, hrs, hR.1, hR.2, pay_in ht hG, hc⟩, ht _ (hG _ hc).1, ok _ (by simp [va_wsS]), ⟨hd.1, hd.2.1⟩, fun sig h => ?_, ok _ (by simp [va_wsS]), ok _ (by simp [va_wsS])⟩
  have h2 := hd.2.2
  rw [h] at h2
  exact (Option.some.inj h2).symm
theorem vx_callSW (X : Stand p l e R s m args below meth c T locs cells slots) (hexec : p.tables.exec = Jvm.exec) {own : String} {index : Nat} {y : MethodName} {bytes : ByteArray} {maxL : Nat} {ret : Option FieldType} {hh : List (Nat × Nat × Nat × Nat)}
    (hown : s.vm.findClass own = some m.cls) (hlink : (Cond.methodLink own index y).before args s = true) (hstat : (Cond.static y).before args s = true) (hinit : (Cond.initialized y.cls).before args s = true)
    (hcode : (Cond.codeWith y bytes maxL ret hh).before args s = true) (hy : y.cls ≠ "java/lang/invoke/MethodHandle" ∧ y.cls ≠ "java/lang/invoke/VarHandle")
    {W9 : Nat} {Pre : Pt → Array Value → Prop} {Post : Pt → Array Value → Option Value → Pt → Prop} (hK : Back l R p e below s args y 3 W9 Pre Post)
    {g : JFrame} (hg : g.method = m) (hsize : g.locals.size = c.maxLocals) {argsL rest : List Value} (hlen : ∀ sig, parseMethodDescriptor y.desc = some sig → argsL.length = sig.parameters.length)
    (hstack : g.stack = argsL.reverse ++ rest) (hW : 2 * g.monitorRoom + (rest.map fun v => v.category).sum ≤ W9) (hdg : decode c.code g.pc = .ok (.invokestatic index, 3))
    (hpre : ∀ vm₁, s.WarmedH vm₁ → Pre ⟨T.setVm vm₁, locs, cells, slots⟩ argsL.toArray) :
    ∃ (v : Option Value) (vm₁ : Vm) (B : Pt), s.WarmedH vm₁ ∧ Stand p l e R s m args below meth c B.U B.locs B.cells B.slots ∧ Post ⟨T.setVm vm₁, locs, cells, slots⟩ argsL.toArray v B ∧
      ∀ target, Steps p.tables e below (B.U.setTop { g with pc := g.pc + 3, stack := v.toList ++ rest }) target → Steps p.tables e below (T.setTop g) target := by
  obtain ⟨mk, methM, cM, hnamed, hmethM, -, -, -, -, -, -, hsigM⟩ := Cond.codeWith_spec hcode
  have hstatic : methM.isStatic = true := Cond.static_spec hnamed hmethM hstat
  obtain ⟨kP, hkP, -⟩ := className_of_methodNamed hnamed
  have hinitP : kP.init = .initialized := Cond.initialized_spec (findClass_of_methodNamed hnamed) hkP hinit
  obtain ⟨vm₁, X₁, hstep₁⟩ := X.invokestatic hexec hown hlink hnamed hmethM hstatic hkP hinitP hy (g := g) hg (argsL := argsL) (rest := rest) (hlen _ hsigM) hstack hdg
  obtain ⟨v, B, X', hpost, hsteps⟩ := hK m meth c ⟨T.setVm vm₁, locs, cells, slots⟩ { g with stack := rest } (.invokestatic index) mk argsL.toArray X₁ hg hsize hdg hW (X₁.named hnamed) (hpre vm₁ X₁.warmed)
  exact ⟨v, vm₁, B, X₁.warmed, X', hpost, fun target h => hstep₁ _ fun acts => by rw [doInvoke_state]; exact hsteps.trans h⟩
theorem vx_runSW {y : MethodName} {bytes cc : ByteArray} {maxL nL mc ms n index : Nat} {ret : Option FieldType} {hh : List (Nat × Nat × Nat × Nat)} {ws : List Cond} {rm : Room} {Pc : Array Value → State → Prop} {Qc : Array Value → State → Outcome → State → Prop} {free : Addr → Prop} {Ts : List Cond} {own : String} {As rest : List Value} {g : JFrame}
    (S : CallFix p m c cc nL s args Ts own) (hM : Met l y ws rm Pc Qc mc ms free) (cw : vx_CSW R s args own index y bytes maxL ret hh ws rm mc ms n) (hp : PreS s H Pc As)
    (hg : g.method = m) (hn : As.length = n) (hsize : g.locals.size = nL) (hstack : g.stack = As.reverse ++ rest) (hW : 2 * g.monitorRoom + (rest.map fun v => v.category).sum ≤ 8) (hdg : decode cc g.pc = .ok (.invokestatic index, 3)) (hf : cells + mc ≤ R.cells ∧ slots + ms ≤ R.slots) :
    va_Run p l e R s m args below meth c H locs cells slots mc ms g rest (Qc As.toArray) (free) := by
  obtain ⟨⟨hrc, hrs, hfr, hlo, hws, hcw⟩, hcode, hini, hy, hlen, hl, hstt⟩ := cw
  have hK : Back l R p e below s args y 3 8 (PreOf R mc ms Pc) (PostOf Qc mc ms free) := va_backW (hh := hh) (bytes := bytes) (maxL := maxL) (ret := ret) hM hp.1 hrc hrs hfr hlo hws hcw (fun a' U hW => word_at hW (Or.inl (by first | rfl | simp [Cond.onTables, Cond.keeps, Cond.steady])) hini)
  obtain ⟨hx, hb, hml, ho, -⟩ := S
  intro T hT X
  obtain ⟨v, vm₁, ⟨U', l2, c2, s2⟩, hW₁, X', ⟨g', mk, t, L, e1, e2, hq, h1, hL, h2, h3⟩, st⟩ := vx_callSW X hx (hh := hh) (bytes := bytes) (maxL := maxL) (ret := ret) ho hl hstt hini hcode hy hK hg (hsize.trans hml.symm) (argsL := As) (rest := rest) (fun sig h => hn.trans (hlen sig h)) hstack hW (by rw [hb]; exact hdg)
    (fun vm₁ hW₁ => ⟨hf.1, hf.2, hp.2 (T.setVm vm₁) hT hW₁⟩)
  dsimp only [Pt.U, Pt.locs, Pt.cells, Pt.slots] at X' e1 e2 h1 h2 h3 st
  subst h1; subst h2; subst h3
  exact ⟨v, (T.setVm vm₁).calling g' mk As.toArray, t, U', L, hT, X', hL, e1, e2, hq, st⟩
/-- not caught here, past rows that name other classes: it goes on to the caller -/
theorem vx_outP {p : Program} {l : Launch} {e : Env} {R : Room} {s : State} {m : MethodId} {args : Array Value} {below : List Frame} {meth : Method} {c : Code} {H : Heap} {locs : List Loc} {cells slots : Nat} {free : Addr → Prop} {ls : Array Slot} {rest : List Value} {Qc : Array Value → State → Outcome → State → Prop} {XC : String → State → State → Prop}
    {pc : Nat} {own E : String} {ce : Cell} {q : Addr} {mc ms : Nat} (hown : s.vm.findClass own = some m.cls) (hlocks : meth.locks = false)
    (hpass : ∀ z ∈ c.exceptionTable.toList, covers z pc = false ∨ (z.catchType ≠ 0 ∧ ∃ nm : String, (Cond.classLink own z.catchType nm).before args s = true ∧ va_Nc E nm s)) (hcell : H[q]? = some ce) (hv : ce.vm = .none) (hcl : s.vm.findClass E = some ce.cls)
    (hx : ∀ t : State, t.heap = H → s.vm.Alike t.vm → XC E s t) (hf : ∀ z ∈ locs, free z.base) (hc : cells ≤ mc) (hs : slots ≤ ms) :
    vx_W p l e R s m args below meth c H locs cells slots (vx_MQ below Qc XC args s mc ms free) (F0 m pc ls rest) q := by
  intro T hT X
  have hpl : e.platform.magicAccessors = ({} : Platform).magicAccessors := by rw [X.admits.platform]
  obtain ⟨vm', hW', X', st⟩ := X.outThrough hlocks q (g := F0 m pc ls rest) rfl rfl rfl (cell := ce) (by rw [hT]; exact hcell) (by rw [hv]; rfl)
    (by obtain ⟨k9, h9, -⟩ := Vm.findClass_spec hcl; exact ⟨k9, h9⟩) (fun z hz => by
      rcases hpass z hz with h | ⟨hz0, nm, hl1, hn1⟩
      · exact Or.inl h
      · obtain ⟨c6, hc6, hcl6⟩ := Cond.classLink_spec hown hl1 e.platform hpl
        obtain ⟨a8, b8, h1, h2, h3⟩ := hn1
        cases Option.some.inj (h1.symm.trans hcl)
        cases Option.some.inj (h2.symm.trans hc6)
        exact Or.inr ⟨hz0, _, hcl6, h3⟩)
  obtain ⟨g₀, hfr⟩ := X'.frames_eq
  have hcell9 : ((T.setVm vm').setFrames (.throwing q :: below)).heap[q]? = some ce := by
    show T.heap[q]? = some ce
    rw [hT]; exact hcell
  have hend : Ended ((T.setVm vm').setFrames (.throwing q :: below)) below (.threw q) := State.frames_setFrames _ (State.cur_lt_of_frames hfr)
  refine ⟨(T.setVm vm').setFrames (.throwing q :: below), ?_, .threw q, X'.here.running, hend, Or.inr ⟨q, rfl, E, ce, locs, hx _ hT (X'.ends _).1.alike, hcell9, hv, hcl, (X'.ends _).1, (X'.ends _).2.mono hc hs, hf⟩⟩
  rw [X.pushThrowing_eq]
  exact st
/-- a thing of a world lies in the heap -/
theorem vx_lt {D : va_G} {cl : List vw_C} {ws : va_W} {H1 : Heap} (h : va_P D cl ws H1) {k : Nat} {q : Nat × va_E} (hk : ws[k]? = some q) : q.1 < H1.size := (h k q hk).lt
end VXS
/-! ===== END ===== -/
/-! ===== BEGIN methods with a table of their own: called by a name, returning or throwing ===== -/
section VXH
/-! vx_backW, vx_callVX, vx_callSX, vx_callVW, vx_runVW, vx_runVX, vx_runSX, vx_ofWH follow the same proofs as their sisters above (Free/Laws.lean, Shelf42/LK1.lean); vx_outP calls Shelf42/NT130.lean (outThrough). -/
section
variable {l : Launch} {R : Room} {p : Program} {e : Env} {below : List Frame} {s : State} {sargs : Array Value} {y : MethodName} {len W9 : Nat}
theorem vx_backW {ws : List Cond} {rm : Room} {Pc : Array Value → State → Prop} {Qc : Array Value → State → Outcome → State → Prop} {XC : String → State → State → Prop} {mc ms : Nat} {free : Addr → Prop} {bytes : ByteArray} {maxL : Nat} {ret : Option FieldType} {hh : List (Nat × Nat × Nat × Nat)}
    (hM : vx_Met l y ws rm Pc Qc XC mc ms free) (hblind : FrameBlind Pc) (hrc : rm.cells = mc) (hrs : rm.slots = ms)
    (hframes : rm.frames + 1 ≤ R.frames) (hlocals : W9 + (maxL + 11) + rm.locals ≤ R.locals)
    (hws : ∀ w ∈ ws, ∀ a' U, s.WarmedH U.vm → w.before a' U = true) (hcode : Cond.codeWith y bytes maxL ret hh ∈ ws) (hinit : ∀ a' U, s.WarmedH U.vm → (Cond.initialized y.cls).before a' U = true) :
    vx_Back l R p e below s sargs y len W9 (PreOf R mc ms Pc) (PostOf Qc mc ms free) (vx_Post XC mc ms free) := by
  intro m meth c A g ig mk a X hg hsize hdg hW hn hp
  have h1 : (headSpec ws rm).pre.before a A.U = true := atoms_intro fun w hw => hws w hw _ _ X.warmed
  have h2 : (Cond.codeWith y bytes maxL ret hh).before a A.U = true := hws _ hcode _ _ X.warmed
  have h3 : (Cond.initialized y.cls).before a A.U = true := hinit _ _ X.warmed
  have h4 : A.cells + (headSpec ws rm).room.cells ≤ R.cells := by rw [show (headSpec ws rm).room.cells = mc from hrc]; exact hp.1
  have h5 : A.slots + (headSpec ws rm).room.slots ≤ R.slots := by rw [show (headSpec ws rm).room.slots = ms from hrs]; exact hp.2.1
  have hPc : Pc a (A.U.calling g mk a) := hblind _ _ _ _ hp.2.2
  obtain ⟨U, Ls, c0, s0⟩ := A
  dsimp only [Pt.U, Pt.locs, Pt.cells, Pt.slots] at h1 h2 h3 h4 h5 X hn hPc ⊢
  obtain ⟨m9, methY, cY, hn9, hmY, hcY, -, hlY, -⟩ := Cond.codeWith_spec h2
  cases Option.some.inj (hn9.symm.trans hn)
  obtain ⟨kY, hkY, -⟩ := className_of_methodNamed hn
  have hinitY : kY.init = .initialized := Cond.initialized_spec (findClass_of_methodNamed hn) hkY h3
  have h : At U g.method c below := by rw [hg]; exact X.here
  have hlocals9 : W9 + (maxL + 11) + (headSpec ws rm).room.locals ≤ R.locals := hlocals
  have happ : (headSpec ws rm).appliesLoose y e.platform (U.calling g mk a) = true :=
    Spec.appliesLoose_calling (g := g) h hdg hn hkY hinitY
      (X.room_calling (g := g) (R' := (headSpec ws rm).room) hsize hmY hcY hframes (by rw [hlY]; omega) h4 h5) h1
  obtain ⟨mid, hmid⟩ := h.above
  have hfr : (U.setTop g).frames = (.java g :: mid) ++ below := by rw [State.frames_setTop' g h.top, hmid]; rfl
  obtain ⟨o, s₂, hsteps, -, hend, hq⟩ := Steps.callFree hM p X.admits X.cas X.clock (acts := []) hfr happ hPc trivial
  have hq' : vx_Q Qc XC mc ms free a (U.calling g mk a) o s₂ := hq
  rw [State.frames_setTop' g h.top] at hend
  obtain ⟨g₀, hg0⟩ := Option.isSome_iff_exists.mp h.top
  obtain ⟨r, hr⟩ := State.topJava?_eq_some.mp hg0
  have hr' : (({ U with heap := s₂.heap, slotsUsed := s₂.slotsUsed } : State).setVm s₂.vm).frames = .java g₀ :: r := hr
  rcases hq' with ⟨hqc, L, hfe, hL⟩ | ⟨q, rfl, E, ce, L, hx, hce, hcv, hcl, hW₂, hsm, hL⟩
  · obtain ⟨⟨v, rfl⟩, hW₂, e2, q2, q3, q4, q5, q6⟩ := id hfe
    have e3 : s₂ = ({ (U.calling g mk a).setFrames s₂.frames with heap := s₂.heap, slotsUsed := s₂.slotsUsed } : State).setVm s₂.vm := by
      have : s₂ = ({ s₂ with vm := (U.calling g mk a).vm } : State).setVm s₂.vm := rfl
      rw [e2] at this
      exact this
    obtain ⟨c₂, i₂, len₂, hc₂, hd₂, hf₂⟩ := hend
    have hW' : U.WarmedH s₂.vm := hW₂
    have hcc : c₂ = c := by
      have h1 : s₂.code? g.method = U.code? g.method := by
        rw [State.code?_eq, State.code?_eq, hW'.alike.method?]
      exact Option.some.inj (hc₂.symm.trans (h1.trans h.code))
    subst hcc
    have hlen : len₂ = len := by rw [hdg] at hd₂; cases hd₂; rfl
    subst hlen
    have hs₂ : s₂ = (({ U with heap := s₂.heap, slotsUsed := s₂.slotsUsed } : State).setVm s₂.vm).setTop { g with pc := g.pc + len₂, stack := v.toList ++ g.stack } := by
      refine e3.trans ?_
      rw [hf₂, State.calling_eq h.top, State.setFrames_setFrames, State.setTop_of_frames _ hr', hr]
      rfl
    have hsame : U.sameButNew ({ U with heap := s₂.heap, slotsUsed := s₂.slotsUsed } : State) L mc ms := by
      refine ⟨?_, q2, q3, q4, q5, q6⟩
      obtain ⟨t, ht, -⟩ := State.frames_cons hr
      show ({ U with heap := s₂.heap, slotsUsed := s₂.slotsUsed } : State) = { U.setFrames U.frames with heap := s₂.heap, slotsUsed := s₂.slotsUsed }
      rw [State.setFrames_self ht]
    subst hg
    refine Or.inl ⟨v, ⟨(({ U with heap := s₂.heap, slotsUsed := s₂.slotsUsed } : State).setVm s₂.vm), Ls ++ L, c0 + mc, s0 + ms⟩,
      ⟨X.admits, X.cas, X.clock, X.frames, X.room, X.hears, X.method, X.code, (X.here.setHeapUsed s₂.heap s₂.slotsUsed).setVm hW'.alike, X.tail, State.WarmedH.trans X.warmed hW', X.limits, X.bytes, X.same.trans (hsame.setVm s.vm)⟩,
      ⟨g, mk, s₂, L, rfl, rfl, hqc, rfl, hL, rfl, rfl⟩, ?_⟩
    show Steps p.tables e below _ ((({ U with heap := s₂.heap, slotsUsed := s₂.slotsUsed } : State).setVm s₂.vm).setTop { g with pc := g.pc + len₂, stack := v.toList ++ g.stack })
    rw [← hs₂]
    exact hsteps
  · obtain ⟨e2, q2, q3, q4, q5, q6⟩ := id hsm
    have e3 : s₂ = ({ (U.calling g mk a).setFrames s₂.frames with heap := s₂.heap, slotsUsed := s₂.slotsUsed } : State).setVm s₂.vm := by
      have : s₂ = ({ s₂ with vm := (U.calling g mk a).vm } : State).setVm s₂.vm := rfl
      rw [e2] at this
      exact this
    have hf₂ : s₂.frames = .throwing q :: .java g :: U.frames.tail := hend
    have hW' : U.WarmedH s₂.vm := hW₂
    have hs₂ : s₂ = ((({ U with heap := s₂.heap, slotsUsed := s₂.slotsUsed } : State).setVm s₂.vm).setTop g).pushFrame (.throwing q) := by
      refine e3.trans ?_
      rw [hf₂, State.calling_eq h.top, State.setFrames_setFrames, State.pushFrame, State.frames_setTop _ hr', State.setTop_of_frames _ hr', State.setFrames_setFrames, hr]
      rfl
    have hsame : U.sameButNew ({ U with heap := s₂.heap, slotsUsed := s₂.slotsUsed } : State) L mc ms := by
      refine ⟨?_, q2, q3, q4, q5, q6⟩
      obtain ⟨t, ht, -⟩ := State.frames_cons hr
      show ({ U with heap := s₂.heap, slotsUsed := s₂.slotsUsed } : State) = { U.setFrames U.frames with heap := s₂.heap, slotsUsed := s₂.slotsUsed }
      rw [State.setFrames_self ht]
    subst hg
    refine Or.inr ⟨q, ⟨(({ U with heap := s₂.heap, slotsUsed := s₂.slotsUsed } : State).setVm s₂.vm), Ls ++ L, c0 + mc, s0 + ms⟩,
      ⟨X.admits, X.cas, X.clock, X.frames, X.room, X.hears, X.method, X.code, (X.here.setHeapUsed s₂.heap s₂.slotsUsed).setVm hW'.alike, X.tail, State.WarmedH.trans X.warmed hW', X.limits, X.bytes, X.same.trans (hsame.setVm s.vm)⟩,
      ⟨g, mk, s₂, L, E, ce, rfl, rfl, hx, hce, hcv, hcl, rfl, hL, rfl, rfl⟩, ?_⟩
    show Steps p.tables e below _ (((({ U with heap := s₂.heap, slotsUsed := s₂.slotsUsed } : State).setVm s₂.vm).setTop g).pushFrame (.throwing q))
    rw [← hs₂]
    exact hsteps
end
variable {p : Program} {l : Launch} {e : Env} {R : Room} {s : State} {m : MethodId} {args : Array Value} {below : List Frame} {meth : Method} {c : Code} {T : State} {H : Heap} {locs : List Loc} {cells slots : Nat}
theorem vx_callVX (X : Stand p l e R s m args below meth c T locs cells slots) (hexec : p.tables.exec = Jvm.exec) {own C : String} {index : Nat} {y : MethodName} {bytes : ByteArray} {maxL : Nat} {ret : Option FieldType} {hh : List (Nat × Nat × Nat × Nat)}
    (hown : s.vm.findClass own = some m.cls) (hlink : (Cond.methodLink own index y).before args s = true) (hinst : (Cond.instanceMethod y).before args s = true) (hsel : (Cond.selects C y y).before args s = true)
    (hcode : (Cond.codeWith y bytes maxL ret hh).before args s = true) (hy : y.cls ≠ "java/lang/invoke/MethodHandle" ∧ y.cls ≠ "java/lang/invoke/VarHandle")
    {W9 : Nat} {Pre : Pt → Array Value → Prop} {Post : Pt → Array Value → Option Value → Pt → Prop} {PostX : Pt → Array Value → Addr → Pt → Prop} (hK : vx_Back l R p e below s args y 3 W9 Pre Post PostX)
    {b : Addr} {cellB : Cell} (hcell : T.heap[b]? = some cellB) (hobj : cellB.vm.isStatics = false) (hcls : s.vm.findClass C = some cellB.cls)
    {g : JFrame} (hg : g.method = m) (hsize : g.locals.size = c.maxLocals) {argsL rest : List Value} (hlen : ∀ sig, parseMethodDescriptor y.desc = some sig → argsL.length = sig.parameters.length)
    (hstack : g.stack = argsL.reverse ++ .ref b :: rest) (hW : 2 * g.monitorRoom + (rest.map fun v => v.category).sum ≤ W9) (hdg : decode c.code g.pc = .ok (.invokevirtual index, 3))
    (hpre : ∀ vm₁, s.WarmedH vm₁ → Pre ⟨T.setVm vm₁, locs, cells, slots⟩ (Value.ref b :: argsL).toArray) :
    (∃ (v : Option Value) (vm₁ : Vm) (B : Pt), s.WarmedH vm₁ ∧ Stand p l e R s m args below meth c B.U B.locs B.cells B.slots ∧ Post ⟨T.setVm vm₁, locs, cells, slots⟩ (Value.ref b :: argsL).toArray v B ∧
      ∀ target, Steps p.tables e below (B.U.setTop { g with pc := g.pc + 3, stack := v.toList ++ rest }) target → Steps p.tables e below (T.setTop g) target) ∨
    (∃ (q : Addr) (vm₁ : Vm) (B : Pt), s.WarmedH vm₁ ∧ Stand p l e R s m args below meth c B.U B.locs B.cells B.slots ∧ PostX ⟨T.setVm vm₁, locs, cells, slots⟩ (Value.ref b :: argsL).toArray q B ∧
      Steps p.tables e below (T.setTop g) ((B.U.setTop { g with stack := rest }).pushFrame (.throwing q))) := by
  obtain ⟨mk, methM, hnamed, hmethM, hstM, habM⟩ := Cond.instanceMethod_spec hinst
  obtain ⟨m8, methM', cM, hn8, hmethM', -, -, -, -, -, -, hsigM⟩ := Cond.codeWith_spec hcode
  cases Option.some.inj (hn8.symm.trans hnamed)
  cases hmethM.symm.trans hmethM'
  obtain ⟨c2, r2, m2, q1, q2, q3, q4, kP, hkP, hkPi⟩ := Cond.selects_spec hsel
  cases hcls.symm.trans q1
  cases (State.methodFound?_of_named hnamed hy).symm.trans q2
  cases hnamed.symm.trans q3
  have hselP : selectMethod e.platform s.vm cellB.cls mk = .method mk := by rw [Launch.admits_selectMethod X.admits]; exact q4
  obtain ⟨vm₁, X₁, hstep₁⟩ := X.invokevirtual hexec hown hlink hnamed hmethM hstM hkP hkPi hy (a := b) (cell := cellB) hcell
    (fun z h => by rw [h] at hobj; cases hobj) hselP hmethM habM hkP hkPi (g := g) hg (argsL := argsL) (rest := rest) (hlen _ hsigM) hstack hdg
  rcases hK m meth c ⟨T.setVm vm₁, locs, cells, slots⟩ { g with stack := rest } (.invokevirtual index) mk (Value.ref b :: argsL).toArray X₁ hg hsize hdg hW (X₁.named hnamed) (hpre vm₁ X₁.warmed) with ⟨v, B, X', hpost, hsteps⟩ | ⟨q, B, X', hpost, hsteps⟩
  · exact Or.inl ⟨v, vm₁, B, X₁.warmed, X', hpost, fun target h => hstep₁ _ fun acts => by rw [doInvoke_state]; exact hsteps.trans h⟩
  · exact Or.inr ⟨q, vm₁, B, X₁.warmed, X', hpost, hstep₁ _ fun acts => by rw [doInvoke_state]; exact hsteps⟩
theorem vx_callSX (X : Stand p l e R s m args below meth c T locs cells slots) (hexec : p.tables.exec = Jvm.exec) {own : String} {index : Nat} {y : MethodName} {bytes : ByteArray} {maxL : Nat} {ret : Option FieldType} {hh : List (Nat × Nat × Nat × Nat)}
    (hown : s.vm.findClass own = some m.cls) (hlink : (Cond.methodLink own index y).before args s = true) (hstat : (Cond.static y).before args s = true) (hinit : (Cond.initialized y.cls).before args s = true)
    (hcode : (Cond.codeWith y bytes maxL ret hh).before args s = true) (hy : y.cls ≠ "java/lang/invoke/MethodHandle" ∧ y.cls ≠ "java/lang/invoke/VarHandle")
    {W9 : Nat} {Pre : Pt → Array Value → Prop} {Post : Pt → Array Value → Option Value → Pt → Prop} {PostX : Pt → Array Value → Addr → Pt → Prop} (hK : vx_Back l R p e below s args y 3 W9 Pre Post PostX)
    {g : JFrame} (hg : g.method = m) (hsize : g.locals.size = c.maxLocals) {argsL rest : List Value} (hlen : ∀ sig, parseMethodDescriptor y.desc = some sig → argsL.length = sig.parameters.length)
    (hstack : g.stack = argsL.reverse ++ rest) (hW : 2 * g.monitorRoom + (rest.map fun v => v.category).sum ≤ W9) (hdg : decode c.code g.pc = .ok (.invokestatic index, 3))
    (hpre : ∀ vm₁, s.WarmedH vm₁ → Pre ⟨T.setVm vm₁, locs, cells, slots⟩ argsL.toArray) :
    (∃ (v : Option Value) (vm₁ : Vm) (B : Pt), s.WarmedH vm₁ ∧ Stand p l e R s m args below meth c B.U B.locs B.cells B.slots ∧ Post ⟨T.setVm vm₁, locs, cells, slots⟩ argsL.toArray v B ∧
      ∀ target, Steps p.tables e below (B.U.setTop { g with pc := g.pc + 3, stack := v.toList ++ rest }) target → Steps p.tables e below (T.setTop g) target) ∨
    (∃ (q : Addr) (vm₁ : Vm) (B : Pt), s.WarmedH vm₁ ∧ Stand p l e R s m args below meth c B.U B.locs B.cells B.slots ∧ PostX ⟨T.setVm vm₁, locs, cells, slots⟩ argsL.toArray q B ∧
      Steps p.tables e below (T.setTop g) ((B.U.setTop { g with stack := rest }).pushFrame (.throwing q))) := by
  obtain ⟨mk, methM, cM, hnamed, hmethM, -, -, -, -, -, -, hsigM⟩ := Cond.codeWith_spec hcode
  have hstatic : methM.isStatic = true := Cond.static_spec hnamed hmethM hstat
  obtain ⟨kP, hkP, -⟩ := className_of_methodNamed hnamed
  have hinitP : kP.init = .initialized := Cond.initialized_spec (findClass_of_methodNamed hnamed) hkP hinit
  obtain ⟨vm₁, X₁, hstep₁⟩ := X.invokestatic hexec hown hlink hnamed hmethM hstatic hkP hinitP hy (g := g) hg (argsL := argsL) (rest := rest) (hlen _ hsigM) hstack hdg
  rcases hK m meth c ⟨T.setVm vm₁, locs, cells, slots⟩ { g with stack := rest } (.invokestatic index) mk argsL.toArray X₁ hg hsize hdg hW (X₁.named hnamed) (hpre vm₁ X₁.warmed) with ⟨v, B, X', hpost, hsteps⟩ | ⟨q, B, X', hpost, hsteps⟩
  · exact Or.inl ⟨v, vm₁, B, X₁.warmed, X', hpost, fun target h => hstep₁ _ fun acts => by rw [doInvoke_state]; exact hsteps.trans h⟩
  · exact Or.inr ⟨q, vm₁, B, X₁.warmed, X', hpost, hstep₁ _ fun acts => by rw [doInvoke_state]; exact hsteps⟩
theorem vx_callVW (X : Stand p l e R s m args below meth c T locs cells slots) (hexec : p.tables.exec = Jvm.exec) {own C : String} {index : Nat} {y : MethodName} {bytes : ByteArray} {maxL : Nat} {ret : Option FieldType} {hh : List (Nat × Nat × Nat × Nat)}
    (hown : s.vm.findClass own = some m.cls) (hlink : (Cond.methodLink own index y).before args s = true) (hinst : (Cond.instanceMethod y).before args s = true) (hsel : (Cond.selects C y y).before args s = true)
    (hcode : (Cond.codeWith y bytes maxL ret hh).before args s = true) (hy : y.cls ≠ "java/lang/invoke/MethodHandle" ∧ y.cls ≠ "java/lang/invoke/VarHandle")
    {W9 : Nat} {Pre : Pt → Array Value → Prop} {Post : Pt → Array Value → Option Value → Pt → Prop} (hK : Back l R p e below s args y 3 W9 Pre Post)
    {b : Addr} {cellB : Cell} (hcell : T.heap[b]? = some cellB) (hobj : cellB.vm.isStatics = false) (hcls : s.vm.findClass C = some cellB.cls)
    {g : JFrame} (hg : g.method = m) (hsize : g.locals.size = c.maxLocals) {argsL rest : List Value} (hlen : ∀ sig, parseMethodDescriptor y.desc = some sig → argsL.length = sig.parameters.length)
    (hstack : g.stack = argsL.reverse ++ .ref b :: rest) (hW : 2 * g.monitorRoom + (rest.map fun v => v.category).sum ≤ W9) (hdg : decode c.code g.pc = .ok (.invokevirtual index, 3))
    (hpre : ∀ vm₁, s.WarmedH vm₁ → Pre ⟨T.setVm vm₁, locs, cells, slots⟩ (Value.ref b :: argsL).toArray) :
    ∃ (v : Option Value) (vm₁ : Vm) (B : Pt), s.WarmedH vm₁ ∧ Stand p l e R s m args below meth c B.U B.locs B.cells B.slots ∧ Post ⟨T.setVm vm₁, locs, cells, slots⟩ (Value.ref b :: argsL).toArray v B ∧
      ∀ target, Steps p.tables e below (B.U.setTop { g with pc := g.pc + 3, stack := v.toList ++ rest }) target → Steps p.tables e below (T.setTop g) target := by
  obtain ⟨mk, methM, hnamed, hmethM, hstM, habM⟩ := Cond.instanceMethod_spec hinst
  obtain ⟨m8, methM', cM, hn8, hmethM', -, -, -, -, -, -, hsigM⟩ := Cond.codeWith_spec hcode
  cases Option.some.inj (hn8.symm.trans hnamed)
  cases hmethM.symm.trans hmethM'
  obtain ⟨c2, r2, m2, q1, q2, q3, q4, kP, hkP, hkPi⟩ := Cond.selects_spec hsel
  cases hcls.symm.trans q1
  cases (State.methodFound?_of_named hnamed hy).symm.trans q2
  cases hnamed.symm.trans q3
  have hselP : selectMethod e.platform s.vm cellB.cls mk = .method mk := by rw [Launch.admits_selectMethod X.admits]; exact q4
  obtain ⟨vm₁, X₁, hstep₁⟩ := X.invokevirtual hexec hown hlink hnamed hmethM hstM hkP hkPi hy (a := b) (cell := cellB) hcell
    (fun z h => by rw [h] at hobj; cases hobj) hselP hmethM habM hkP hkPi (g := g) hg (argsL := argsL) (rest := rest) (hlen _ hsigM) hstack hdg
  obtain ⟨v, B, X', hpost, hsteps⟩ := hK m meth c ⟨T.setVm vm₁, locs, cells, slots⟩ { g with stack := rest } (.invokevirtual index) mk (Value.ref b :: argsL).toArray X₁ hg hsize hdg hW (X₁.named hnamed) (hpre vm₁ X₁.warmed)
  exact ⟨v, vm₁, B, X₁.warmed, X', hpost, fun target h => hstep₁ _ fun acts => by rw [doInvoke_state]; exact hsteps.trans h⟩
abbrev vx_CVW (R : Room) (s : State) (args : Array Value) (own C : String) (index : Nat) (y : MethodName) (bytes : ByteArray) (maxL : Nat) (ret : Option FieldType) (hh : List (Nat × Nat × Nat × Nat)) (ws : List Cond) (rm : Room) (mc ms n : Nat) : Prop :=
  (rm.cells = mc ∧ rm.slots = ms ∧ rm.frames + 1 ≤ R.frames ∧ 8 + (maxL + 11) + rm.locals ≤ R.locals ∧ (∀ w ∈ ws, ∀ (a' : Array Value) (U : State), s.WarmedH U.vm → w.before a' U = true) ∧ Cond.codeWith y bytes maxL ret hh ∈ ws) ∧
  (Cond.codeWith y bytes maxL ret hh).before args s = true ∧ (Cond.initialized y.cls).before args s = true ∧ (y.cls ≠ "java/lang/invoke/MethodHandle" ∧ y.cls ≠ "java/lang/invoke/VarHandle") ∧
  (∀ sig, parseMethodDescriptor y.desc = some sig → n = sig.parameters.length) ∧ (Cond.methodLink own index y).before args s = true ∧ (Cond.instanceMethod y).before args s = true ∧ (Cond.selects C y y).before args s = true
theorem vx_cwVW {own C : String} {index maxL mc ms : Nat} {y : MethodName} {bytes : ByteArray} {ret : Option FieldType} {hh : List (Nat × Nat × Nat × Nat)} {Ts ws ws' : List Cond} {rm : Room} (n : Nat) (ht : ∀ w ∈ Ts, w.before args s = true) (hT : GoodIn Ts (wsV own index C y ws)) (hw : ws = Cond.codeWith y bytes maxL ret hh :: ws') (hrc : rm.cells = mc) (hrs : rm.slots = ms)
    (hd : y.cls = C ∧ y.cls ≠ "java/lang/invoke/MethodHandle" ∧ y.cls ≠ "java/lang/invoke/VarHandle" ∧ (parseMethodDescriptor y.desc).map (fun d => d.parameters.length) = some n) (hR : rm.frames + 1 ≤ R.frames ∧ 8 + (maxL + 11) + rm.locals ≤ R.locals) :
    vx_CVW R s args own C index y bytes maxL ret hh ws rm mc ms n := by
  obtain ⟨hC, hd⟩ := hd
  subst hC
  have ok : ∀ w ∈ wsV own index y.cls y ws, w.before args s = true := fun w h => ht w (hT w h).1
  have hG : GoodIn Ts ws := fun w h => hT w (by unfold wsV; exact List.mem_append_right _ h)
  have hc : Cond.codeWith y bytes maxL ret hh ∈ ws := by rw [hw]; exact List.mem_cons_self
  refine ⟨⟨hrc, hrs, hR.1, hR.2, pay_in ht hG, hc⟩, ht _ (hG _ hc).1, ok _ (by simp [wsV]), ⟨hd.1, hd.2.1⟩, fun sig h => ?_, ok _ (by simp [wsV]), ok _ (by simp [wsV]), ok _ (by simp [wsV])⟩
  have h2 := hd.2.2
  rw [h] at h2
  exact (Option.some.inj h2).symm
theorem vx_runVW {y : MethodName} {bytes cc : ByteArray} {maxL nL mc ms n index : Nat} {ret : Option FieldType} {hh : List (Nat × Nat × Nat × Nat)} {ws : List Cond} {rm : Room} {Pc : Array Value → State → Prop} {Qc : Array Value → State → Outcome → State → Prop} {free : Addr → Prop} {Ts : List Cond} {own C : String} {b : Addr} {As rest : List Value} {g : JFrame}
    (S : CallFix p m c cc nL s args Ts own) (hM : Met l y ws rm Pc Qc mc ms free) (cw : vx_CVW R s args own C index y bytes maxL ret hh ws rm mc ms n) (hp : PreV s H C b Pc As)
    (hg : g.method = m) (hn : As.length = n) (hsize : g.locals.size = nL) (hstack : g.stack = As.reverse ++ .ref b :: rest) (hW : 2 * g.monitorRoom + (rest.map fun v => v.category).sum ≤ 8) (hdg : decode cc g.pc = .ok (.invokevirtual index, 3)) (hf : cells + mc ≤ R.cells ∧ slots + ms ≤ R.slots) :
    va_Run p l e R s m args below meth c H locs cells slots mc ms g rest (Qc (Value.ref b :: As).toArray) free := by
  obtain ⟨⟨hrc, hrs, hfr, hlo, hws, hcw⟩, hcode, hini, hy, hlen, hl, hin, hse⟩ := cw
  have hK : Back l R p e below s args y 3 8 (PreOf R mc ms Pc) (PostOf Qc mc ms free) := va_backW (hh := hh) (bytes := bytes) (maxL := maxL) (ret := ret) hM hp.1 hrc hrs hfr hlo hws hcw (fun a' U hW => word_at hW (Or.inl (by first | rfl | simp [Cond.onTables, Cond.keeps, Cond.steady])) hini)
  obtain ⟨hx, hb, hml, ho, -⟩ := S
  obtain ⟨-, ⟨cellB, hcB, hoB, hclB⟩, hPc⟩ := hp
  intro T hT X
  obtain ⟨v, vm₁, ⟨U', l2, c2, s2⟩, hW₁, X', ⟨g', mk, t, L, e1, e2, hq, h1, hL, h2, h3⟩, st⟩ := vx_callVW X hx (C := C) (hh := hh) (bytes := bytes) (maxL := maxL) (ret := ret) ho hl hin hse hcode hy hK (by rw [hT]; exact hcB) hoB hclB hg (hsize.trans hml.symm) (argsL := As) (rest := rest) (fun sig h => hn.trans (hlen sig h)) hstack hW (by rw [hb]; exact hdg)
    (fun vm₁ hW₁ => ⟨hf.1, hf.2, hPc (T.setVm vm₁) hT hW₁⟩)
  dsimp only [Pt.U, Pt.locs, Pt.cells, Pt.slots] at X' e1 e2 h1 h2 h3 st
  subst h1; subst h2; subst h3
  exact ⟨v, (T.setVm vm₁).calling g' mk (Value.ref b :: As).toArray, t, U', L, hT, X', hL, e1, e2, hq, st⟩
section
variable {y : MethodName} {bytes cc : ByteArray} {maxL nL mc ms n index : Nat} {ret : Option FieldType} {ws : List Cond} {rm : Room} {Pc : Array Value → State → Prop} {Qc : Array Value → State → Outcome → State → Prop} {XC : String → State → State → Prop} {free : Addr → Prop} {Ts : List Cond} {own C : String} {b : Addr} {As rest : List Value} {g : JFrame}
theorem vx_runVX {hh : List (Nat × Nat × Nat × Nat)} (S : CallFix p m c cc nL s args Ts own) (hM : vx_Met l y ws rm Pc Qc XC mc ms free) (cw : vx_CVW R s args own C index y bytes maxL ret hh ws rm mc ms n) (hp : PreV s H C b Pc As)
    (hg : g.method = m) (hn : As.length = n) (hsize : g.locals.size = nL) (hstack : g.stack = As.reverse ++ .ref b :: rest) (hW : 2 * g.monitorRoom + (rest.map fun v => v.category).sum ≤ 8) (hdg : decode cc g.pc = .ok (.invokevirtual index, 3)) (hf : cells + mc ≤ R.cells ∧ slots + ms ≤ R.slots) :
    vx_Run p l e R s m args below meth c H locs cells slots mc ms g rest (Qc (Value.ref b :: As).toArray) XC free := by
  obtain ⟨⟨hrc, hrs, hfr, hlo, hws, hcw⟩, hcode, hini, hy, hlen, hl, hin, hse⟩ := cw
  have hK : vx_Back l R p e below s args y 3 8 (PreOf R mc ms Pc) (PostOf Qc mc ms free) (vx_Post XC mc ms free) := vx_backW (hh := hh) (bytes := bytes) (maxL := maxL) (ret := ret) hM hp.1 hrc hrs hfr hlo hws hcw (fun a' U hW => word_at hW (Or.inl (by first | rfl | simp [Cond.onTables, Cond.keeps, Cond.steady])) hini)
  obtain ⟨hx, hb, hml, ho, -⟩ := S
  obtain ⟨-, ⟨cellB, hcB, hoB, hclB⟩, hPc⟩ := hp
  intro T hT X
  rcases vx_callVX X hx (C := C) (hh := hh) (bytes := bytes) (maxL := maxL) (ret := ret) ho hl hin hse hcode hy hK (by rw [hT]; exact hcB) hoB hclB hg (hsize.trans hml.symm) (argsL := As) (rest := rest) (fun sig h => hn.trans (hlen sig h)) hstack hW (by rw [hb]; exact hdg)
    (fun vm₁ hW₁ => ⟨hf.1, hf.2, hPc (T.setVm vm₁) hT hW₁⟩) with ⟨v, vm₁, ⟨U', l2, c2, s2⟩, hW₁, X', ⟨g', mk, t, L, e1, e2, hq, h1, hL, h2, h3⟩, st⟩ | ⟨q, vm₁, ⟨U', l2, c2, s2⟩, hW₁, X', ⟨g', mk, t, L, E, ce, e1, e2, hq, hce, hcv, hcl, h1, hL, h2, h3⟩, st⟩
  · dsimp only [Pt.U, Pt.locs, Pt.cells, Pt.slots] at X' e1 e2 h1 h2 h3 st
    subst h1; subst h2; subst h3
    exact Or.inl ⟨v, (T.setVm vm₁).calling g' mk (Value.ref b :: As).toArray, t, U', L, hT, X', hL, e1, e2, hq, st⟩
  · dsimp only [Pt.U, Pt.locs, Pt.cells, Pt.slots] at X' e1 e2 h1 h2 h3 st hcl
    subst h1; subst h2; subst h3
    exact Or.inr ⟨q, (T.setVm vm₁).calling g' mk (Value.ref b :: As).toArray, t, U', L, E, ce, hT, X', hL, e1, e2, hq, hce, hcv, vx_cls hW₁ hcl, st⟩
theorem vx_runSX {hh : List (Nat × Nat × Nat × Nat)} (S : CallFix p m c cc nL s args Ts own) (hM : vx_Met l y ws rm Pc Qc XC mc ms free) (cw : vx_CSW R s args own index y bytes maxL ret hh ws rm mc ms n) (hp : PreS s H Pc As)
    (hg : g.method = m) (hn : As.length = n) (hsize : g.locals.size = nL) (hstack : g.stack = As.reverse ++ rest) (hW : 2 * g.monitorRoom + (rest.map fun v => v.category).sum ≤ 8) (hdg : decode cc g.pc = .ok (.invokestatic index, 3)) (hf : cells + mc ≤ R.cells ∧ slots + ms ≤ R.slots) :
    vx_Run p l e R s m args below meth c H locs cells slots mc ms g rest (Qc As.toArray) XC free := by
  obtain ⟨⟨hrc, hrs, hfr, hlo, hws, hcw⟩, hcode, hini, hy, hlen, hl, hstt⟩ := cw
  have hK : vx_Back l R p e below s args y 3 8 (PreOf R mc ms Pc) (PostOf Qc mc ms free) (vx_Post XC mc ms free) := vx_backW (hh := hh) (bytes := bytes) (maxL := maxL) (ret := ret) hM hp.1 hrc hrs hfr hlo hws hcw (fun a' U hW => word_at hW (Or.inl (by first | rfl | simp [Cond.onTables, Cond.keeps, Cond.steady])) hini)
  obtain ⟨hx, hb, hml, ho, -⟩ := S
  intro T hT X
  rcases vx_callSX X hx (hh := hh) (bytes := bytes) (maxL := maxL) (ret := ret) ho hl hstt hini hcode hy hK hg (hsize.trans hml.symm) (argsL := As) (rest := rest) (fun sig h => hn.trans (hlen sig h)) hstack hW (by rw [hb]; exact hdg)
    (fun vm₁ hW₁ => ⟨hf.1, hf.2, hp.2 (T.setVm vm₁) hT hW₁⟩) with ⟨v, vm₁, ⟨U', l2, c2, s2⟩, hW₁, X', ⟨g', mk, t, L, e1, e2, hq, h1, hL, h2, h3⟩, st⟩ | ⟨q, vm₁, ⟨U', l2, c2, s2⟩, hW₁, X', ⟨g', mk, t, L, E, ce, e1, e2, hq, hce, hcv, hcl, h1, hL, h2, h3⟩, st⟩
  · dsimp only [Pt.U, Pt.locs, Pt.cells, Pt.slots] at X' e1 e2 h1 h2 h3 st
    subst h1; subst h2; subst h3
    exact Or.inl ⟨v, (T.setVm vm₁).calling g' mk As.toArray, t, U', L, hT, X', hL, e1, e2, hq, st⟩
  · dsimp only [Pt.U, Pt.locs, Pt.cells, Pt.slots] at X' e1 e2 h1 h2 h3 st hcl
    subst h1; subst h2; subst h3
    exact Or.inr ⟨q, (T.setVm vm₁).calling g' mk As.toArray, t, U', L, E, ce, hT, X', hL, e1, e2, hq, hce, hcv, vx_cls hW₁ hcl, st⟩
end
end VXH
theorem vx_ofWH {l : Launch} {y : MethodName} {ws ws' : List Cond} {rm : Room} {Pc : Array Value → State → Prop} {Qc : Array Value → State → Outcome → State → Prop} {XC : String → State → State → Prop} {mc ms : Nat} {free : Addr → Prop} {cc : ByteArray} {maxL : Nat} {ret : Option FieldType} {hh : List (Nat × Nat × Nat × Nat)}
    (hy : plainName y.cls = true) (hw : ws = Cond.codeWith y cc maxL ret hh :: ws')
    (body : ∀ p e s m args below meth c s₁, BodyLoose p l y (headSpec ws rm) cc maxL ret e s m args below meth c s₁ → c.maxLocals = maxL → Pc args s →
      W p l e (headSpec ws rm).room s m args below meth c s.heap [] 0 0 (vx_MQ below Qc XC args s mc ms free) (entryFrame m args maxL)) : vx_Met l y ws rm Pc Qc XC mc ms free := by
  refine MetFree.of_bodyS (code := cc) (maxLocals := maxL) (ret := ret) hy ?_ ?_
  · intro args s m h hn
    obtain ⟨m9, meth, c, hn9, h1, h2, h3, h4, -, h5, h6, -⟩ := Cond.codeWith_spec (atoms_spec (ws := ws) h _ (by rw [hw]; exact List.mem_cons_self))
    cases hn.symm.trans hn9
    exact ⟨meth, c, h1, h2, h3, h4, h5, h6⟩
  · intro p e s m args below meth c s₁ B hml hP _
    have hh0 : s₁.heap = s.heap := by rw [B.state]; rfl
    obtain ⟨t, a1, o, b1, b2, b3⟩ := body p e s m args below meth c s₁ B hml hP s₁ hh0 (Stand.of_body B)
    exact ⟨t, o, a1, b1, b2, b3⟩
/-! ===== END ===== -/
/-! ===== BEGIN what the machine throws by itself, no traces kept ===== -/
section VXM
set_option maxHeartbeats 1000000 in
/-- the machine throws cls with the message text, no traces kept: from its note over the frame g to 'throwing' over the same frame (follows the proofs of Stand.vmThrowsMessage, Shelf/KitTracedVmS.lean, and Stand.throwsMessageColdBareV, StandMessageColdV.lean, without the step out of the frame) -/
theorem vx_vmAt {p : Program} {l : Launch} {e : Env} {R : Room} {s : State} {m₀ : MethodId} {args : Array Value} {below : List Frame} {meth : Method} {c : Code} {W : State} {locs : List Loc} {cells slots : Nat}
    (X : Stand p l e R s m₀ args below meth c W locs cells slots) (hexec : p.tables.exec = Jvm.exec) (htr : e.platform.stackTraces = false) {cls : String} {names : List String} {text : String}
    (hcls : Bundle.fit cls = true) (hnames : ∀ n ∈ names, Bundle.fit n = true) (hsoe : (cls == "java/lang/StackOverflowError") = false) (hoom : (cls == "java/lang/OutOfMemoryError") = false)
    (h : ∀ a ∈ Bundle.messageArmAtoms cls names, a.before args s = true)
    (hlocs : ∀ x ∈ locs, ∀ cell, s.heap[x.base]? = some cell → cell.vm.isStatics = false)
    (htext : (text == notModelled) = false) (hlimit : ¬ (stringBytes (stringToUtf16 text)).size > e.platform.arrayLengthLimit) (hheap : ¬ (stringBytes (stringToUtf16 text)).size * componentBytes .byte > e.platform.maxHeapBytes)
    {g : JFrame} (hg : g.method = m₀) (hsize : g.locals.size = c.maxLocals)
    (hRframes : names.length + 4 < R.frames) (hRlocals : 2 * g.monitorRoom + (g.stack.map fun v => v.category).sum + 10240 ≤ R.locals) (hshort : 13 * names.length + 55 ≤ 10240)
    (hRcells : cells + 3 ≤ R.cells) (hRslots : slots + ((stringBytes (stringToUtf16 text)).size + 4 + 6) ≤ R.slots) (hlocks : meth.locks = false) :
    ∃ (S : State) (q : Addr) (ce : Cell), (∀ target, Steps p.tables e below ((S.setTop g).pushFrame (.throwing q)) target → Steps p.tables e below ((W.setTop g).pushFrame (.throwNew cls (some text) none)) target) ∧
      Stand p l e R s m₀ args below meth c S locs (cells + 3) (slots + ((stringBytes (stringToUtf16 text)).size + 4 + 6)) ∧ S.heap[q]? = some ce ∧ s.vm.findClass cls = some ce.cls ∧ ce.vm = .none := by
  have howns : e.platform.frameOwnsMonitors = true := by rw [X.admits.platform]
  have hfin : e.platform.finalization = false := by rw [X.admits.platform]
  have hpl : e.platform.magicAccessors = ({} : Platform).magicAccessors := by rw [X.admits.platform]
  have a : ∀ x, x ∈ Bundle.messageArmAtoms cls names → x.holds args s none s [] = true := fun x hx => h x hx
  obtain ⟨T, Z0, L, -, Y⟩ := ThrowableC.of_atoms (args := args) howns hfin hpl (fun x hx => h x (by simp [Bundle.messageArmAtoms, hx]))
  obtain ⟨Z, M, LZ, LM, hnZ⟩ := Init0T.ofS_atoms (args := args) hpl L Y (fun x hx => h x (by simp [Bundle.messageArmAtoms, hx]))
  obtain ⟨P1, Ps, hlen, L1, hL, hP1m, hlink1, hlink⟩ := Bundle.chainS (args := args) hpl hnZ names cls hcls hnames (fun x hx => h x (by simp [Bundle.messageArmAtoms, hx]))
  obtain ⟨Zs, LZs, hn4, hfitv, hfitc⟩ := StringT.of_atoms (args := args) (fun x hx => h x (by simp [Bundle.messageArmAtoms, hx]))
  have hfound : s.vm.findClass cls = some P1.m.cls := findClass_of_methodNamed hP1m
  obtain ⟨c1, kX, hc1, hk, hord, -, -, hn6⟩ := Cond.instantiable_spec (a (.instantiable cls 6) (by simp [Bundle.messageArmAtoms]))
  cases Option.some.inj (hc1.symm.trans hfound)
  have hinit := Cond.initialized_spec hfound hk (a (.initialized cls) (by simp [Bundle.messageArmAtoms]))
  have hctor : kX.findMethod "<init>" "(Ljava/lang/String;)V" = some P1.m.idx := findMethod_of_methodNamed hP1m hk
  have hsel0 : selectMethod e.platform s.vm P1.m.cls T.fill0 = .method T.fill0 := by
    obtain ⟨c2, r2, m2, q1, q2, q3, q4, -⟩ := Cond.selects_spec (a (.selects cls Bundle.tFill0 Bundle.tFill0) (by simp [Bundle.messageArmAtoms]))
    cases Option.some.inj (q1.symm.trans hfound)
    cases Option.some.inj (q2.symm.trans (State.methodFound?_of_named Y.fill0 (by decide)))
    cases Option.some.inj (q3.symm.trans Y.fill0)
    rw [Launch.admits_selectMethod X.admits]; exact q4
  have hselF : selectMethod e.platform s.vm P1.m.cls T.fill = .method T.fill := by
    obtain ⟨c2, r2, m2, q1, q2, q3, q4, -⟩ := Cond.selects_spec (a (.selects cls Bundle.tFill Bundle.tFill) (by simp [Bundle.messageArmAtoms]))
    cases Option.some.inj (q1.symm.trans hfound)
    cases Option.some.inj (q2.symm.trans (State.methodFound?_of_named Y.fill (by decide)))
    cases Option.some.inj (q3.symm.trans Y.fill)
    rw [Launch.admits_selectMethod X.admits]; exact q4
  obtain ⟨cellS0, hcS0, hiss⟩ := Y.statics
  obtain ⟨u0, hu0⟩ := Cond.staticRefV Y.unassigned L.unassignedStatic L.statics hcS0 hiss (a (.isRef (.static Bundle.tN "UNASSIGNED_STACK" Bundle.steD)) (by simp [Bundle.messageArmAtoms]))
  obtain ⟨sen, hsen⟩ := Cond.staticRefV Y.sentinel L.sentinelStatic L.statics hcS0 hiss (a (.isRef (.static Bundle.tN "SUPPRESSED_SENTINEL" Bundle.listD)) (by simp [Bundle.messageArmAtoms]))
  obtain ⟨ci198, i198, fB, hk198, hg198, ha198, hsB, -, hnB, htB, hffB⟩ := Cond.ownField (t := .object "java/lang/Object") Y.found L.cls (by decide +kernel) (a (.fieldLink Bundle.tN 198 Bundle.tN "backtrace" "Ljava/lang/Object;") (by simp [Bundle.messageArmAtoms])) (a (.lays Bundle.tN Bundle.tN "backtrace" "Ljava/lang/Object;") (by simp [Bundle.messageArmAtoms])) e.platform hpl
  obtain ⟨cellS, hcS', heS, -, hkeep⟩ := X.same.2.2.2.2.2 T.aS cellS0 hcS0
  have hcellS : W.heap[T.aS]? = some cellS := hcS'
  have hout' : ∀ i, (⟨T.aS, i⟩ : Loc) ∉ locs := fun i hmem => by
    have := hlocs _ hmem cellS0 hcS0
    rw [hiss] at this; cases this
  have hknownS : cellS.vm ≠ .unknown := by
    rw [heS]; intro hu
    rw [show cellS0.vm = .unknown from hu] at hiss
    cases hiss
  have hvU : cellS.slots[T.fUnassigned.slot]? = some u0.v := by rw [hkeep _ (hout' _)]; exact hu0
  have hvSen : cellS.slots[T.fSentinel.slot]? = some sen.v := by rw [hkeep _ (hout' _)]; exact hsen
  obtain ⟨iM, hffM⟩ := Y.msg
  obtain ⟨tyC, dC, hdC, hdnC⟩ := Cond.laysAt hfound hk Y.cause (a (.lays cls Bundle.tN "cause" "Ljava/lang/Throwable;") (by simp [Bundle.messageArmAtoms]))
  obtain ⟨tyS, dS, hdS, hdnS⟩ := Cond.laysAt hfound hk Y.stack (a (.lays cls Bundle.tN "stackTrace" Bundle.steD) (by simp [Bundle.messageArmAtoms]))
  obtain ⟨tyP, dP, hdP, hdnP⟩ := Cond.laysAt hfound hk Y.supp (a (.lays cls Bundle.tN "suppressedExceptions" Bundle.listD) (by simp [Bundle.messageArmAtoms]))
  obtain ⟨tyM, dM, hdM, hdnM⟩ := Cond.laysAt hfound hk hffM (a (.lays cls Bundle.tN "detailMessage" "Ljava/lang/String;") (by simp [Bundle.messageArmAtoms]))
  obtain ⟨tyB, dB, hdB, hdnB⟩ := Cond.laysAt hfound hk hffB (a (.lays cls Bundle.tN "backtrace" "Ljava/lang/Object;") (by simp [Bundle.messageArmAtoms]))
  have bC := Cond.laysApart hdB hdC hdnB hdnC (by rw [hnB, Y.causeName]; decide)
  have bS := Cond.laysApart hdB hdS hdnB hdnS (by rw [hnB, Y.stackName]; decide)
  have bP := Cond.laysApart hdB hdP hdnB hdnP (by rw [hnB, Y.suppName]; decide)
  have hbk : ((preparedCellV T.toThrowableT (freshCell P1.m.cls kX) (W.heap.size + 2) u0 sen).withEntry W.cur).slots[fB.slot]? = some .null := by
    have := fresh_default (c := P1.m.cls) tyB
    rw [htB] at this
    simpa [preparedCellV, Cell.setSlot, Cell.withEntry, Array.getElem?_setIfInBounds, bC, bS, bP, bC.symm, bS.symm, bP.symm, defaultValue] using this
  have tkC := Takes.of_laid (v := .ref (W.heap.size + 2)) hk hord tyC (by rw [Y.causeType]; rfl)
  have tkS := Takes.of_laid (v := u0.v) hk hord tyS (by rw [Y.stackType]; exact fits_refV_array _ u0)
  have tkP := Takes.of_laid (v := sen.v) hk hord tyP (by rw [Y.suppType]; exact fits_refV_object _ sen)
  have tkM := Takes.of_laid (v := .ref (W.heap.size + 1)) hk hord tyM (by rw [Y.msgType]; rfl)
  have hskip : SkipFacts T e.platform s (fun u => u) u0 ((preparedCellV T.toThrowableT (freshCell P1.m.cls kX) (W.heap.size + 2) u0 sen).withEntry W.cur) := ⟨{ ci198 := ci198, i198 := i198, fBack := fB }, ⟨hk198, hg198, ha198, hsB⟩, hbk, fun _ _ => rfl⟩
  have h0 : At W g.method c below := by rw [hg]; exact X.here
  obtain ⟨hbeyond, hfreeW⟩ := X.vmMayThrow hsize (.throwNew cls (some text) none) (fun f hf => by cases hf) rfl hRlocals
  have hfr' : W.frames.length + Ps.length + 4 < (e.platform.stackLimits W.me).1 := by have := X.framesAbove hRframes; omega
  have hwd' : (stackUse (.java g :: W.frames.tail)).2 + 13 * Ps.length + 55 ≤ (e.platform.stackLimits W.me).2 := by have := X.stackAbove hsize (K := 13 * Ps.length + 55) (by omega); omega
  have hslots : W.slotsUsed + (stringBytes (stringToUtf16 text)).size + Zs.kS.instanceTypes.size + kX.instanceTypes.size ≤ e.platform.maxSlots := by
    have := X.slotsAbove hRslots
    rw [hn4, hn6]
    omega
  obtain ⟨vm', hW', st⟩ := Steps.vmThrowsMessageColdByV p (s₀ := s) (S := W) (g := g) h0 hexec T L Z LZ M LM X.warmed (t := W.cur) rfl Zs LZs P1 L1 Ps hL hlink1 hlink hsoe hoom hfound hk hinit hord hctor
    (Launch.admits_hotImplicitExceptions X.admits) hbeyond hfreeW htext hlimit hheap (X.cellsAbove hRcells) hslots (hfitv _) (hfitc _)
    (Nn := fun u => u) heapOnly_id (fun _ _ => rfl) (fun _ => rfl) (fun u x y => setCell_twice _ _ _ _) (fun _ => Nat.le_refl _) (cN := ((preparedCellV T.toThrowableT (freshCell P1.m.cls kX) (W.heap.size + 2) u0 sen).withEntry W.cur))
    hsel0 hcellS hknownS hvU tkS (fun _ hu => hu) (fun _ hu => hu) rfl rfl rfl (by simp [preparedCellV, Cell.setSlot, Cell.withEntry]) hskip (fun _ _ hA hW _ hroom _ hrest => L.nativeOff p htr hA hW hroom hrest) hselF hvSen tkC tkP tkM Y.objLocals rfl hfr' hwd'
  rw [plainBareV_eq T.toThrowableT (W.heap.size + 2) u0 sen (.ref (W.heap.size + 1)) W.cur rfl rfl] at st
  obtain ⟨-, -, w3, w4, -, -, -⟩ := withThrown_facts e.platform W Zs text P1.m.cls kX
  have X3 := ((X.pushed (bytesOf Zs.cB (stringToUtf16 text))).pushed (stringAt Zs.cS Zs.kS Zs.fv Zs.fc (stringToUtf16 text) W.heap.size)).pushed (freshCell P1.m.cls kX)
  rw [← withString_eq] at X3
  have X4 := X3.noted hW'
  have ha : (W.heap.size + 2) < ((withThrown W Zs text P1.m.cls kX).setVm vm').heap.size := by show _ < (withThrown W Zs text P1.m.cls kX).heap.size; rw [w3]; omega
  have hcell : ((withThrown W Zs text P1.m.cls kX).setVm vm').heap[(W.heap.size + 2)]? = some (freshCell P1.m.cls kX) := w4
  have X5 := ((((X4.stored hcell T.fCause.slot (.ref (W.heap.size + 2))).storedAgain ha T.fStack.slot u0.v).storedAgain ha T.fSupp.slot sen.v).storedAgain ha T.fStack.slot u0.v).storedAgain ha T.fMsg.slot (.ref (W.heap.size + 1))
  obtain ⟨g₁, hfrM⟩ := X5.frames_eq
  have hU : ((((withThrown W Zs text P1.m.cls kX).setVm vm').setCell (W.heap.size + 2) (plainBareV T.toThrowableT (freshCell P1.m.cls kX) (W.heap.size + 2) u0 sen (.ref (W.heap.size + 1)))).setTop g).pushFrame (.throwing (W.heap.size + 2)) = (((withThrown W Zs text P1.m.cls kX).setVm vm').setCell (W.heap.size + 2) (plainBareV T.toThrowableT (freshCell P1.m.cls kX) (W.heap.size + 2) u0 sen (.ref (W.heap.size + 1)))).setFrames (.throwing (W.heap.size + 2) :: .java g :: below) := by
    rw [State.pushFrame, State.frames_setTop _ hfrM, State.setTop_of_frames _ hfrM, State.setFrames_setFrames]
  have b1 : (bytesOf Zs.cB (stringToUtf16 text)).slots.size = (stringBytes (stringToUtf16 text)).size := by
    rw [(Cell.writeAll_facts _ _).2.2]; simp [bytes0]
  have b2 : (stringAt Zs.cS Zs.kS Zs.fv Zs.fc (stringToUtf16 text) W.heap.size).slots.size = 4 := by simp [string0, Cell.setSlot, hn4]
  have b3 : (freshCell P1.m.cls kX).slots.size = 6 := by simp [hn6]
  rw [b1, b2, b3] at X5
  have e9 : slots + (stringBytes (stringToUtf16 text)).size + 4 + 6 = slots + ((stringBytes (stringToUtf16 text)).size + 4 + 6) := by omega
  rw [e9] at X5
  simp only [List.append_assoc, List.cons_append, List.nil_append] at X5
  refine ⟨((withThrown W Zs text P1.m.cls kX).setVm vm').setCell (W.heap.size + 2) (plainBareV T.toThrowableT (freshCell P1.m.cls kX) (W.heap.size + 2) u0 sen (.ref (W.heap.size + 1))), W.heap.size + 2, _, fun target ht => st _ (by rw [X.tail, ← hU]; exact ht),
    X5.forget (fun y hy => ?_), heapAt_setCell_self _ ha, hfound, rfl⟩
  simp only [List.mem_cons, List.not_mem_nil, or_false] at hy
  have hge : s.heap.size ≤ W.heap.size := X.same.2.1
  rcases hy with rfl | rfl | rfl | rfl | rfl <;> exact Nat.le_trans hge (Nat.le_add_right _ 2)
set_option maxHeartbeats 1000000 in
/-- the machine throws NullPointerException, no traces kept: from its note over the frame g to 'throwing' over the same frame (follows the proof of Stand.vmThrowsNpe, Shelf42/KT2.lean; throwsNpeColdBareVAt, Shelf42/NT91.lean, called) -/
theorem vx_npeAt {p : Program} {l : Launch} {e : Env} {R : Room} {s : State} {m₀ : MethodId} {args : Array Value} {below : List Frame} {meth : Method} {c : Code} {W : State} {locs : List Loc} {cells slots : Nat}
    (X : Stand p l e R s m₀ args below meth c W locs cells slots) (hexec : p.tables.exec = Jvm.exec) (htr : e.platform.stackTraces = false) {n : Nat}
    (h : ∀ a ∈ Bundle.npeArmAtoms n, a.before args s = true)
    (hlocs : ∀ x ∈ locs, ∀ cell, s.heap[x.base]? = some cell → cell.vm.isStatics = false)
    {g : JFrame} (hg : g.method = m₀) (hsize : g.locals.size = c.maxLocals)
    (hRframes : 7 < R.frames) (hRlocals : 2 * g.monitorRoom + (g.stack.map fun v => v.category).sum + 10240 ≤ R.locals)
    (hRcells : cells + 1 ≤ R.cells) (hRslots : slots + n ≤ R.slots) (hlocks : meth.locks = false) :
    ∃ (S : State) (q : Addr) (ce : Cell), (∀ target, Steps p.tables e below ((S.setTop g).pushFrame (.throwing q)) target → Steps p.tables e below ((W.setTop g).pushFrame (.throwNew "java/lang/NullPointerException" none none)) target) ∧
      Stand p l e R s m₀ args below meth c S locs (cells + 1) (slots + n) ∧ S.heap[q]? = some ce ∧ s.vm.findClass "java/lang/NullPointerException" = some ce.cls ∧ ce.vm = .none := by
  have howns : e.platform.frameOwnsMonitors = true := by rw [X.admits.platform]
  have hfin : e.platform.finalization = false := by rw [X.admits.platform]
  have hpl : e.platform.magicAccessors = ({} : Platform).magicAccessors := by rw [X.admits.platform]
  have hpl2 : e.platform.arrayCloneIsPublic = true := by rw [X.admits.platform]
  have a' : ∀ x, x ∈ Bundle.npeArmAtoms n → x.holds args s none s [] = true := fun x hx => h x hx
  obtain ⟨T, Z, L, LZ, Y⟩ := ThrowableC.of_atoms (args := args) howns hfin hpl (fun x hx => h x (by simp [Bundle.npeArmAtoms, hx]))
  obtain ⟨N, LN, hcN, hnNF, hordN, hffS⟩ := NpeC.of_atoms (args := args) hpl hpl2 L Y (fun x hx => h x (by simp [Bundle.npeArmAtoms, hx]))
  obtain ⟨P1, L1, hP1m, hP1s⟩ := PassC.of_atoms (args := args) (s := s) hpl (X := Bundle.nN) (Y := Bundle.rN) (by decide) (by decide) LibCode.NullPointerException.Init0.at_0 LibCode.NullPointerException.Init0.at_1 LibCode.NullPointerException.Init0.at_4 (fun x hx => h x (by simp [Bundle.npeArmAtoms, hx]))
  obtain ⟨PR, LR, hPRm, hPRs⟩ := PassC.of_atoms (args := args) (s := s) hpl (X := Bundle.rN) (Y := Bundle.eN) (by decide) (by decide) LibCode.RuntimeException.Init0.at_0 LibCode.RuntimeException.Init0.at_1 LibCode.RuntimeException.Init0.at_4 (fun x hx => h x (by simp [Bundle.npeArmAtoms, hx]))
  obtain ⟨PE, LEx, hPEm, hPEs⟩ := PassC.of_atoms (args := args) (s := s) hpl (X := Bundle.eN) (Y := Bundle.tN) (by decide) (by decide) LibCode.Exception.Init0.at_0 LibCode.Exception.Init0.at_1 LibCode.Exception.Init0.at_4 (fun x hx => h x (by simp [Bundle.npeArmAtoms, hx]))
  have hfound : s.vm.findClass Bundle.nN = some P1.m.cls := findClass_of_methodNamed hP1m
  have ecls : N.cN = P1.m.cls := Option.some.inj (hcN.symm.trans hfound)
  have hk : s.vm.classes[P1.m.cls]? = some N.kN := by rw [← ecls]; exact LN.cls
  have hinit := Cond.initialized_spec hfound hk (a' (.initialized Bundle.nN) (by simp [Bundle.npeArmAtoms]))
  have hctor : N.kN.findMethod "<init>" "()V" = some P1.m.idx := findMethod_of_methodNamed hP1m hk
  obtain ⟨c1, k1, hc1, hk1, -, -, -, hn⟩ := Cond.instantiable_spec (a' (.instantiable Bundle.nN n) (by simp [Bundle.npeArmAtoms]))
  cases Option.some.inj (hc1.symm.trans hfound)
  cases Option.some.inj (hk1.symm.trans hk)
  have hfsz : (freshCell P1.m.cls N.kN).slots.size = n := by simp [hn]
  have hlink1 : P1.sup = PR.m := Option.some.inj (hP1s.symm.trans hPRm)
  have hlinkR : PR.sup = PE.m := Option.some.inj (hPRs.symm.trans hPEm)
  have hlinkE : PE.sup = Z.m T.toThrowableT := Option.some.inj (hPEs.symm.trans Y.init0)
  have hLs : ∀ P, P ∈ [PR, PE] → P.Links0 e.platform s := fun P hP => by
    simp only [List.mem_cons, List.not_mem_nil, or_false] at hP
    rcases hP with rfl | rfl
    · exact LR
    · exact LEx
  have hsel0 : selectMethod e.platform s.vm P1.m.cls T.fill0 = .method T.fill0 := by
    obtain ⟨c2, r2, m2, q1, q2, q3, q4, -⟩ := Cond.selects_spec (a' (.selects Bundle.nN Bundle.tFill0 Bundle.tFill0) (by simp [Bundle.npeArmAtoms]))
    cases Option.some.inj (q1.symm.trans hfound)
    cases Option.some.inj (q2.symm.trans (State.methodFound?_of_named Y.fill0 (by decide)))
    cases Option.some.inj (q3.symm.trans Y.fill0)
    rw [Launch.admits_selectMethod X.admits]; exact q4
  have hselF : selectMethod e.platform s.vm P1.m.cls T.fill = .method N.fill := by
    obtain ⟨c2, r2, m2, q1, q2, q3, q4, -⟩ := Cond.selects_spec (a' (.selects Bundle.nN Bundle.tFill Bundle.nFill) (by simp [Bundle.npeArmAtoms]))
    cases Option.some.inj (q1.symm.trans hfound)
    cases Option.some.inj (q2.symm.trans (State.methodFound?_of_named Y.fill (by decide)))
    cases Option.some.inj (q3.symm.trans hnNF)
    rw [Launch.admits_selectMethod X.admits]; exact q4
  obtain ⟨cellS0, hcS0, hiss⟩ := Y.statics
  obtain ⟨u0, hu0⟩ := Cond.staticRefV Y.unassigned L.unassignedStatic L.statics hcS0 hiss (a' (.isRef (.static Bundle.tN "UNASSIGNED_STACK" Bundle.steD)) (by simp [Bundle.npeArmAtoms]))
  obtain ⟨sen, hsen⟩ := Cond.staticRefV Y.sentinel L.sentinelStatic L.statics hcS0 hiss (a' (.isRef (.static Bundle.tN "SUPPRESSED_SENTINEL" Bundle.listD)) (by simp [Bundle.npeArmAtoms]))
  obtain ⟨ci198, i198, fB, hk198, hg198, ha198, hsB, -, hnB, htB, hffB⟩ := Cond.ownField (t := .object "java/lang/Object") Y.found L.cls (by decide +kernel) (a' (.fieldLink Bundle.tN 198 Bundle.tN "backtrace" Bundle.objD) (by simp [Bundle.npeArmAtoms])) (a' (.lays Bundle.tN Bundle.tN "backtrace" Bundle.objD) (by simp [Bundle.npeArmAtoms])) e.platform hpl
  obtain ⟨cellS, hcS', heS, -, hkeep⟩ := X.same.2.2.2.2.2 T.aS cellS0 hcS0
  have hcellS : W.heap[T.aS]? = some cellS := hcS'
  have hout' : ∀ i, (⟨T.aS, i⟩ : Loc) ∉ locs := fun i hmem => by
    have := hlocs _ hmem cellS0 hcS0
    rw [hiss] at this; cases this
  have hknownS : cellS.vm ≠ .unknown := by
    rw [heS]; intro hu
    rw [show cellS0.vm = .unknown from hu] at hiss
    cases hiss
  have hvU : cellS.slots[T.fUnassigned.slot]? = some u0.v := by rw [hkeep _ (hout' _)]; exact hu0
  have hvSen : cellS.slots[T.fSentinel.slot]? = some sen.v := by rw [hkeep _ (hout' _)]; exact hsen
  obtain ⟨tyC, dC, hdC, hdnC⟩ := Cond.laysAt hfound hk Y.cause (a' (.lays Bundle.nN Bundle.tN "cause" "Ljava/lang/Throwable;") (by simp [Bundle.npeArmAtoms]))
  obtain ⟨tyS, dS, hdS, hdnS⟩ := Cond.laysAt hfound hk Y.stack (a' (.lays Bundle.nN Bundle.tN "stackTrace" Bundle.steD) (by simp [Bundle.npeArmAtoms]))
  obtain ⟨tyP, dP, hdP, hdnP⟩ := Cond.laysAt hfound hk Y.supp (a' (.lays Bundle.nN Bundle.tN "suppressedExceptions" Bundle.listD) (by simp [Bundle.npeArmAtoms]))
  obtain ⟨tyX, dX, hdX, hdnX⟩ := Cond.laysAt hfound hk hffS (a' (.lays Bundle.nN Bundle.nN "extendedMessageState" "I") (by simp [Bundle.npeArmAtoms, Bundle.npeAtoms]))
  obtain ⟨hnX, htX⟩ := State.fieldFound?_type hffS (t := .int) (by decide +kernel)
  have xC := Cond.laysApart hdC hdX hdnC hdnX (by rw [hnX, Y.causeName]; decide)
  have xS := Cond.laysApart hdS hdX hdnS hdnX (by rw [hnX, Y.stackName]; decide)
  have xP := Cond.laysApart hdP hdX hdnP hdnX (by rw [hnX, Y.suppName]; decide)
  have hv0 : (freshCell P1.m.cls N.kN).slots[N.fState.slot]? = some (.int 0) := by
    have := fresh_default (c := P1.m.cls) tyX
    rw [htX] at this; exact this
  obtain ⟨tyB, dB, hdB, hdnB⟩ := Cond.laysAt hfound hk hffB (a' (.lays Bundle.nN Bundle.tN "backtrace" Bundle.objD) (by simp [Bundle.npeArmAtoms]))
  have bC := Cond.laysApart hdB hdC hdnB hdnC (by rw [hnB, Y.causeName]; decide)
  have bS := Cond.laysApart hdB hdS hdnB hdnS (by rw [hnB, Y.stackName]; decide)
  have bP := Cond.laysApart hdB hdP hdnB hdnP (by rw [hnB, Y.suppName]; decide)
  have bX := Cond.laysApart hdB hdX hdnB hdnX (by rw [hnB, hnX]; decide)
  have hbk : ((npeCell N.toNpeT (preparedCellV T.toThrowableT (freshCell P1.m.cls N.kN) W.heap.size u0 sen) W.cur).withEntry W.cur).slots[fB.slot]? = some .null := by
    have := fresh_default (c := P1.m.cls) tyB
    rw [htB] at this
    simpa [npeCell, preparedCellV, Cell.setSlot, Cell.withEntry, Array.getElem?_setIfInBounds, bC, bS, bP, bX, bC.symm, bS.symm, bP.symm, bX.symm, defaultValue] using this
  have tkC := Takes.of_laid (v := .ref W.heap.size) hk hordN tyC (by rw [Y.causeType]; rfl)
  have tkS := Takes.of_laid (v := u0.v) hk hordN tyS (by rw [Y.stackType]; exact fits_refV_array _ u0)
  have tkP := Takes.of_laid (v := sen.v) hk hordN tyP (by rw [Y.suppType]; exact fits_refV_object _ sen)
  have tkX := Takes.of_laid (v := .int 1) hk hordN tyX (by rw [htX]; rfl)
  have hskip : SkipFacts T e.platform s (fun u => u) u0 ((npeCell N.toNpeT (preparedCellV T.toThrowableT (freshCell P1.m.cls N.kN) W.heap.size u0 sen) W.cur).withEntry W.cur) := ⟨{ ci198 := ci198, i198 := i198, fBack := fB }, ⟨hk198, hg198, ha198, hsB⟩, hbk, fun _ _ => rfl⟩
  obtain ⟨vm', X3, st, -⟩ := X.throwsNpeColdBareVAt hexec hg hsize T L Z LZ N LN P1 L1 [PR, PE] hLs hlink1 ⟨hlinkR, hlinkE, trivial⟩ hfound hk hinit hordN hctor hsel0 hselF hcellS hknownS hvU hvSen
    hv0 xC xS xP tkC tkS tkP tkX Y.objLocals hskip (fun _ _ hA hW _ hroom _ hrest => L.nativeOff p htr hA hW hroom hrest) (by simpa using hRframes) hRlocals (by simp) hRcells (by rw [hn]; exact hRslots)
  have hlt : W.heap.size < ((W.pushCell (freshCell P1.m.cls N.kN)).setVm vm').heap.size := by
    show W.heap.size < (W.pushCell (freshCell P1.m.cls N.kN)).heap.size
    rw [State.heap_size_pushCell]; omega
  rw [hfsz] at X3
  obtain ⟨g₁, hfrM⟩ := X3.frames_eq
  have hU : ((((W.pushCell (freshCell P1.m.cls N.kN)).setVm vm').setCell W.heap.size (npeBareV T.toThrowableT N.toNpeT (freshCell P1.m.cls N.kN) W.heap.size u0 sen)).setTop g).pushFrame (.throwing W.heap.size) = (((W.pushCell (freshCell P1.m.cls N.kN)).setVm vm').setCell W.heap.size (npeBareV T.toThrowableT N.toNpeT (freshCell P1.m.cls N.kN) W.heap.size u0 sen)).setFrames (.throwing W.heap.size :: .java g :: below) := by
    rw [State.pushFrame, State.frames_setTop _ hfrM, State.setTop_of_frames _ hfrM, State.setFrames_setFrames]
  refine ⟨_, W.heap.size, _, fun target ht => st.trans (by rw [← hU]; exact ht), X3.forget (fun y hy => ?_), heapAt_setCell_self _ hlt, hfound, rfl⟩
  simp only [List.mem_cons, List.not_mem_nil, or_false] at hy
  have hge : s.heap.size ≤ W.heap.size := X.same.2.1
  rcases hy with rfl | rfl | rfl | rfl | rfl <;> exact hge
/-- the words of a machine's NullPointerException, but the four that speak of the heap -/
def vx_atN (n : Nat) : List Cond := (Bundle.npeArmAtoms n).filter vx_no
/-- the words of a machine's throw with a message, but the four that speak of the heap -/
def vx_atM (X : String) (names : List String) : List Cond := (Bundle.messageArmAtoms X names).filter vx_no
section
variable {p : Program} {l : Launch} {e : Env} {R : Room} {s : State} {m : MethodId} {args : Array Value} {below : List Frame} {meth : Method} {c : Code} {H : Heap} {locs : List Loc} {cells slots : Nat}
/-- a frame seen from a rebased start, seen from the first start again -/
theorem vx_back9 {T S : State} {R' : Room} {k n : Nat} (X : Stand p l e R s m args below meth c T locs cells slots) (Y : Stand p l e R' ((T.setVm s.vm).setFrames (.invoking m args :: below)) m args below meth c T [] 0 0) (Z : Stand p l e R' ((T.setVm s.vm).setFrames (.invoking m args :: below)) m args below meth c S [] k n) :
    Stand p l e R s m args below meth c S locs (cells + k) (slots + n) := by
  have hW0 : s.WarmedH ((T.setVm s.vm).setFrames (.invoking m args :: below)).vm := State.WarmedH.refl s
  refine { admits := X.admits, cas := X.cas, clock := X.clock, frames := X.frames, room := X.room, hears := X.hears, method := X.method, code := X.code, here := Z.here, tail := Z.tail, warmed := State.WarmedH.trans hW0 Z.warmed, limits := Z.limits.trans (Y.limits.symm.trans X.limits), bytes := Z.bytes.trans (Y.bytes.symm.trans X.bytes), same := ?_ }
  obtain ⟨e1, e2⟩ := Z.same
  rw [State.setFrames_setFrames] at e1
  have h2 : (T.setVm s.vm).sameButNew (S.setVm s.vm) [] k n := ⟨e1, e2⟩
  have h3 := X.same.trans h2
  rw [List.append_nil] at h3
  exact h3
/-- from the machine's note that E is thrown here with this text -/
def vx_Note (p : Program) (l : Launch) (e : Env) (R : Room) (s : State) (m : MethodId) (args : Array Value) (below : List Frame) (meth : Method) (c : Code) (H : Heap) (locs : List Loc) (cells slots : Nat) (Q : State → Prop) (g : JFrame) (E text : String) : Prop :=
  ∀ T : State, T.heap = H → Stand p l e R s m args below meth c T locs cells slots → ∃ t, Steps p.tables e below ((T.setTop g).pushFrame (.throwNew E (some text) none)) t ∧ Q t
theorem vx_vm {pc : Nat} {ls : Array Slot} {rest : List Value} {Q : State → Prop} (hexec : p.tables.exec = Jvm.exec) (hl : l.stackTraces = false) {cls text : String} {names : List String} {nb : Nat} {A : Nat → Prop}
    (hcls : Bundle.fit cls = true) (hnames : ∀ n ∈ names, Bundle.fit n = true) (hsoe : (cls == "java/lang/StackOverflowError") = false) (hoom : (cls == "java/lang/OutOfMemoryError") = false)
    (hat : ∀ w ∈ vx_atM cls names, w.before args s = true) (hgood : ∀ w ∈ vx_atM cls names, vx_ot w = true)
    (hU : vx_Zq Bundle.tN "UNASSIGNED_STACK" Bundle.steD A s s.heap) (hN : vx_Zq Bundle.tN "SUPPRESSED_SENTINEL" Bundle.listD A s s.heap) (hS : va_S A s.heap H locs) (hsize : ls.size = c.maxLocals)
    (htext : (text == notModelled) = false) (hnb : (stringBytes (stringToUtf16 text)).size ≤ nb) (hnb1 : nb ≤ 1000)
    (hRframes : names.length + 4 < R.frames) (hRlocals : (rest.map fun v => v.category).sum + 10240 ≤ R.locals) (hshort : 13 * names.length + 55 ≤ 10240) (hRcells : cells + 3 ≤ R.cells) (hRslots : slots + (nb + 10) ≤ R.slots) (hlocks : meth.locks = false)
    (k : ∀ (H1 : Heap) (q9 : Addr) (ce : Cell), H.size ≤ H1.size → (∀ q : Nat, q < H.size → H1[q]? = H[q]?) → va_S A s.heap H1 locs → H1[q9]? = some ce → ce.vm = .none → s.vm.findClass cls = some ce.cls → vx_W p l e R s m args below meth c H1 locs (cells + 3) (slots + (nb + 10)) Q (F0 m pc ls rest) q9) :
    vx_Note p l e R s m args below meth c H locs cells slots Q (F0 m pc ls rest) cls text := by
  intro T hT X
  have htr : e.platform.stackTraces = false := (show e.platform.stackTraces = l.stackTraces by rw [X.admits.platform]).trans hl
  have Y := vx_rebase X (R' := { frames := R.frames, locals := R.locals, cells := 3, slots := nb + 10 }) (Nat.le_refl _) (Nat.le_refl _) hRcells hRslots
  have hhp : ((T.setVm s.vm).setFrames (.invoking m args :: below)).heap = H := hT
  have hW0 : s.WarmedH ((T.setVm s.vm).setFrames (.invoking m args :: below)).vm := State.WarmedH.refl s
  have hat' : ∀ w ∈ vx_atM cls names, w.before args ((T.setVm s.vm).setFrames (.invoking m args :: below)) = true := fun w hw => vx_ot_at hW0 rfl (hgood w hw) (hat w hw)
  have hU' : vx_Zq Bundle.tN "UNASSIGNED_STACK" Bundle.steD A ((T.setVm s.vm).setFrames (.invoking m args :: below)) ((T.setVm s.vm).setFrames (.invoking m args :: below)).heap := by rw [hhp]; exact vx_Zq.moved hW0.alike (hU.kept hS.2.1)
  have hN' : vx_Zq Bundle.tN "SUPPRESSED_SENTINEL" Bundle.listD A ((T.setVm s.vm).setFrames (.invoking m args :: below)) ((T.setVm s.vm).setFrames (.invoking m args :: below)).heap := by rw [hhp]; exact vx_Zq.moved hW0.alike (hN.kept hS.2.1)
  obtain ⟨S, q, ce, st, Z, hce, hcl', hv⟩ := vx_vmAt Y hexec htr (cls := cls) (names := names) (text := text) hcls hnames hsoe hoom (vx_own hat' (vx_isRefq hU'.1) (vx_isRefq hN'.1) hU'.2.word hN'.2.word) (fun x hx => nomatch hx) htext
    (by rw [Launch.admits_arrayLengthLimit X.admits]; omega) (by rw [Launch.admits_maxHeapBytes X.admits]; simp only [componentBytes]; omega)
    (g := F0 m pc ls rest) rfl hsize hRframes (by show 2 * 0 + (rest.map fun v => v.category).sum + 10240 ≤ R.locals; omega) hshort (by show 0 + 3 ≤ 3; omega) (by show 0 + (_ + 4 + 6) ≤ nb + 10; omega) hlocks
  obtain ⟨f1, f2⟩ := vx_frame Z.same
  have f1' : H.size ≤ S.heap.size := by rw [← hT]; exact f1
  have f2' : ∀ q : Nat, q < H.size → S.heap[q]? = H[q]? := fun q hq => by
    rw [← hT]
    exact f2 q (by rw [← hT] at hq; exact hq) (fun z hz => nomatch hz)
  have X5 := vx_back9 X Y Z
  have X6 : Stand p l e R s m args below meth c S locs (cells + 3) (slots + (nb + 10)) := { X5 with same := X5.same.mono (by omega) (by omega) }
  obtain ⟨t, a1, b1⟩ := k S.heap q ce f1' f2' ⟨Nat.le_trans hS.1 f1', fun q h1 h2 => (f2' q (Nat.lt_of_lt_of_le h1 hS.1)).trans (hS.2.1 q h1 h2), hS.2.2⟩ hce hv hcl' S rfl X6
  exact ⟨t, st t a1, b1⟩
/-- from the machine's note that NullPointerException is thrown here -/
def vx_NoteN (p : Program) (l : Launch) (e : Env) (R : Room) (s : State) (m : MethodId) (args : Array Value) (below : List Frame) (meth : Method) (c : Code) (H : Heap) (locs : List Loc) (cells slots : Nat) (Q : State → Prop) (g : JFrame) : Prop :=
  ∀ T : State, T.heap = H → Stand p l e R s m args below meth c T locs cells slots → ∃ t, Steps p.tables e below ((T.setTop g).pushFrame (.throwNew "java/lang/NullPointerException" none none)) t ∧ Q t
theorem vx_npe {pc : Nat} {ls : Array Slot} {rest : List Value} {Q : State → Prop} (hexec : p.tables.exec = Jvm.exec) (hl : l.stackTraces = false) {nb : Nat} {A : Nat → Prop}
    (hat : ∀ w ∈ vx_atN nb, w.before args s = true) (hgood : ∀ w ∈ vx_atN nb, vx_ot w = true)
    (hU : vx_Zq Bundle.tN "UNASSIGNED_STACK" Bundle.steD A s s.heap) (hN : vx_Zq Bundle.tN "SUPPRESSED_SENTINEL" Bundle.listD A s s.heap) (hS : va_S A s.heap H locs) (hsize : ls.size = c.maxLocals)
    (hRframes : 7 < R.frames) (hRlocals : (rest.map fun v => v.category).sum + 10240 ≤ R.locals) (hRcells : cells + 1 ≤ R.cells) (hRslots : slots + nb ≤ R.slots) (hlocks : meth.locks = false)
    (k : ∀ (H1 : Heap) (q9 : Addr) (ce : Cell), H.size ≤ H1.size → (∀ q : Nat, q < H.size → H1[q]? = H[q]?) → va_S A s.heap H1 locs → H1[q9]? = some ce → ce.vm = .none → s.vm.findClass "java/lang/NullPointerException" = some ce.cls → vx_W p l e R s m args below meth c H1 locs (cells + 1) (slots + nb) Q (F0 m pc ls rest) q9) :
    vx_NoteN p l e R s m args below meth c H locs cells slots Q (F0 m pc ls rest) := by
  intro T hT X
  have htr : e.platform.stackTraces = false := (show e.platform.stackTraces = l.stackTraces by rw [X.admits.platform]).trans hl
  have Y := vx_rebase X (R' := { frames := R.frames, locals := R.locals, cells := 1, slots := nb }) (Nat.le_refl _) (Nat.le_refl _) hRcells hRslots
  have hhp : ((T.setVm s.vm).setFrames (.invoking m args :: below)).heap = H := hT
  have hW0 : s.WarmedH ((T.setVm s.vm).setFrames (.invoking m args :: below)).vm := State.WarmedH.refl s
  have hat' : ∀ w ∈ vx_atN nb, w.before args ((T.setVm s.vm).setFrames (.invoking m args :: below)) = true := fun w hw => vx_ot_at hW0 rfl (hgood w hw) (hat w hw)
  have hU' : vx_Zq Bundle.tN "UNASSIGNED_STACK" Bundle.steD A ((T.setVm s.vm).setFrames (.invoking m args :: below)) ((T.setVm s.vm).setFrames (.invoking m args :: below)).heap := by rw [hhp]; exact vx_Zq.moved hW0.alike (hU.kept hS.2.1)
  have hN' : vx_Zq Bundle.tN "SUPPRESSED_SENTINEL" Bundle.listD A ((T.setVm s.vm).setFrames (.invoking m args :: below)) ((T.setVm s.vm).setFrames (.invoking m args :: below)).heap := by rw [hhp]; exact vx_Zq.moved hW0.alike (hN.kept hS.2.1)
  obtain ⟨S, q, ce, st, Z, hce, hcl', hv⟩ := vx_npeAt Y hexec htr (n := nb) (vx_own hat' (vx_isRefq hU'.1) (vx_isRefq hN'.1) hU'.2.word hN'.2.word) (fun x hx => nomatch hx)
    (g := F0 m pc ls rest) rfl hsize hRframes (by show 2 * 0 + (rest.map fun v => v.category).sum + 10240 ≤ R.locals; omega) (by show 0 + 1 ≤ 1; omega) (by show 0 + nb ≤ nb; omega) hlocks
  obtain ⟨f1, f2⟩ := vx_frame Z.same
  have f1' : H.size ≤ S.heap.size := by rw [← hT]; exact f1
  have f2' : ∀ q : Nat, q < H.size → S.heap[q]? = H[q]? := fun q hq => by
    rw [← hT]
    exact f2 q (by rw [← hT] at hq; exact hq) (fun z hz => nomatch hz)
  have X5 := vx_back9 X Y Z
  have X6 : Stand p l e R s m args below meth c S locs (cells + 1) (slots + nb) := { X5 with same := X5.same.mono (by omega) (by omega) }
  obtain ⟨t, a1, b1⟩ := k S.heap q ce f1' f2' ⟨Nat.le_trans hS.1 f1', fun q h1 h2 => (f2' q (Nat.lt_of_lt_of_le h1 hS.1)).trans (hS.2.1 q h1 h2), hS.2.2⟩ hce hv hcl' S rfl X6
  exact ⟨t, st t a1, b1⟩
variable {Q : State → Prop} {cc : ByteArray} {pc : Nat} {ls : Array Slot} {rest : List Value}
theorem vx_idivZ (hexec : p.tables.exec = Jvm.exec) (hb : c.code = cc) {a b : Int32} (h0 : b = 0) (d : decode cc pc = .ok (.idiv, 1)) (k : vx_Note p l e R s m args below meth c H locs cells slots Q (F0 m pc ls rest) "java/lang/ArithmeticException" "/ by zero") :
    W p l e R s m args below meth c H locs cells slots Q (F0 m pc ls (.int b :: .int a :: rest)) := by
  intro T hT X
  obtain ⟨t, st, q⟩ := k T hT X
  exact ⟨t, X.idivZero hexec (g := F0 m pc ls (.int b :: .int a :: rest)) rfl (a := a) (rest := rest) (by rw [h0]) (by rw [hb]; exact d) t st, q⟩
theorem vx_iremZ (hexec : p.tables.exec = Jvm.exec) (hb : c.code = cc) {a b : Int32} (h0 : b = 0) (d : decode cc pc = .ok (.irem, 1)) (k : vx_Note p l e R s m args below meth c H locs cells slots Q (F0 m pc ls rest) "java/lang/ArithmeticException" "/ by zero") :
    W p l e R s m args below meth c H locs cells slots Q (F0 m pc ls (.int b :: .int a :: rest)) := by
  intro T hT X
  obtain ⟨t, st, q⟩ := k T hT X
  exact ⟨t, X.iremZero hexec (g := F0 m pc ls (.int b :: .int a :: rest)) rfl (a := a) (rest := rest) (by rw [h0]) (by rw [hb]; exact d) t st, q⟩
theorem vx_ldivZ (hexec : p.tables.exec = Jvm.exec) (hb : c.code = cc) {a b : Int64} (h0 : b = 0) (d : decode cc pc = .ok (.ldiv, 1)) (k : vx_Note p l e R s m args below meth c H locs cells slots Q (F0 m pc ls rest) "java/lang/ArithmeticException" "/ by zero") :
    W p l e R s m args below meth c H locs cells slots Q (F0 m pc ls (.long b :: .long a :: rest)) := by
  intro T hT X
  obtain ⟨t, st, q⟩ := k T hT X
  exact ⟨t, X.ldivZero hexec (g := F0 m pc ls (.long b :: .long a :: rest)) rfl (a := a) (rest := rest) (by rw [h0]) (by rw [hb]; exact d) t st, q⟩
theorem vx_lremZ (hexec : p.tables.exec = Jvm.exec) (hb : c.code = cc) {a b : Int64} (h0 : b = 0) (d : decode cc pc = .ok (.lrem, 1)) (k : vx_Note p l e R s m args below meth c H locs cells slots Q (F0 m pc ls rest) "java/lang/ArithmeticException" "/ by zero") :
    W p l e R s m args below meth c H locs cells slots Q (F0 m pc ls (.long b :: .long a :: rest)) := by
  intro T hT X
  obtain ⟨t, st, q⟩ := k T hT X
  exact ⟨t, X.lremZero hexec (g := F0 m pc ls (.long b :: .long a :: rest)) rfl (a := a) (rest := rest) (by rw [h0]) (by rw [hb]; exact d) t st, q⟩
theorem vx_ialdZ {D : va_G} {cl : List vw_C} {ws : va_W} {tys : List (ClassId × FieldType)} {a : Nat} (hexec : p.tables.exec = Jvm.exec) (hb : c.code = cc) (hK : va_K D cl tys s) (hP : va_P D cl ws H) (q0 t0 : Nat) {cA : ClassId} {n : Nat} {f : Nat → Int32} (ha : ws[q0]? = some (a, .inl (cA, n, .inl f))) (ht : tys[t0]? = some (cA, .int)) {i : Int32} (hout : ¬ vp_in i n) (hdg : decode cc pc = .ok (.iaload, 1))
    (k : ∀ tx : String, tx = (toString "Index " ++ toString i ++ toString " out of bounds for length " ++ toString n : String) → vx_Note p l e R s m args below meth c H locs cells slots Q (F0 m pc ls rest) "java/lang/ArrayIndexOutOfBoundsException" tx) : W p l e R s m args below meth c H locs cells slots Q (F0 m pc ls (.int i :: .ref a :: rest)) := by
  intro T hT X
  obtain ⟨t, st, q⟩ := k _ rfl T hT X
  refine ⟨t, ?_, q⟩
  have h1 := X.ialoadOut hexec (by rw [hT]; exact hP q0 _ ha) ((hK.2 t0 _ ht).1 n (fun j => .int (f j))) (j := i) (by show (i < 0 ∨ (arrV _ _ _).slots.size ≤ _); rw [arrV_size]; exact Classical.byContradiction hout) (g := F0 m pc ls (.int i :: .ref a :: rest)) rfl (rest := rest) rfl (by rw [hb]; exact hdg) t
  simp only [arrV_size] at h1
  exact h1 st
theorem vx_iastZ {D : va_G} {cl : List vw_C} {ws : va_W} {tys : List (ClassId × FieldType)} {a : Nat} (hexec : p.tables.exec = Jvm.exec) (hb : c.code = cc) (hK : va_K D cl tys s) (hP : va_P D cl ws H) (q0 t0 : Nat) {cA : ClassId} {n : Nat} {f : Nat → Int32} (ha : ws[q0]? = some (a, .inl (cA, n, .inl f))) (ht : tys[t0]? = some (cA, .int)) {i : Int32} {x : Int32} (hout : ¬ vp_in i n) (hdg : decode cc pc = .ok (.iastore, 1))
    (k : ∀ tx : String, tx = (toString "Index " ++ toString i ++ toString " out of bounds for length " ++ toString n : String) → vx_Note p l e R s m args below meth c H locs cells slots Q (F0 m pc ls rest) "java/lang/ArrayIndexOutOfBoundsException" tx) : W p l e R s m args below meth c H locs cells slots Q (F0 m pc ls (.int x :: .int i :: .ref a :: rest)) := by
  intro T hT X
  obtain ⟨t, st, q⟩ := k _ rfl T hT X
  refine ⟨t, ?_, q⟩
  have h1 := X.iastoreOut hexec (by rw [hT]; exact hP q0 _ ha) ((hK.2 t0 _ ht).1 n (fun j => .int (f j))) (j := i) (by show (i < 0 ∨ (arrV _ _ _).slots.size ≤ _); rw [arrV_size]; exact Classical.byContradiction hout) (g := F0 m pc ls (.int x :: .int i :: .ref a :: rest)) rfl (rest := rest) rfl (by rw [hb]; exact hdg) t
  simp only [arrV_size] at h1
  exact h1 st
theorem vx_baldZ {D : va_G} {cl : List vw_C} {ws : va_W} {tys : List (ClassId × FieldType)} {a : Nat} (hexec : p.tables.exec = Jvm.exec) (hb : c.code = cc) (hK : va_K D cl tys s) (hP : va_P D cl ws H) (q0 t0 : Nat) {cA : ClassId} {n : Nat} {f : Nat → Int32} (ha : ws[q0]? = some (a, .inl (cA, n, .inl f))) (ht : tys[t0]? = some (cA, .byte)) {i : Int32} (hout : ¬ vp_in i n) (hdg : decode cc pc = .ok (.baload, 1))
    (k : ∀ tx : String, tx = (toString "Index " ++ toString i ++ toString " out of bounds for length " ++ toString n : String) → vx_Note p l e R s m args below meth c H locs cells slots Q (F0 m pc ls rest) "java/lang/ArrayIndexOutOfBoundsException" tx) : W p l e R s m args below meth c H locs cells slots Q (F0 m pc ls (.int i :: .ref a :: rest)) := by
  intro T hT X
  obtain ⟨t, st, q⟩ := k _ rfl T hT X
  refine ⟨t, ?_, q⟩
  have h1 := X.baloadOut hexec (by rw [hT]; exact hP q0 _ ha) ((hK.2 t0 _ ht).1 n (fun j => .int (f j))) (j := i) (by show (i < 0 ∨ (arrV _ _ _).slots.size ≤ _); rw [arrV_size]; exact Classical.byContradiction hout) (g := F0 m pc ls (.int i :: .ref a :: rest)) rfl (rest := rest) rfl (by rw [hb]; exact hdg) t
  simp only [arrV_size] at h1
  exact h1 st
theorem vx_bastZ {D : va_G} {cl : List vw_C} {ws : va_W} {tys : List (ClassId × FieldType)} {a : Nat} (hexec : p.tables.exec = Jvm.exec) (hb : c.code = cc) (hK : va_K D cl tys s) (hP : va_P D cl ws H) (q0 t0 : Nat) {cA : ClassId} {n : Nat} {f : Nat → Int32} (ha : ws[q0]? = some (a, .inl (cA, n, .inl f))) (ht : tys[t0]? = some (cA, .byte)) {i : Int32} {x : Int32} (hout : ¬ vp_in i n) (hdg : decode cc pc = .ok (.bastore, 1))
    (k : ∀ tx : String, tx = (toString "Index " ++ toString i ++ toString " out of bounds for length " ++ toString n : String) → vx_Note p l e R s m args below meth c H locs cells slots Q (F0 m pc ls rest) "java/lang/ArrayIndexOutOfBoundsException" tx) : W p l e R s m args below meth c H locs cells slots Q (F0 m pc ls (.int x :: .int i :: .ref a :: rest)) := by
  intro T hT X
  obtain ⟨t, st, q⟩ := k _ rfl T hT X
  refine ⟨t, ?_, q⟩
  have h1 := X.bastoreOut hexec (by rw [hT]; exact hP q0 _ ha) ((hK.2 t0 _ ht).1 n (fun j => .int (f j))) (j := i) (by show (i < 0 ∨ (arrV _ _ _).slots.size ≤ _); rw [arrV_size]; exact Classical.byContradiction hout) (g := F0 m pc ls (.int x :: .int i :: .ref a :: rest)) rfl (rest := rest) rfl (by rw [hb]; exact hdg) t
  simp only [arrV_size] at h1
  exact h1 st
theorem vx_zaldZ {D : va_G} {cl : List vw_C} {ws : va_W} {tys : List (ClassId × FieldType)} {a : Nat} (hexec : p.tables.exec = Jvm.exec) (hb : c.code = cc) (hK : va_K D cl tys s) (hP : va_P D cl ws H) (q0 t0 : Nat) {cA : ClassId} {n : Nat} {f : Nat → Int32} (ha : ws[q0]? = some (a, .inl (cA, n, .inl f))) (ht : tys[t0]? = some (cA, .boolean)) {i : Int32} (hout : ¬ vp_in i n) (hdg : decode cc pc = .ok (.baload, 1))
    (k : ∀ tx : String, tx = (toString "Index " ++ toString i ++ toString " out of bounds for length " ++ toString n : String) → vx_Note p l e R s m args below meth c H locs cells slots Q (F0 m pc ls rest) "java/lang/ArrayIndexOutOfBoundsException" tx) : W p l e R s m args below meth c H locs cells slots Q (F0 m pc ls (.int i :: .ref a :: rest)) := by
  intro T hT X
  obtain ⟨t, st, q⟩ := k _ rfl T hT X
  refine ⟨t, ?_, q⟩
  have h1 := X.baloadOut hexec (by rw [hT]; exact hP q0 _ ha) ((hK.2 t0 _ ht).1 n (fun j => .int (f j))) (j := i) (by show (i < 0 ∨ (arrV _ _ _).slots.size ≤ _); rw [arrV_size]; exact Classical.byContradiction hout) (g := F0 m pc ls (.int i :: .ref a :: rest)) rfl (rest := rest) rfl (by rw [hb]; exact hdg) t
  simp only [arrV_size] at h1
  exact h1 st
theorem vx_zastZ {D : va_G} {cl : List vw_C} {ws : va_W} {tys : List (ClassId × FieldType)} {a : Nat} (hexec : p.tables.exec = Jvm.exec) (hb : c.code = cc) (hK : va_K D cl tys s) (hP : va_P D cl ws H) (q0 t0 : Nat) {cA : ClassId} {n : Nat} {f : Nat → Int32} (ha : ws[q0]? = some (a, .inl (cA, n, .inl f))) (ht : tys[t0]? = some (cA, .boolean)) {i : Int32} {x : Int32} (hout : ¬ vp_in i n) (hdg : decode cc pc = .ok (.bastore, 1))
    (k : ∀ tx : String, tx = (toString "Index " ++ toString i ++ toString " out of bounds for length " ++ toString n : String) → vx_Note p l e R s m args below meth c H locs cells slots Q (F0 m pc ls rest) "java/lang/ArrayIndexOutOfBoundsException" tx) : W p l e R s m args below meth c H locs cells slots Q (F0 m pc ls (.int x :: .int i :: .ref a :: rest)) := by
  intro T hT X
  obtain ⟨t, st, q⟩ := k _ rfl T hT X
  refine ⟨t, ?_, q⟩
  have h1 := X.bastoreOut hexec (by rw [hT]; exact hP q0 _ ha) ((hK.2 t0 _ ht).1 n (fun j => .int (f j))) (j := i) (by show (i < 0 ∨ (arrV _ _ _).slots.size ≤ _); rw [arrV_size]; exact Classical.byContradiction hout) (g := F0 m pc ls (.int x :: .int i :: .ref a :: rest)) rfl (rest := rest) rfl (by rw [hb]; exact hdg) t
  simp only [arrV_size] at h1
  exact h1 st
theorem vx_caldZ {D : va_G} {cl : List vw_C} {ws : va_W} {tys : List (ClassId × FieldType)} {a : Nat} (hexec : p.tables.exec = Jvm.exec) (hb : c.code = cc) (hK : va_K D cl tys s) (hP : va_P D cl ws H) (q0 t0 : Nat) {cA : ClassId} {n : Nat} {f : Nat → Int32} (ha : ws[q0]? = some (a, .inl (cA, n, .inl f))) (ht : tys[t0]? = some (cA, .char)) {i : Int32} (hout : ¬ vp_in i n) (hdg : decode cc pc = .ok (.caload, 1))
    (k : ∀ tx : String, tx = (toString "Index " ++ toString i ++ toString " out of bounds for length " ++ toString n : String) → vx_Note p l e R s m args below meth c H locs cells slots Q (F0 m pc ls rest) "java/lang/ArrayIndexOutOfBoundsException" tx) : W p l e R s m args below meth c H locs cells slots Q (F0 m pc ls (.int i :: .ref a :: rest)) := by
  intro T hT X
  obtain ⟨t, st, q⟩ := k _ rfl T hT X
  refine ⟨t, ?_, q⟩
  have h1 := X.caloadOut hexec (by rw [hT]; exact hP q0 _ ha) ((hK.2 t0 _ ht).1 n (fun j => .int (f j))) (j := i) (by show (i < 0 ∨ (arrV _ _ _).slots.size ≤ _); rw [arrV_size]; exact Classical.byContradiction hout) (g := F0 m pc ls (.int i :: .ref a :: rest)) rfl (rest := rest) rfl (by rw [hb]; exact hdg) t
  simp only [arrV_size] at h1
  exact h1 st
theorem vx_castZ {D : va_G} {cl : List vw_C} {ws : va_W} {tys : List (ClassId × FieldType)} {a : Nat} (hexec : p.tables.exec = Jvm.exec) (hb : c.code = cc) (hK : va_K D cl tys s) (hP : va_P D cl ws H) (q0 t0 : Nat) {cA : ClassId} {n : Nat} {f : Nat → Int32} (ha : ws[q0]? = some (a, .inl (cA, n, .inl f))) (ht : tys[t0]? = some (cA, .char)) {i : Int32} {x : Int32} (hout : ¬ vp_in i n) (hdg : decode cc pc = .ok (.castore, 1))
    (k : ∀ tx : String, tx = (toString "Index " ++ toString i ++ toString " out of bounds for length " ++ toString n : String) → vx_Note p l e R s m args below meth c H locs cells slots Q (F0 m pc ls rest) "java/lang/ArrayIndexOutOfBoundsException" tx) : W p l e R s m args below meth c H locs cells slots Q (F0 m pc ls (.int x :: .int i :: .ref a :: rest)) := by
  intro T hT X
  obtain ⟨t, st, q⟩ := k _ rfl T hT X
  refine ⟨t, ?_, q⟩
  have h1 := X.castoreOut hexec (by rw [hT]; exact hP q0 _ ha) ((hK.2 t0 _ ht).1 n (fun j => .int (f j))) (j := i) (by show (i < 0 ∨ (arrV _ _ _).slots.size ≤ _); rw [arrV_size]; exact Classical.byContradiction hout) (g := F0 m pc ls (.int x :: .int i :: .ref a :: rest)) rfl (rest := rest) rfl (by rw [hb]; exact hdg) t
  simp only [arrV_size] at h1
  exact h1 st
theorem vx_saldZ {D : va_G} {cl : List vw_C} {ws : va_W} {tys : List (ClassId × FieldType)} {a : Nat} (hexec : p.tables.exec = Jvm.exec) (hb : c.code = cc) (hK : va_K D cl tys s) (hP : va_P D cl ws H) (q0 t0 : Nat) {cA : ClassId} {n : Nat} {f : Nat → Int32} (ha : ws[q0]? = some (a, .inl (cA, n, .inl f))) (ht : tys[t0]? = some (cA, .short)) {i : Int32} (hout : ¬ vp_in i n) (hdg : decode cc pc = .ok (.saload, 1))
    (k : ∀ tx : String, tx = (toString "Index " ++ toString i ++ toString " out of bounds for length " ++ toString n : String) → vx_Note p l e R s m args below meth c H locs cells slots Q (F0 m pc ls rest) "java/lang/ArrayIndexOutOfBoundsException" tx) : W p l e R s m args below meth c H locs cells slots Q (F0 m pc ls (.int i :: .ref a :: rest)) := by
  intro T hT X
  obtain ⟨t, st, q⟩ := k _ rfl T hT X
  refine ⟨t, ?_, q⟩
  have h1 := X.saloadOut hexec (by rw [hT]; exact hP q0 _ ha) ((hK.2 t0 _ ht).1 n (fun j => .int (f j))) (j := i) (by show (i < 0 ∨ (arrV _ _ _).slots.size ≤ _); rw [arrV_size]; exact Classical.byContradiction hout) (g := F0 m pc ls (.int i :: .ref a :: rest)) rfl (rest := rest) rfl (by rw [hb]; exact hdg) t
  simp only [arrV_size] at h1
  exact h1 st
theorem vx_sastZ {D : va_G} {cl : List vw_C} {ws : va_W} {tys : List (ClassId × FieldType)} {a : Nat} (hexec : p.tables.exec = Jvm.exec) (hb : c.code = cc) (hK : va_K D cl tys s) (hP : va_P D cl ws H) (q0 t0 : Nat) {cA : ClassId} {n : Nat} {f : Nat → Int32} (ha : ws[q0]? = some (a, .inl (cA, n, .inl f))) (ht : tys[t0]? = some (cA, .short)) {i : Int32} {x : Int32} (hout : ¬ vp_in i n) (hdg : decode cc pc = .ok (.sastore, 1))
    (k : ∀ tx : String, tx = (toString "Index " ++ toString i ++ toString " out of bounds for length " ++ toString n : String) → vx_Note p l e R s m args below meth c H locs cells slots Q (F0 m pc ls rest) "java/lang/ArrayIndexOutOfBoundsException" tx) : W p l e R s m args below meth c H locs cells slots Q (F0 m pc ls (.int x :: .int i :: .ref a :: rest)) := by
  intro T hT X
  obtain ⟨t, st, q⟩ := k _ rfl T hT X
  refine ⟨t, ?_, q⟩
  have h1 := X.sastoreOut hexec (by rw [hT]; exact hP q0 _ ha) ((hK.2 t0 _ ht).1 n (fun j => .int (f j))) (j := i) (by show (i < 0 ∨ (arrV _ _ _).slots.size ≤ _); rw [arrV_size]; exact Classical.byContradiction hout) (g := F0 m pc ls (.int x :: .int i :: .ref a :: rest)) rfl (rest := rest) rfl (by rw [hb]; exact hdg) t
  simp only [arrV_size] at h1
  exact h1 st
theorem vx_laldZ {D : va_G} {cl : List vw_C} {ws : va_W} {tys : List (ClassId × FieldType)} {a : Nat} (hexec : p.tables.exec = Jvm.exec) (hb : c.code = cc) (hK : va_K D cl tys s) (hP : va_P D cl ws H) (q0 t0 : Nat) {cA : ClassId} {n : Nat} {f : Nat → Int64} (ha : ws[q0]? = some (a, .inl (cA, n, .inr (.inl f)))) (ht : tys[t0]? = some (cA, .long)) {i : Int32} (hout : ¬ vp_in i n) (hdg : decode cc pc = .ok (.laload, 1))
    (k : ∀ tx : String, tx = (toString "Index " ++ toString i ++ toString " out of bounds for length " ++ toString n : String) → vx_Note p l e R s m args below meth c H locs cells slots Q (F0 m pc ls rest) "java/lang/ArrayIndexOutOfBoundsException" tx) : W p l e R s m args below meth c H locs cells slots Q (F0 m pc ls (.int i :: .ref a :: rest)) := by
  intro T hT X
  obtain ⟨t, st, q⟩ := k _ rfl T hT X
  refine ⟨t, ?_, q⟩
  have h1 := X.laloadOut hexec (by rw [hT]; exact hP q0 _ ha) ((hK.2 t0 _ ht).1 n (fun j => .long (f j))) (j := i) (by show (i < 0 ∨ (arrV _ _ _).slots.size ≤ _); rw [arrV_size]; exact Classical.byContradiction hout) (g := F0 m pc ls (.int i :: .ref a :: rest)) rfl (rest := rest) rfl (by rw [hb]; exact hdg) t
  simp only [arrV_size] at h1
  exact h1 st
theorem vx_lastZ {D : va_G} {cl : List vw_C} {ws : va_W} {tys : List (ClassId × FieldType)} {a : Nat} (hexec : p.tables.exec = Jvm.exec) (hb : c.code = cc) (hK : va_K D cl tys s) (hP : va_P D cl ws H) (q0 t0 : Nat) {cA : ClassId} {n : Nat} {f : Nat → Int64} (ha : ws[q0]? = some (a, .inl (cA, n, .inr (.inl f)))) (ht : tys[t0]? = some (cA, .long)) {i : Int32} {x : Int64} (hout : ¬ vp_in i n) (hdg : decode cc pc = .ok (.lastore, 1))
    (k : ∀ tx : String, tx = (toString "Index " ++ toString i ++ toString " out of bounds for length " ++ toString n : String) → vx_Note p l e R s m args below meth c H locs cells slots Q (F0 m pc ls rest) "java/lang/ArrayIndexOutOfBoundsException" tx) : W p l e R s m args below meth c H locs cells slots Q (F0 m pc ls (.long x :: .int i :: .ref a :: rest)) := by
  intro T hT X
  obtain ⟨t, st, q⟩ := k _ rfl T hT X
  refine ⟨t, ?_, q⟩
  have h1 := X.lastoreOut hexec (by rw [hT]; exact hP q0 _ ha) ((hK.2 t0 _ ht).1 n (fun j => .long (f j))) (j := i) (by show (i < 0 ∨ (arrV _ _ _).slots.size ≤ _); rw [arrV_size]; exact Classical.byContradiction hout) (g := F0 m pc ls (.long x :: .int i :: .ref a :: rest)) rfl (rest := rest) rfl (by rw [hb]; exact hdg) t
  simp only [arrV_size] at h1
  exact h1 st
theorem vx_faldZ {D : va_G} {cl : List vw_C} {ws : va_W} {tys : List (ClassId × FieldType)} {a : Nat} (hexec : p.tables.exec = Jvm.exec) (hb : c.code = cc) (hK : va_K D cl tys s) (hP : va_P D cl ws H) (q0 t0 : Nat) {cA : ClassId} {n : Nat} {f : Nat → UInt32} (ha : ws[q0]? = some (a, .inl (cA, n, .inr (.inr (.inl f))))) (ht : tys[t0]? = some (cA, .float)) {i : Int32} (hout : ¬ vp_in i n) (hdg : decode cc pc = .ok (.faload, 1))
    (k : ∀ tx : String, tx = (toString "Index " ++ toString i ++ toString " out of bounds for length " ++ toString n : String) → vx_Note p l e R s m args below meth c H locs cells slots Q (F0 m pc ls rest) "java/lang/ArrayIndexOutOfBoundsException" tx) : W p l e R s m args below meth c H locs cells slots Q (F0 m pc ls (.int i :: .ref a :: rest)) := by
  intro T hT X
  obtain ⟨t, st, q⟩ := k _ rfl T hT X
  refine ⟨t, ?_, q⟩
  have h1 := X.faloadOut hexec (by rw [hT]; exact hP q0 _ ha) ((hK.2 t0 _ ht).1 n (fun j => .float (f j))) (j := i) (by show (i < 0 ∨ (arrV _ _ _).slots.size ≤ _); rw [arrV_size]; exact Classical.byContradiction hout) (g := F0 m pc ls (.int i :: .ref a :: rest)) rfl (rest := rest) rfl (by rw [hb]; exact hdg) t
  simp only [arrV_size] at h1
  exact h1 st
theorem vx_fastZ {D : va_G} {cl : List vw_C} {ws : va_W} {tys : List (ClassId × FieldType)} {a : Nat} (hexec : p.tables.exec = Jvm.exec) (hb : c.code = cc) (hK : va_K D cl tys s) (hP : va_P D cl ws H) (q0 t0 : Nat) {cA : ClassId} {n : Nat} {f : Nat → UInt32} (ha : ws[q0]? = some (a, .inl (cA, n, .inr (.inr (.inl f))))) (ht : tys[t0]? = some (cA, .float)) {i : Int32} {x : UInt32} (hout : ¬ vp_in i n) (hdg : decode cc pc = .ok (.fastore, 1))
    (k : ∀ tx : String, tx = (toString "Index " ++ toString i ++ toString " out of bounds for length " ++ toString n : String) → vx_Note p l e R s m args below meth c H locs cells slots Q (F0 m pc ls rest) "java/lang/ArrayIndexOutOfBoundsException" tx) : W p l e R s m args below meth c H locs cells slots Q (F0 m pc ls (.float x :: .int i :: .ref a :: rest)) := by
  intro T hT X
  obtain ⟨t, st, q⟩ := k _ rfl T hT X
  refine ⟨t, ?_, q⟩
  have h1 := X.fastoreOut hexec (by rw [hT]; exact hP q0 _ ha) ((hK.2 t0 _ ht).1 n (fun j => .float (f j))) (j := i) (by show (i < 0 ∨ (arrV _ _ _).slots.size ≤ _); rw [arrV_size]; exact Classical.byContradiction hout) (g := F0 m pc ls (.float x :: .int i :: .ref a :: rest)) rfl (rest := rest) rfl (by rw [hb]; exact hdg) t
  simp only [arrV_size] at h1
  exact h1 st
theorem vx_daldZ {D : va_G} {cl : List vw_C} {ws : va_W} {tys : List (ClassId × FieldType)} {a : Nat} (hexec : p.tables.exec = Jvm.exec) (hb : c.code = cc) (hK : va_K D cl tys s) (hP : va_P D cl ws H) (q0 t0 : Nat) {cA : ClassId} {n : Nat} {f : Nat → UInt64} (ha : ws[q0]? = some (a, .inl (cA, n, .inr (.inr (.inr (.inl f)))))) (ht : tys[t0]? = some (cA, .double)) {i : Int32} (hout : ¬ vp_in i n) (hdg : decode cc pc = .ok (.daload, 1))
    (k : ∀ tx : String, tx = (toString "Index " ++ toString i ++ toString " out of bounds for length " ++ toString n : String) → vx_Note p l e R s m args below meth c H locs cells slots Q (F0 m pc ls rest) "java/lang/ArrayIndexOutOfBoundsException" tx) : W p l e R s m args below meth c H locs cells slots Q (F0 m pc ls (.int i :: .ref a :: rest)) := by
  intro T hT X
  obtain ⟨t, st, q⟩ := k _ rfl T hT X
  refine ⟨t, ?_, q⟩
  have h1 := X.daloadOut hexec (by rw [hT]; exact hP q0 _ ha) ((hK.2 t0 _ ht).1 n (fun j => .double (f j))) (j := i) (by show (i < 0 ∨ (arrV _ _ _).slots.size ≤ _); rw [arrV_size]; exact Classical.byContradiction hout) (g := F0 m pc ls (.int i :: .ref a :: rest)) rfl (rest := rest) rfl (by rw [hb]; exact hdg) t
  simp only [arrV_size] at h1
  exact h1 st
theorem vx_dastZ {D : va_G} {cl : List vw_C} {ws : va_W} {tys : List (ClassId × FieldType)} {a : Nat} (hexec : p.tables.exec = Jvm.exec) (hb : c.code = cc) (hK : va_K D cl tys s) (hP : va_P D cl ws H) (q0 t0 : Nat) {cA : ClassId} {n : Nat} {f : Nat → UInt64} (ha : ws[q0]? = some (a, .inl (cA, n, .inr (.inr (.inr (.inl f)))))) (ht : tys[t0]? = some (cA, .double)) {i : Int32} {x : UInt64} (hout : ¬ vp_in i n) (hdg : decode cc pc = .ok (.dastore, 1))
    (k : ∀ tx : String, tx = (toString "Index " ++ toString i ++ toString " out of bounds for length " ++ toString n : String) → vx_Note p l e R s m args below meth c H locs cells slots Q (F0 m pc ls rest) "java/lang/ArrayIndexOutOfBoundsException" tx) : W p l e R s m args below meth c H locs cells slots Q (F0 m pc ls (.double x :: .int i :: .ref a :: rest)) := by
  intro T hT X
  obtain ⟨t, st, q⟩ := k _ rfl T hT X
  refine ⟨t, ?_, q⟩
  have h1 := X.dastoreOut hexec (by rw [hT]; exact hP q0 _ ha) ((hK.2 t0 _ ht).1 n (fun j => .double (f j))) (j := i) (by show (i < 0 ∨ (arrV _ _ _).slots.size ≤ _); rw [arrV_size]; exact Classical.byContradiction hout) (g := F0 m pc ls (.double x :: .int i :: .ref a :: rest)) rfl (rest := rest) rfl (by rw [hb]; exact hdg) t
  simp only [arrV_size] at h1
  exact h1 st
theorem vx_arraylengthN (hexec : p.tables.exec = Jvm.exec) (hb : c.code = cc) (hdg : decode cc pc = .ok (.arraylength, 1)) (k : vx_NoteN p l e R s m args below meth c H locs cells slots Q (F0 m pc ls rest)) : W p l e R s m args below meth c H locs cells slots Q (F0 m pc ls (.null :: rest)) := by
  intro T hT X
  obtain ⟨t, st, q⟩ := k T hT X
  exact ⟨t, X.arraylengthNull hexec (g := F0 m pc ls (.null :: rest)) rfl (rest := rest) rfl (by rw [hb]; exact hdg) t st, q⟩
theorem vx_ialoadN (hexec : p.tables.exec = Jvm.exec) (hb : c.code = cc) {i : Int32} (hdg : decode cc pc = .ok (.iaload, 1)) (k : vx_NoteN p l e R s m args below meth c H locs cells slots Q (F0 m pc ls rest)) : W p l e R s m args below meth c H locs cells slots Q (F0 m pc ls (.int i :: .null :: rest)) := by
  intro T hT X
  obtain ⟨t, st, q⟩ := k T hT X
  exact ⟨t, X.ialoadNull hexec (g := F0 m pc ls (.int i :: .null :: rest)) rfl (rest := rest) rfl (by rw [hb]; exact hdg) t st, q⟩
theorem vx_laloadN (hexec : p.tables.exec = Jvm.exec) (hb : c.code = cc) {i : Int32} (hdg : decode cc pc = .ok (.laload, 1)) (k : vx_NoteN p l e R s m args below meth c H locs cells slots Q (F0 m pc ls rest)) : W p l e R s m args below meth c H locs cells slots Q (F0 m pc ls (.int i :: .null :: rest)) := by
  intro T hT X
  obtain ⟨t, st, q⟩ := k T hT X
  exact ⟨t, X.laloadNull hexec (g := F0 m pc ls (.int i :: .null :: rest)) rfl (rest := rest) rfl (by rw [hb]; exact hdg) t st, q⟩
theorem vx_faloadN (hexec : p.tables.exec = Jvm.exec) (hb : c.code = cc) {i : Int32} (hdg : decode cc pc = .ok (.faload, 1)) (k : vx_NoteN p l e R s m args below meth c H locs cells slots Q (F0 m pc ls rest)) : W p l e R s m args below meth c H locs cells slots Q (F0 m pc ls (.int i :: .null :: rest)) := by
  intro T hT X
  obtain ⟨t, st, q⟩ := k T hT X
  exact ⟨t, X.faloadNull hexec (g := F0 m pc ls (.int i :: .null :: rest)) rfl (rest := rest) rfl (by rw [hb]; exact hdg) t st, q⟩
theorem vx_daloadN (hexec : p.tables.exec = Jvm.exec) (hb : c.code = cc) {i : Int32} (hdg : decode cc pc = .ok (.daload, 1)) (k : vx_NoteN p l e R s m args below meth c H locs cells slots Q (F0 m pc ls rest)) : W p l e R s m args below meth c H locs cells slots Q (F0 m pc ls (.int i :: .null :: rest)) := by
  intro T hT X
  obtain ⟨t, st, q⟩ := k T hT X
  exact ⟨t, X.daloadNull hexec (g := F0 m pc ls (.int i :: .null :: rest)) rfl (rest := rest) rfl (by rw [hb]; exact hdg) t st, q⟩
theorem vx_aaloadN (hexec : p.tables.exec = Jvm.exec) (hb : c.code = cc) {i : Int32} (hdg : decode cc pc = .ok (.aaload, 1)) (k : vx_NoteN p l e R s m args below meth c H locs cells slots Q (F0 m pc ls rest)) : W p l e R s m args below meth c H locs cells slots Q (F0 m pc ls (.int i :: .null :: rest)) := by
  intro T hT X
  obtain ⟨t, st, q⟩ := k T hT X
  exact ⟨t, X.aaloadNull hexec (g := F0 m pc ls (.int i :: .null :: rest)) rfl (rest := rest) rfl (by rw [hb]; exact hdg) t st, q⟩
theorem vx_baloadN (hexec : p.tables.exec = Jvm.exec) (hb : c.code = cc) {i : Int32} (hdg : decode cc pc = .ok (.baload, 1)) (k : vx_NoteN p l e R s m args below meth c H locs cells slots Q (F0 m pc ls rest)) : W p l e R s m args below meth c H locs cells slots Q (F0 m pc ls (.int i :: .null :: rest)) := by
  intro T hT X
  obtain ⟨t, st, q⟩ := k T hT X
  exact ⟨t, X.baloadNull hexec (g := F0 m pc ls (.int i :: .null :: rest)) rfl (rest := rest) rfl (by rw [hb]; exact hdg) t st, q⟩
theorem vx_caloadN (hexec : p.tables.exec = Jvm.exec) (hb : c.code = cc) {i : Int32} (hdg : decode cc pc = .ok (.caload, 1)) (k : vx_NoteN p l e R s m args below meth c H locs cells slots Q (F0 m pc ls rest)) : W p l e R s m args below meth c H locs cells slots Q (F0 m pc ls (.int i :: .null :: rest)) := by
  intro T hT X
  obtain ⟨t, st, q⟩ := k T hT X
  exact ⟨t, X.caloadNull hexec (g := F0 m pc ls (.int i :: .null :: rest)) rfl (rest := rest) rfl (by rw [hb]; exact hdg) t st, q⟩
theorem vx_saloadN (hexec : p.tables.exec = Jvm.exec) (hb : c.code = cc) {i : Int32} (hdg : decode cc pc = .ok (.saload, 1)) (k : vx_NoteN p l e R s m args below meth c H locs cells slots Q (F0 m pc ls rest)) : W p l e R s m args below meth c H locs cells slots Q (F0 m pc ls (.int i :: .null :: rest)) := by
  intro T hT X
  obtain ⟨t, st, q⟩ := k T hT X
  exact ⟨t, X.saloadNull hexec (g := F0 m pc ls (.int i :: .null :: rest)) rfl (rest := rest) rfl (by rw [hb]; exact hdg) t st, q⟩
theorem vx_iastoreN (hexec : p.tables.exec = Jvm.exec) (hb : c.code = cc) {x : Int32} {i : Int32} (hdg : decode cc pc = .ok (.iastore, 1)) (k : vx_NoteN p l e R s m args below meth c H locs cells slots Q (F0 m pc ls rest)) : W p l e R s m args below meth c H locs cells slots Q (F0 m pc ls (.int x :: .int i :: .null :: rest)) := by
  intro T hT X
  obtain ⟨t, st, q⟩ := k T hT X
  exact ⟨t, X.iastoreNull hexec (g := F0 m pc ls (.int x :: .int i :: .null :: rest)) rfl (rest := rest) rfl (by rw [hb]; exact hdg) t st, q⟩
theorem vx_lastoreN (hexec : p.tables.exec = Jvm.exec) (hb : c.code = cc) {x : Int64} {i : Int32} (hdg : decode cc pc = .ok (.lastore, 1)) (k : vx_NoteN p l e R s m args below meth c H locs cells slots Q (F0 m pc ls rest)) : W p l e R s m args below meth c H locs cells slots Q (F0 m pc ls (.long x :: .int i :: .null :: rest)) := by
  intro T hT X
  obtain ⟨t, st, q⟩ := k T hT X
  exact ⟨t, X.lastoreNull hexec (g := F0 m pc ls (.long x :: .int i :: .null :: rest)) rfl (rest := rest) rfl (by rw [hb]; exact hdg) t st, q⟩
theorem vx_fastoreN (hexec : p.tables.exec = Jvm.exec) (hb : c.code = cc) {x : UInt32} {i : Int32} (hdg : decode cc pc = .ok (.fastore, 1)) (k : vx_NoteN p l e R s m args below meth c H locs cells slots Q (F0 m pc ls rest)) : W p l e R s m args below meth c H locs cells slots Q (F0 m pc ls (.float x :: .int i :: .null :: rest)) := by
  intro T hT X
  obtain ⟨t, st, q⟩ := k T hT X
  exact ⟨t, X.fastoreNull hexec (g := F0 m pc ls (.float x :: .int i :: .null :: rest)) rfl (rest := rest) rfl (by rw [hb]; exact hdg) t st, q⟩
theorem vx_dastoreN (hexec : p.tables.exec = Jvm.exec) (hb : c.code = cc) {x : UInt64} {i : Int32} (hdg : decode cc pc = .ok (.dastore, 1)) (k : vx_NoteN p l e R s m args below meth c H locs cells slots Q (F0 m pc ls rest)) : W p l e R s m args below meth c H locs cells slots Q (F0 m pc ls (.double x :: .int i :: .null :: rest)) := by
  intro T hT X
  obtain ⟨t, st, q⟩ := k T hT X
  exact ⟨t, X.dastoreNull hexec (g := F0 m pc ls (.double x :: .int i :: .null :: rest)) rfl (rest := rest) rfl (by rw [hb]; exact hdg) t st, q⟩
theorem vx_bastoreN (hexec : p.tables.exec = Jvm.exec) (hb : c.code = cc) {x : Int32} {i : Int32} (hdg : decode cc pc = .ok (.bastore, 1)) (k : vx_NoteN p l e R s m args below meth c H locs cells slots Q (F0 m pc ls rest)) : W p l e R s m args below meth c H locs cells slots Q (F0 m pc ls (.int x :: .int i :: .null :: rest)) := by
  intro T hT X
  obtain ⟨t, st, q⟩ := k T hT X
  exact ⟨t, X.bastoreNull hexec (g := F0 m pc ls (.int x :: .int i :: .null :: rest)) rfl (rest := rest) rfl (by rw [hb]; exact hdg) t st, q⟩
theorem vx_castoreN (hexec : p.tables.exec = Jvm.exec) (hb : c.code = cc) {x : Int32} {i : Int32} (hdg : decode cc pc = .ok (.castore, 1)) (k : vx_NoteN p l e R s m args below meth c H locs cells slots Q (F0 m pc ls rest)) : W p l e R s m args below meth c H locs cells slots Q (F0 m pc ls (.int x :: .int i :: .null :: rest)) := by
  intro T hT X
  obtain ⟨t, st, q⟩ := k T hT X
  exact ⟨t, X.castoreNull hexec (g := F0 m pc ls (.int x :: .int i :: .null :: rest)) rfl (rest := rest) rfl (by rw [hb]; exact hdg) t st, q⟩
theorem vx_sastoreN (hexec : p.tables.exec = Jvm.exec) (hb : c.code = cc) {x : Int32} {i : Int32} (hdg : decode cc pc = .ok (.sastore, 1)) (k : vx_NoteN p l e R s m args below meth c H locs cells slots Q (F0 m pc ls rest)) : W p l e R s m args below meth c H locs cells slots Q (F0 m pc ls (.int x :: .int i :: .null :: rest)) := by
  intro T hT X
  obtain ⟨t, st, q⟩ := k T hT X
  exact ⟨t, X.sastoreNull hexec (g := F0 m pc ls (.int x :: .int i :: .null :: rest)) rfl (rest := rest) rfl (by rw [hb]; exact hdg) t st, q⟩
theorem vx_invokeN {own C : String} {index maxL : Nat} {y : MethodName} {bytes : ByteArray} {ret : Option FieldType} (hexec : p.tables.exec = Jvm.exec) (hb : c.code = cc) (hown : s.vm.findClass own = some m.cls) (hlink : (Cond.methodLink own index y).before args s = true) (hinst : (Cond.instanceMethod y).before args s = true) (hcode : (Cond.code y bytes maxL ret).before args s = true) (hsel : (Cond.selects C y y).before args s = true)
    (hx : y.cls ≠ "java/lang/invoke/MethodHandle" ∧ y.cls ≠ "java/lang/invoke/VarHandle") {As : List Value} (hlen : (parseMethodDescriptor y.desc).map (fun d => d.parameters.length) = some As.length) (hdg : decode cc pc = .ok (.invokevirtual index, 3))
    (k : vx_NoteN p l e R s m args below meth c H locs cells slots Q (F0 m pc ls rest)) {st0 : List Value} (hst : st0 = As.reverse ++ .null :: rest) : W p l e R s m args below meth c H locs cells slots Q (F0 m pc ls st0) := by
  intro T hT X
  obtain ⟨r0, r, hn, hrm, hstR, hsigR⟩ := va_Decl.of hinst hcode
  obtain ⟨c2, r2, m2, q1, q2, q3, q4, kP, hkP, hkPi⟩ := Cond.selects_spec hsel
  cases hn.symm.trans q3
  have hl9 : As.length = r.sig.parameters.length := by
    rw [hsigR] at hlen
    exact (Option.some.inj hlen).symm
  obtain ⟨vm', X1, st1⟩ := X.invokevirtualNull hexec hown hlink hn hrm hstR hkP hkPi hx (g := F0 m pc ls st0) rfl (argsL := As) (rest := rest) hl9 hst (by rw [hb]; exact hdg)
  obtain ⟨t, st, q⟩ := k (T.setVm vm') hT X1
  exact ⟨t, st1 t st, q⟩
theorem vx_newarrayZ {atype : ArrayType} (hexec : p.tables.exec = Jvm.exec) (hb : c.code = cc) {n : Int32} (h0 : n < 0) (hdg : decode cc pc = .ok (.newarray atype, 2)) (k : ∀ tx : String, tx = toString n → vx_Note p l e R s m args below meth c H locs cells slots Q (F0 m pc ls rest) "java/lang/NegativeArraySizeException" tx) : W p l e R s m args below meth c H locs cells slots Q (F0 m pc ls (.int n :: rest)) := by
  intro T hT X
  obtain ⟨t, st, q⟩ := k _ rfl T hT X
  exact ⟨t, X.newarrayNegative hexec (g := F0 m pc ls (.int n :: rest)) rfl h0 (rest := rest) rfl (by rw [hb]; exact hdg) t st, q⟩
end
end VXM
/-! ===== END ===== -/
/-! ===== BEGIN an exception as an object: made, kept, thrown later (no traces kept) ===== -/
section VXK
variable {p : Program} {l : Launch} {e : Env} {R : Room} {s : State} {m₀ : MethodId} {args : Array Value} {below : List Frame} {meth : Method} {c : Code} {W : State} {locs : List Loc} {cells slots : Nat}
set_option maxHeartbeats 1000000 in
theorem vx_ctorMadeS (X : Stand p l e R s m₀ args below meth c W locs cells slots) (hexec : p.tables.exec = Jvm.exec) (htr : e.platform.stackTraces = false) {own cls : String} {names : List String} {ic : Nat}
    (hown : s.vm.findClass own = some m₀.cls) (hcls : Bundle.fit cls = true) (hnames : ∀ n ∈ names, Bundle.fit n = true)
    (h : ∀ a ∈ Bundle.ownAtoms own ic cls names, a.before args s = true)
    (hlocs : ∀ x ∈ locs, ∀ cell, s.heap[x.base]? = some cell → cell.vm.isStatics = false)
    {a : Addr} {cX : ClassId} {kX : Class} (hfoundX : s.vm.findClass cls = some cX) (hkX : s.vm.classes[cX]? = some kX) (hcell : W.heap[a]? = some (freshCell cX kX)) (hnew : s.heap.size ≤ a)
    {msg : Value} (hmsg : msg.isRef = true)
    {g : JFrame} (hg : g.method = m₀) (hsize : g.locals.size = c.maxLocals) {rest : List Value} (hstack : g.stack = msg :: .ref a :: .ref a :: rest)
    (hd6 : decode c.code g.pc = .ok (.invokespecial ic, 3))
    (hRframes : names.length + 3 < R.frames) (hRlocals : 2 * g.monitorRoom + ((Value.ref a :: rest).map fun v => v.category).sum + (13 * (names.length + 1) + 42) ≤ R.locals) :
    ∃ (V : State) (ce : Cell) (L : List Loc), Stand p l e R s m₀ args below meth c (V.setCell a ce) (locs ++ L) cells slots ∧ (∀ y ∈ L, y.base = a) ∧ a < V.heap.size ∧ ce.cls = cX ∧ ce.vm = .none ∧
      ∀ target, Steps p.tables e below ((V.setCell a ce).setTop { g with stack := .ref a :: rest, pc := g.pc + 3 }) target → Steps p.tables e below (W.setTop g) target := by
  have howns : e.platform.frameOwnsMonitors = true := by rw [X.admits.platform]
  have hfin : e.platform.finalization = false := by rw [X.admits.platform]
  have hpl : e.platform.magicAccessors = ({} : Platform).magicAccessors := by rw [X.admits.platform]
  have a' : ∀ x, x ∈ Bundle.ownAtoms own ic cls names → x.holds args s none s [] = true := fun x hx => h x hx
  obtain ⟨T, Z0, L, -, Y⟩ := ThrowableC.of_atoms (args := args) howns hfin hpl (fun x hx => h x (by simp [Bundle.ownAtoms, hx]))
  obtain ⟨Z, M, LZ, LM, hnZ⟩ := Init0T.ofS_atoms (args := args) hpl L Y (fun x hx => h x (by simp [Bundle.ownAtoms, hx]))
  obtain ⟨P1, Ps, hlen, L1, hL, hP1m, hlink1, hlink⟩ := Bundle.chainS (args := args) hpl hnZ names cls hcls hnames (fun x hx => h x (by simp [Bundle.ownAtoms, hx]))
  have hfound : s.vm.findClass cls = some P1.m.cls := findClass_of_methodNamed hP1m
  cases Option.some.inj (hfoundX.symm.trans hfound)
  obtain ⟨c1, kX', hc1, hk, hord, -, -, hn6⟩ := Cond.instantiable_spec (a' (.instantiable cls 6) (by simp [Bundle.ownAtoms]))
  cases Option.some.inj (hc1.symm.trans hfound)
  cases Option.some.inj (hkX.symm.trans hk)
  have hsel0 : selectMethod e.platform s.vm P1.m.cls T.fill0 = .method T.fill0 := by
    obtain ⟨c2, r2, m2, q1, q2, q3, q4, -⟩ := Cond.selects_spec (a' (.selects cls Bundle.tFill0 Bundle.tFill0) (by simp [Bundle.ownAtoms]))
    cases Option.some.inj (q1.symm.trans hfound)
    cases Option.some.inj (q2.symm.trans (State.methodFound?_of_named Y.fill0 (by decide)))
    cases Option.some.inj (q3.symm.trans Y.fill0)
    rw [Launch.admits_selectMethod X.admits]; exact q4
  have hselF : selectMethod e.platform s.vm P1.m.cls T.fill = .method T.fill := by
    obtain ⟨c2, r2, m2, q1, q2, q3, q4, -⟩ := Cond.selects_spec (a' (.selects cls Bundle.tFill Bundle.tFill) (by simp [Bundle.ownAtoms]))
    cases Option.some.inj (q1.symm.trans hfound)
    cases Option.some.inj (q2.symm.trans (State.methodFound?_of_named Y.fill (by decide)))
    cases Option.some.inj (q3.symm.trans Y.fill)
    rw [Launch.admits_selectMethod X.admits]; exact q4
  obtain ⟨cellS0, hcS0, hiss⟩ := Y.statics
  obtain ⟨u0, hu0⟩ := Cond.staticRefV Y.unassigned L.unassignedStatic L.statics hcS0 hiss (a' (.isRef (.static Bundle.tN "UNASSIGNED_STACK" Bundle.steD)) (by simp [Bundle.ownAtoms]))
  obtain ⟨sen, hsen⟩ := Cond.staticRefV Y.sentinel L.sentinelStatic L.statics hcS0 hiss (a' (.isRef (.static Bundle.tN "SUPPRESSED_SENTINEL" Bundle.listD)) (by simp [Bundle.ownAtoms]))
  obtain ⟨ci198, i198, fB, hk198, hg198, ha198, hsB, -, hnB, htB, hffB⟩ := Cond.ownField (t := .object "java/lang/Object") Y.found L.cls (by decide +kernel) (a' (.fieldLink Bundle.tN 198 Bundle.tN "backtrace" "Ljava/lang/Object;") (by simp [Bundle.ownAtoms])) (a' (.lays Bundle.tN Bundle.tN "backtrace" "Ljava/lang/Object;") (by simp [Bundle.ownAtoms])) e.platform hpl
  obtain ⟨cellS, hcS', heS, -, hkeep⟩ := X.same.2.2.2.2.2 T.aS cellS0 hcS0
  have hcellS : W.heap[T.aS]? = some cellS := hcS'
  have hout' : ∀ i, (⟨T.aS, i⟩ : Loc) ∉ locs := fun i hmem => by
    have := hlocs _ hmem cellS0 hcS0
    rw [hiss] at this; cases this
  have hknownS : cellS.vm ≠ .unknown := by
    rw [heS]; intro hu
    rw [show cellS0.vm = .unknown from hu] at hiss
    cases hiss
  have hneS : T.aS ≠ a := Nat.ne_of_lt (Nat.lt_of_lt_of_le (Array.getElem?_eq_some_iff.mp hcS0).1 hnew)
  obtain ⟨iM, hffM⟩ := Y.msg
  obtain ⟨tyC, dC, hdC, hdnC⟩ := Cond.laysAt hfound hk Y.cause (a' (.lays cls Bundle.tN "cause" "Ljava/lang/Throwable;") (by simp [Bundle.ownAtoms]))
  obtain ⟨tyS, dS, hdS, hdnS⟩ := Cond.laysAt hfound hk Y.stack (a' (.lays cls Bundle.tN "stackTrace" Bundle.steD) (by simp [Bundle.ownAtoms]))
  obtain ⟨tyP, dP, hdP, hdnP⟩ := Cond.laysAt hfound hk Y.supp (a' (.lays cls Bundle.tN "suppressedExceptions" Bundle.listD) (by simp [Bundle.ownAtoms]))
  obtain ⟨tyM, dM, hdM, hdnM⟩ := Cond.laysAt hfound hk hffM (a' (.lays cls Bundle.tN "detailMessage" "Ljava/lang/String;") (by simp [Bundle.ownAtoms]))
  obtain ⟨tyB, dB, hdB, hdnB⟩ := Cond.laysAt hfound hk hffB (a' (.lays cls Bundle.tN "backtrace" "Ljava/lang/Object;") (by simp [Bundle.ownAtoms]))
  have bC := Cond.laysApart hdB hdC hdnB hdnC (by rw [hnB, Y.causeName]; decide)
  have bS := Cond.laysApart hdB hdS hdnB hdnS (by rw [hnB, Y.stackName]; decide)
  have bP := Cond.laysApart hdB hdP hdnB hdnP (by rw [hnB, Y.suppName]; decide)
  have hskip : SkipFacts T e.platform s (fun u => u) u0 ((preparedCellV T.toThrowableT (freshCell P1.m.cls kX) a u0 sen).withEntry W.cur) :=
    ⟨{ ci198 := ci198, i198 := i198, fBack := fB }, ⟨hk198, hg198, ha198, hsB⟩, by
      have := fresh_default (c := P1.m.cls) tyB
      rw [htB] at this
      simpa [preparedCellV, Cell.setSlot, Cell.withEntry, Array.getElem?_setIfInBounds, bC, bS, bP, bC.symm, bS.symm, bP.symm, defaultValue] using this, fun _ _ => rfl⟩
  obtain ⟨tm, methC, cdC, kC, vm₁, hnC, -, -, -, -, -, -, -, hW₁, st1⟩ := Steps.initColdS (tb := p.tables) (e := e) (below := below) (s := s) (U := W) X.here hexec X.warmed hpl hown (t := Bundle.initS cls) rfl rfl (Bundle.fit_spec hcls).2
    (a' (.methodLink own ic (Bundle.initS cls)) (by simp [Bundle.ownAtoms])) (h (.instanceMethod (Bundle.initS cls)) (by cases names <;> simp [Bundle.ownAtoms, Bundle.chainSAtoms, Bundle.passSAtoms])) (bytes := Bundle.six) (maxL := 2) (h (.code (Bundle.initS cls) Bundle.six 2 none) (by cases names <;> simp [Bundle.ownAtoms, Bundle.chainSAtoms, Bundle.passSAtoms]))
    (f := g) hg (a := a) (msg := msg) (rest := .ref a :: rest) hstack hd6
  cases Option.some.inj (hnC.symm.trans hP1m)
  have X₁ := X.noted hW₁
  obtain ⟨vm₂, X₂, st2⟩ := X₁.ctorMessageOffV hexec (g := { g with stack := .ref a :: rest }) hg hsize T L Z LZ M LM (P1 :: Ps)
    (fun P hP => by rcases List.mem_cons.mp hP with rfl | hP; exact L1; exact hL P hP) ⟨hlink1, hlink⟩ (u0 := u0) (sen := sen) (self := a) hmsg (cell := freshCell P1.m.cls kX) (cellS := cellS)
    hcell (fun _ => by simp) (by simp) rfl rfl hsel0 hselF hcellS hneS hknownS (by rw [hkeep _ (hout' _)]; exact hu0) (by rw [hkeep _ (hout' _)]; exact hsen)
    (Takes.of_laid hk hord tyC (by rw [Y.causeType]; rfl)) (Takes.of_laid hk hord tyS (by rw [Y.stackType]; exact fits_refV_array _ u0)) (Takes.of_laid hk hord tyP (by rw [Y.suppType]; exact fits_refV_object _ sen))
    (Takes.of_laid hk hord tyM (by rw [Y.msgType]; exact fits_refV_object _ ⟨msg, hmsg⟩)) Y.objLocals hskip htr [] hd6
    (by simp only [List.length_cons, hlen]; omega) (by simp only [List.length_cons, hlen]; exact hRlocals)
  have hlt : a < ((W.setVm vm₁).setVm vm₂).heap.size := (Array.getElem?_eq_some_iff.mp hcell).1
  refine ⟨(W.setVm vm₁).setVm vm₂, _, _, X₂, fun y hy => ?_, hlt, rfl, rfl, fun target hwalk => st1 _ (fun acts => ?_)⟩
  · simp only [List.mem_cons, List.not_mem_nil, or_false] at hy
    rcases hy with rfl | rfl | rfl | rfl | rfl <;> rfl
  · rw [doInvoke_state]
    exact st2 _ hwalk
set_option maxHeartbeats 1000000 in
theorem vx_ctorMade0 (X : Stand p l e R s m₀ args below meth c W locs cells slots) (hexec : p.tables.exec = Jvm.exec) (htr : e.platform.stackTraces = false) {own cls : String} {names : List String} {ic : Nat}
    (hown : s.vm.findClass own = some m₀.cls) (hcls : Bundle.fit cls = true) (hnames : ∀ n ∈ names, Bundle.fit n = true)
    (h : ∀ a ∈ Bundle.ownAtoms0 own ic cls names, a.before args s = true)
    (hlocs : ∀ x ∈ locs, ∀ cell, s.heap[x.base]? = some cell → cell.vm.isStatics = false)
    {a : Addr} {cX : ClassId} {kX : Class} (hfoundX : s.vm.findClass cls = some cX) (hkX : s.vm.classes[cX]? = some kX) (hcell : W.heap[a]? = some (freshCell cX kX)) (hnew : s.heap.size ≤ a)
    {g : JFrame} (hg : g.method = m₀) (hsize : g.locals.size = c.maxLocals) {rest : List Value} (hstack : g.stack = .ref a :: .ref a :: rest)
    (hd6 : decode c.code g.pc = .ok (.invokespecial ic, 3))
    (hRframes : names.length + 3 < R.frames) (hRlocals : 2 * g.monitorRoom + ((Value.ref a :: rest).map fun v => v.category).sum + (13 * (names.length + 1) + 41) ≤ R.locals) :
    ∃ (V : State) (ce : Cell) (L : List Loc), Stand p l e R s m₀ args below meth c (V.setCell a ce) (locs ++ L) cells slots ∧ (∀ y ∈ L, y.base = a) ∧ a < V.heap.size ∧ ce.cls = cX ∧ ce.vm = .none ∧
      ∀ target, Steps p.tables e below ((V.setCell a ce).setTop { g with stack := .ref a :: rest, pc := g.pc + 3 }) target → Steps p.tables e below (W.setTop g) target := by
  have howns : e.platform.frameOwnsMonitors = true := by rw [X.admits.platform]
  have hfin : e.platform.finalization = false := by rw [X.admits.platform]
  have hpl : e.platform.magicAccessors = ({} : Platform).magicAccessors := by rw [X.admits.platform]
  have a' : ∀ x, x ∈ Bundle.ownAtoms0 own ic cls names → x.holds args s none s [] = true := fun x hx => h x hx
  obtain ⟨T, Z, L, LZ, Y⟩ := ThrowableC.of_atoms (args := args) howns hfin hpl (fun x hx => h x (by simp [Bundle.ownAtoms0, hx]))
  obtain ⟨P1, Ps, hlen, L1, hL, hP1m, hlink1, hlink⟩ := Bundle.chain0 (args := args) hpl Y.init0 names cls hcls hnames (fun x hx => h x (by simp [Bundle.ownAtoms0, hx]))
  have hfound : s.vm.findClass cls = some P1.m.cls := findClass_of_methodNamed hP1m
  cases Option.some.inj (hfoundX.symm.trans hfound)
  obtain ⟨c1, kX', hc1, hk, hord, -, -, hn6⟩ := Cond.instantiable_spec (a' (.instantiable cls 6) (by simp [Bundle.ownAtoms0]))
  cases Option.some.inj (hc1.symm.trans hfound)
  cases Option.some.inj (hkX.symm.trans hk)
  have hsel0 : selectMethod e.platform s.vm P1.m.cls T.fill0 = .method T.fill0 := by
    obtain ⟨c2, r2, m2, q1, q2, q3, q4, -⟩ := Cond.selects_spec (a' (.selects cls Bundle.tFill0 Bundle.tFill0) (by simp [Bundle.ownAtoms0]))
    cases Option.some.inj (q1.symm.trans hfound)
    cases Option.some.inj (q2.symm.trans (State.methodFound?_of_named Y.fill0 (by decide)))
    cases Option.some.inj (q3.symm.trans Y.fill0)
    rw [Launch.admits_selectMethod X.admits]; exact q4
  have hselF : selectMethod e.platform s.vm P1.m.cls T.fill = .method T.fill := by
    obtain ⟨c2, r2, m2, q1, q2, q3, q4, -⟩ := Cond.selects_spec (a' (.selects cls Bundle.tFill Bundle.tFill) (by simp [Bundle.ownAtoms0]))
    cases Option.some.inj (q1.symm.trans hfound)
    cases Option.some.inj (q2.symm.trans (State.methodFound?_of_named Y.fill (by decide)))
    cases Option.some.inj (q3.symm.trans Y.fill)
    rw [Launch.admits_selectMethod X.admits]; exact q4
  obtain ⟨cellS0, hcS0, hiss⟩ := Y.statics
  obtain ⟨u0, hu0⟩ := Cond.staticRefV Y.unassigned L.unassignedStatic L.statics hcS0 hiss (a' (.isRef (.static Bundle.tN "UNASSIGNED_STACK" Bundle.steD)) (by simp [Bundle.ownAtoms0]))
  obtain ⟨sen, hsen⟩ := Cond.staticRefV Y.sentinel L.sentinelStatic L.statics hcS0 hiss (a' (.isRef (.static Bundle.tN "SUPPRESSED_SENTINEL" Bundle.listD)) (by simp [Bundle.ownAtoms0]))
  obtain ⟨ci198, i198, fB, hk198, hg198, ha198, hsB, -, hnB, htB, hffB⟩ := Cond.ownField (t := .object "java/lang/Object") Y.found L.cls (by decide +kernel) (a' (.fieldLink Bundle.tN 198 Bundle.tN "backtrace" "Ljava/lang/Object;") (by simp [Bundle.ownAtoms0])) (a' (.lays Bundle.tN Bundle.tN "backtrace" "Ljava/lang/Object;") (by simp [Bundle.ownAtoms0])) e.platform hpl
  obtain ⟨cellS, hcS', heS, -, hkeep⟩ := X.same.2.2.2.2.2 T.aS cellS0 hcS0
  have hcellS : W.heap[T.aS]? = some cellS := hcS'
  have hout' : ∀ i, (⟨T.aS, i⟩ : Loc) ∉ locs := fun i hmem => by
    have := hlocs _ hmem cellS0 hcS0
    rw [hiss] at this; cases this
  have hknownS : cellS.vm ≠ .unknown := by
    rw [heS]; intro hu
    rw [show cellS0.vm = .unknown from hu] at hiss
    cases hiss
  have hneS : T.aS ≠ a := Nat.ne_of_lt (Nat.lt_of_lt_of_le (Array.getElem?_eq_some_iff.mp hcS0).1 hnew)
  obtain ⟨iM, hffM⟩ := Y.msg
  obtain ⟨tyC, dC, hdC, hdnC⟩ := Cond.laysAt hfound hk Y.cause (a' (.lays cls Bundle.tN "cause" "Ljava/lang/Throwable;") (by simp [Bundle.ownAtoms0]))
  obtain ⟨tyS, dS, hdS, hdnS⟩ := Cond.laysAt hfound hk Y.stack (a' (.lays cls Bundle.tN "stackTrace" Bundle.steD) (by simp [Bundle.ownAtoms0]))
  obtain ⟨tyP, dP, hdP, hdnP⟩ := Cond.laysAt hfound hk Y.supp (a' (.lays cls Bundle.tN "suppressedExceptions" Bundle.listD) (by simp [Bundle.ownAtoms0]))
  obtain ⟨tyM, dM, hdM, hdnM⟩ := Cond.laysAt hfound hk hffM (a' (.lays cls Bundle.tN "detailMessage" "Ljava/lang/String;") (by simp [Bundle.ownAtoms0]))
  obtain ⟨tyB, dB, hdB, hdnB⟩ := Cond.laysAt hfound hk hffB (a' (.lays cls Bundle.tN "backtrace" "Ljava/lang/Object;") (by simp [Bundle.ownAtoms0]))
  have bC := Cond.laysApart hdB hdC hdnB hdnC (by rw [hnB, Y.causeName]; decide)
  have bS := Cond.laysApart hdB hdS hdnB hdnS (by rw [hnB, Y.stackName]; decide)
  have bP := Cond.laysApart hdB hdP hdnB hdnP (by rw [hnB, Y.suppName]; decide)
  have hskip : SkipFacts T e.platform s (fun u => u) u0 ((preparedCellV T.toThrowableT (freshCell P1.m.cls kX) a u0 sen).withEntry W.cur) :=
    ⟨{ ci198 := ci198, i198 := i198, fBack := fB }, ⟨hk198, hg198, ha198, hsB⟩, by
      have := fresh_default (c := P1.m.cls) tyB
      rw [htB] at this
      simpa [preparedCellV, Cell.setSlot, Cell.withEntry, Array.getElem?_setIfInBounds, bC, bS, bP, bC.symm, bS.symm, bP.symm, defaultValue] using this, fun _ _ => rfl⟩
  obtain ⟨tm, methC, cdC, kC, vm₁, hnC, -, -, -, -, -, -, -, hW₁, st1⟩ := Steps.initCold (tb := p.tables) (e := e) (below := below) (s := s) (U := W) X.here hexec X.warmed hpl hown (t := Bundle.init0 cls) rfl rfl (Bundle.fit_spec hcls).2
    (a' (.methodLink own ic (Bundle.init0 cls)) (by simp [Bundle.ownAtoms0])) (h (.instanceMethod (Bundle.init0 cls)) (by cases names <;> simp [Bundle.ownAtoms0, Bundle.chain0Atoms, Bundle.passAtoms])) (bytes := Bundle.five) (maxL := 1) (h (.code (Bundle.init0 cls) Bundle.five 1 none) (by cases names <;> simp [Bundle.ownAtoms0, Bundle.chain0Atoms, Bundle.passAtoms]))
    (f := g) hg (a := a) (rest := .ref a :: rest) hstack hd6
  cases Option.some.inj (hnC.symm.trans hP1m)
  have X₁ := X.noted hW₁
  obtain ⟨vm₂, X₂, st2⟩ := X₁.ctorPlainOffV hexec (g := { g with stack := .ref a :: rest }) hg hsize T L Z LZ (P1 :: Ps)
    (fun P hP => by rcases List.mem_cons.mp hP with rfl | hP; exact L1; exact hL P hP) ⟨hlink1, hlink⟩ (u0 := u0) (sen := sen) (self := a) (cell := freshCell P1.m.cls kX) (cellS := cellS)
    hcell (fun _ => by simp) (by simp) rfl rfl hsel0 hselF hcellS hneS hknownS (by rw [hkeep _ (hout' _)]; exact hu0) (by rw [hkeep _ (hout' _)]; exact hsen)
    (Takes.of_laid hk hord tyC (by rw [Y.causeType]; rfl)) (Takes.of_laid hk hord tyS (by rw [Y.stackType]; exact fits_refV_array _ u0)) (Takes.of_laid hk hord tyP (by rw [Y.suppType]; exact fits_refV_object _ sen)) Y.objLocals hskip htr [] hd6
    (by simp only [List.length_cons, hlen]; omega) (by simp only [List.length_cons, hlen]; exact hRlocals)
  have hlt : a < ((W.setVm vm₁).setVm vm₂).heap.size := (Array.getElem?_eq_some_iff.mp hcell).1
  refine ⟨(W.setVm vm₁).setVm vm₂, _, _, X₂, fun y hy => ?_, hlt, rfl, rfl, fun target hwalk => st1 _ (fun acts => ?_)⟩
  · simp only [List.mem_cons, List.not_mem_nil, or_false] at hy
    rcases hy with rfl | rfl | rfl | rfl <;> rfl
  · rw [doInvoke_state]
    exact st2 _ hwalk
end VXK
section VXK2
variable {p : Program} {l : Launch} {e : Env} {R : Room} {s : State} {m : MethodId} {args : Array Value} {below : List Frame} {meth : Method} {c : Code} {H : Heap} {locs : List Loc} {cells slots : Nat} {Q : State → Prop}
variable {ls : Array Slot} {rest : List Value} {D : va_G} {cl : List vw_C} {tys : List (ClassId × FieldType)} {ws : va_W}
/-- 'new E("text")' that isn't thrown at once: the object goes on the stack -/
theorem vx_makeS {cc : ByteArray} {pc : Nat} (hexec : p.tables.exec = Jvm.exec) (hb : c.code = cc) (hl : l.stackTraces = false) {own cls text : String} {names : List String} {ik is ic sa ci : Nat} {A : Nat → Prop} {T0 : u_T}
    (hown : s.vm.findClass own = some m.cls) (hcls : Bundle.fit cls = true) (hnames : ∀ n ∈ names, Bundle.fit n = true)
    (hk : (Cond.classLink own ik cls).before args s = true) (hini : (Cond.initialized cls).before args s = true) (hstr : vk_R own is text sa s) (hat : ∀ w ∈ vx_atS own ic cls names, w.before args s = true)
    (hgood : ∀ w ∈ Cond.classLink own ik cls :: Cond.initialized cls :: vx_atS own ic cls names, vx_ot w = true)
    (hU : vx_Zq Bundle.tN "UNASSIGNED_STACK" Bundle.steD A s s.heap) (hN : vx_Zq Bundle.tN "SUPPRESSED_SENTINEL" Bundle.listD A s s.heap) (hS : va_S A s.heap H locs) (hsize : ls.size = c.maxLocals)
    (d0 : decode cc pc = .ok (.new ik, 3)) (d3 : decode cc (pc + 3) = .ok (.dup, 1)) (d4 : decode cc (pc + 4) = .ok (.ldc is, 2)) (d6 : decode cc (pc + 6) = .ok (.invokespecial ic, 3))
    (hK : va_K D cl tys s) (hP : va_P D cl ws H) (hD : va_D A ws) (hA : ∀ q, s.heap.size ≤ q → A q) (hc : cl[ci]? = some (cls, T0, 0))
    (hRframes : names.length + 3 < R.frames) (hRlocals : (rest.map fun v => v.category).sum + (13 * (names.length + 1) + 43) ≤ R.locals) (hRcells : cells + 1 ≤ R.cells) (hRslots : slots + 6 ≤ R.slots)
    (kk : ∀ (q : Nat) (H1 : Heap), va_P D cl (ws ++ [(q, .inr (ci, []))]) H1 → va_D A (ws ++ [(q, .inr (ci, []))]) → va_S A s.heap H1 locs → W p l e R s m args below meth c H1 locs (cells + 1) (slots + 6) Q (F0 m (pc + 9) ls (.ref q :: rest))) :
    W p l e R s m args below meth c H locs cells slots Q (F0 m pc ls rest) := by
  intro T hT X
  subst hT
  have htr : e.platform.stackTraces = false := (show e.platform.stackTraces = l.stackTraces by rw [X.admits.platform]).trans hl
  have Y := vx_rebase X (R' := { frames := R.frames, locals := R.locals, cells := 1, slots := 6 }) (Nat.le_refl _) (Nat.le_refl _) hRcells hRslots
  obtain ⟨s', hA'⟩ : ∃ z, z = (T.setVm s.vm).setFrames (.invoking m args :: below) := ⟨_, rfl⟩
  rw [← hA'] at Y
  have hvm : s'.vm = s.vm := by rw [hA']; rfl
  have hhp : s'.heap = T.heap := by rw [hA']; rfl
  have hW0 : s.WarmedH s'.vm := by rw [hvm]; exact State.WarmedH.refl s
  have hat' : ∀ w ∈ vx_atS own ic cls names, w.before args s' = true := fun w hw => vx_ot_at hW0 hvm.symm (hgood w (List.mem_cons_of_mem _ (List.mem_cons_of_mem _ hw))) (hat w hw)
  have hk' : (Cond.classLink own ik cls).before args s' = true := vx_ot_at hW0 hvm.symm (hgood _ List.mem_cons_self) hk
  have hini' : (Cond.initialized cls).before args s' = true := vx_ot_at hW0 hvm.symm (hgood _ (List.mem_cons_of_mem _ List.mem_cons_self)) hini
  have hU' : vx_Zq Bundle.tN "UNASSIGNED_STACK" Bundle.steD A s' s'.heap := by rw [hhp]; exact vx_Zq.moved hW0.alike (hU.kept hS.2.1)
  have hN' : vx_Zq Bundle.tN "SUPPRESSED_SENTINEL" Bundle.listD A s' s'.heap := by rw [hhp]; exact vx_Zq.moved hW0.alike (hN.kept hS.2.1)
  have h : ∀ w ∈ Bundle.ownAtoms own ic cls names, w.before args s' = true := vx_own hat' (vx_isRefq hU'.1) (vx_isRefq hN'.1) hU'.2.word hN'.2.word
  have hown' : s'.vm.findClass own = some m.cls := by rw [hvm]; exact hown
  have hins : (Cond.instantiable cls 6).before args s' = true := h _ (by simp [Bundle.ownAtoms])
  obtain ⟨vm₁, cX, kX, hfX, hkX, -, -, X₁, st1⟩ := Y.newCold hexec (own := own) (C := cls) (index := ik) (n := 6) hown' hk' hins hini'
    (g := F0 m pc ls rest) rfl (by rw [hb]; exact d0) (Nat.le_refl _) (Nat.le_refl _)
  generalize hT1 : (T.setVm vm₁).pushCell { cls := cX, slots := kX.instanceTypes.map defaultValue, vm := .none } = T1 at X₁ st1
  have hcat : (Value.ref T.heap.size).category = 1 := rfl
  have hcellA : T1.heap[T.heap.size]? = some (freshCell cX kX) := by rw [← hT1]; exact State.heap_pushCell_size _ _
  have d3' : decode c.code (pc + 3) = .ok (.dup, 1) := by rw [hb]; exact d3
  have d4' : decode c.code (pc + 4) = .ok (.ldc is, 2) := by rw [hb]; exact d4
  have hstr' : vk_R own is text sa s' := vk_R.warm hW0 hstr
  obtain ⟨V, ce, L, Z, hL, hlt, hcl9, hvm9, st⟩ := vx_ctorMadeS X₁ hexec htr (own := own) (cls := cls) (names := names) (ic := ic) hown' hcls hnames h (fun x hx => nomatch hx) hfX hkX hcellA (by rw [hhp]; exact Nat.le_refl _) (msg := .ref sa) rfl
    (g := { method := m, pc := pc + 6, locals := ls, stack := .ref sa :: .ref T.heap.size :: .ref T.heap.size :: rest, locked := none }) rfl hsize (rest := rest) rfl
    (by rw [hb]; exact d6) hRframes (by simp only [List.map_cons, List.sum_cons, hcat]; omega)
  have Z0 := Stand.forget (locs := []) Z (fun y hy => by rw [hL y hy, hhp]; exact Nat.le_refl _)
  obtain ⟨f1, f2⟩ := vx_frame Z0.same
  rw [hhp] at f1 f2
  have hcid : ce.cls = D.1 ci := by
    rw [hcl9]
    have h1 := (hK.1 ci _ hc).2.1
    rw [hvm] at hfX
    exact Option.some.inj (hfX.symm.trans h1)
  have hh : (V.setCell T.heap.size ce).heap[T.heap.size]? = some ce := heapAt_setCell_self (s := V) ce hlt
  subst hA'
  have X5 := vx_back9 X Y Z0
  have X6 : Stand p l e R s m args below meth c (V.setCell T.heap.size ce) locs (cells + 1) (slots + 6) := { X5 with same := X5.same.mono (by omega) (by omega) }
  have hk9 : ∀ (k : Nat) (x : Nat × va_E), ws[k]? = some x → (V.setCell T.heap.size ce).heap[x.1]? = T.heap[x.1]? := fun k x hx => f2 x.1 ((hP k x hx).lt) (fun z hz => nomatch hz)
  obtain ⟨t, a1, b1⟩ := kk T.heap.size (V.setCell T.heap.size ce).heap ((hP.kept hk9).app (fun k x hx => by
      have hz : k < 1 := (List.getElem?_eq_some_iff.mp hx).1
      rw [show k = 0 by omega] at hx
      cases hx
      exact ⟨_, hc, ce, hh, hcid, hvm9, fun k hk => absurd hk (Nat.not_lt_zero k)⟩)) (hD.push hP rfl (hA _ hS.1)) ⟨Nat.le_trans hS.1 f1, fun q h1 h2 => (f2 q (Nat.lt_of_lt_of_le h1 hS.1) (fun z hz => nomatch hz)).trans (hS.2.1 q h1 h2), hS.2.2⟩ _ rfl X6
  refine ⟨t, st1 _ ?_, b1⟩
  show Steps p.tables e below (T1.setTop { method := m, pc := pc + 3, locals := ls, stack := .ref T.heap.size :: rest, locked := none }) _
  jvm_step X₁.here [X₁.here.top, hexec, d3', Value.category]
  exact X₁.ldcString hexec (own := own) (text := text) (index := is) (a := sa) hown' hstr'.1 hstr'.2
    (g := { method := m, pc := pc + 4, locals := ls, stack := .ref T.heap.size :: .ref T.heap.size :: rest, locked := none }) rfl d4' _ (st _ a1)
/-- 'new E()' that isn't thrown at once: the object goes on the stack -/
theorem vx_make0 {cc : ByteArray} {pc : Nat} (hexec : p.tables.exec = Jvm.exec) (hb : c.code = cc) (hl : l.stackTraces = false) {own cls : String} {names : List String} {ik ic ci : Nat} {A : Nat → Prop} {T0 : u_T}
    (hown : s.vm.findClass own = some m.cls) (hcls : Bundle.fit cls = true) (hnames : ∀ n ∈ names, Bundle.fit n = true)
    (hk : (Cond.classLink own ik cls).before args s = true) (hini : (Cond.initialized cls).before args s = true) (hat : ∀ w ∈ vx_at0 own ic cls names, w.before args s = true)
    (hgood : ∀ w ∈ Cond.classLink own ik cls :: Cond.initialized cls :: vx_at0 own ic cls names, vx_ot w = true)
    (hU : vx_Zq Bundle.tN "UNASSIGNED_STACK" Bundle.steD A s s.heap) (hN : vx_Zq Bundle.tN "SUPPRESSED_SENTINEL" Bundle.listD A s s.heap) (hS : va_S A s.heap H locs) (hsize : ls.size = c.maxLocals)
    (d0 : decode cc pc = .ok (.new ik, 3)) (d3 : decode cc (pc + 3) = .ok (.dup, 1)) (d4 : decode cc (pc + 4) = .ok (.invokespecial ic, 3))
    (hK : va_K D cl tys s) (hP : va_P D cl ws H) (hD : va_D A ws) (hA : ∀ q, s.heap.size ≤ q → A q) (hc : cl[ci]? = some (cls, T0, 0))
    (hRframes : names.length + 3 < R.frames) (hRlocals : (rest.map fun v => v.category).sum + (13 * (names.length + 1) + 42) ≤ R.locals) (hRcells : cells + 1 ≤ R.cells) (hRslots : slots + 6 ≤ R.slots)
    (kk : ∀ (q : Nat) (H1 : Heap), va_P D cl (ws ++ [(q, .inr (ci, []))]) H1 → va_D A (ws ++ [(q, .inr (ci, []))]) → va_S A s.heap H1 locs → W p l e R s m args below meth c H1 locs (cells + 1) (slots + 6) Q (F0 m (pc + 7) ls (.ref q :: rest))) :
    W p l e R s m args below meth c H locs cells slots Q (F0 m pc ls rest) := by
  intro T hT X
  subst hT
  have htr : e.platform.stackTraces = false := (show e.platform.stackTraces = l.stackTraces by rw [X.admits.platform]).trans hl
  have Y := vx_rebase X (R' := { frames := R.frames, locals := R.locals, cells := 1, slots := 6 }) (Nat.le_refl _) (Nat.le_refl _) hRcells hRslots
  obtain ⟨s', hA'⟩ : ∃ z, z = (T.setVm s.vm).setFrames (.invoking m args :: below) := ⟨_, rfl⟩
  rw [← hA'] at Y
  have hvm : s'.vm = s.vm := by rw [hA']; rfl
  have hhp : s'.heap = T.heap := by rw [hA']; rfl
  have hW0 : s.WarmedH s'.vm := by rw [hvm]; exact State.WarmedH.refl s
  have hat' : ∀ w ∈ vx_at0 own ic cls names, w.before args s' = true := fun w hw => vx_ot_at hW0 hvm.symm (hgood w (List.mem_cons_of_mem _ (List.mem_cons_of_mem _ hw))) (hat w hw)
  have hk' : (Cond.classLink own ik cls).before args s' = true := vx_ot_at hW0 hvm.symm (hgood _ List.mem_cons_self) hk
  have hini' : (Cond.initialized cls).before args s' = true := vx_ot_at hW0 hvm.symm (hgood _ (List.mem_cons_of_mem _ List.mem_cons_self)) hini
  have hU' : vx_Zq Bundle.tN "UNASSIGNED_STACK" Bundle.steD A s' s'.heap := by rw [hhp]; exact vx_Zq.moved hW0.alike (hU.kept hS.2.1)
  have hN' : vx_Zq Bundle.tN "SUPPRESSED_SENTINEL" Bundle.listD A s' s'.heap := by rw [hhp]; exact vx_Zq.moved hW0.alike (hN.kept hS.2.1)
  have h : ∀ w ∈ Bundle.ownAtoms0 own ic cls names, w.before args s' = true := vx_own hat' (vx_isRefq hU'.1) (vx_isRefq hN'.1) hU'.2.word hN'.2.word
  have hown' : s'.vm.findClass own = some m.cls := by rw [hvm]; exact hown
  have hins : (Cond.instantiable cls 6).before args s' = true := h _ (by simp [Bundle.ownAtoms0])
  obtain ⟨vm₁, cX, kX, hfX, hkX, -, -, X₁, st1⟩ := Y.newCold hexec (own := own) (C := cls) (index := ik) (n := 6) hown' hk' hins hini'
    (g := F0 m pc ls rest) rfl (by rw [hb]; exact d0) (Nat.le_refl _) (Nat.le_refl _)
  generalize hT1 : (T.setVm vm₁).pushCell { cls := cX, slots := kX.instanceTypes.map defaultValue, vm := .none } = T1 at X₁ st1
  have hcat : (Value.ref T.heap.size).category = 1 := rfl
  have hcellA : T1.heap[T.heap.size]? = some (freshCell cX kX) := by rw [← hT1]; exact State.heap_pushCell_size _ _
  have d3' : decode c.code (pc + 3) = .ok (.dup, 1) := by rw [hb]; exact d3
  obtain ⟨V, ce, L, Z, hL, hlt, hcl9, hvm9, st⟩ := vx_ctorMade0 X₁ hexec htr (own := own) (cls := cls) (names := names) (ic := ic) hown' hcls hnames h (fun x hx => nomatch hx) hfX hkX hcellA (by rw [hhp]; exact Nat.le_refl _)
    (g := { method := m, pc := pc + 4, locals := ls, stack := .ref T.heap.size :: .ref T.heap.size :: rest, locked := none }) rfl hsize (rest := rest) rfl
    (by rw [hb]; exact d4) hRframes (by simp only [List.map_cons, List.sum_cons, hcat]; omega)
  have Z0 := Stand.forget (locs := []) Z (fun y hy => by rw [hL y hy, hhp]; exact Nat.le_refl _)
  obtain ⟨f1, f2⟩ := vx_frame Z0.same
  rw [hhp] at f1 f2
  have hcid : ce.cls = D.1 ci := by
    rw [hcl9]
    have h1 := (hK.1 ci _ hc).2.1
    rw [hvm] at hfX
    exact Option.some.inj (hfX.symm.trans h1)
  have hh : (V.setCell T.heap.size ce).heap[T.heap.size]? = some ce := heapAt_setCell_self (s := V) ce hlt
  subst hA'
  have X5 := vx_back9 X Y Z0
  have X6 : Stand p l e R s m args below meth c (V.setCell T.heap.size ce) locs (cells + 1) (slots + 6) := { X5 with same := X5.same.mono (by omega) (by omega) }
  have hk9 : ∀ (k : Nat) (x : Nat × va_E), ws[k]? = some x → (V.setCell T.heap.size ce).heap[x.1]? = T.heap[x.1]? := fun k x hx => f2 x.1 ((hP k x hx).lt) (fun z hz => nomatch hz)
  obtain ⟨t, a1, b1⟩ := kk T.heap.size (V.setCell T.heap.size ce).heap ((hP.kept hk9).app (fun k x hx => by
      have hz : k < 1 := (List.getElem?_eq_some_iff.mp hx).1
      rw [show k = 0 by omega] at hx
      cases hx
      exact ⟨_, hc, ce, hh, hcid, hvm9, fun k hk => absurd hk (Nat.not_lt_zero k)⟩)) (hD.push hP rfl (hA _ hS.1)) ⟨Nat.le_trans hS.1 f1, fun q h1 h2 => (f2 q (Nat.lt_of_lt_of_le h1 hS.1) (fun z hz => nomatch hz)).trans (hS.2.1 q h1 h2), hS.2.2⟩ _ rfl X6
  refine ⟨t, st1 _ ?_, b1⟩
  show Steps p.tables e below (T1.setTop { method := m, pc := pc + 3, locals := ls, stack := .ref T.heap.size :: rest, locked := none }) _
  jvm_step X₁.here [X₁.here.top, hexec, d3', Value.category]
  exact st _ a1
/-- 'throw x' of an object that was made before -/
theorem vx_athrow {cc : ByteArray} {pc : Nat} (hexec : p.tables.exec = Jvm.exec) (hb : c.code = cc) {q : Addr} (hdg : decode cc pc = .ok (.athrow, 1)) (k : vx_W p l e R s m args below meth c H locs cells slots Q (F0 m pc ls rest) q) : W p l e R s m args below meth c H locs cells slots Q (F0 m pc ls (.ref q :: rest)) := by
  intro T hT X
  obtain ⟨t, st, hq⟩ := k T hT X
  refine ⟨t, ?_, hq⟩
  have hdg' : decode c.code pc = .ok (.athrow, 1) := by rw [hb]; exact hdg
  jvm_step X.here [X.here.top, hexec, hdg', athrow.wp_sem]
  exact st
end VXK2
/-! ===== END ===== -/
/-! ===== BEGIN a constructor that throws (launches without stack traces) ===== -/
section VXIA
variable {p : Program} {l : Launch} {e : Env} {R : Room} {s : State} {m : MethodId} {args : Array Value} {below : List Frame} {meth : Method} {c : Code} {T : State} {locs : List Loc} {cells slots : Nat}
theorem vx_callI (X : Stand p l e R s m args below meth c T locs cells slots) (hexec : p.tables.exec = Jvm.exec) {own : String} {index : Nat} {y : MethodName} {bytes : ByteArray} {maxL : Nat}
    (hown : s.vm.findClass own = some m.cls) (hy1 : y.name = "<init>") (hlink : (Cond.methodLink own index y).before args s = true) (hinst : (Cond.instanceMethod y).before args s = true)
    (hcode : (Cond.code y bytes maxL none).before args s = true) (hy : y.cls ≠ "java/lang/invoke/MethodHandle" ∧ y.cls ≠ "java/lang/invoke/VarHandle")
    {W9 : Nat} {Pre : Pt → Array Value → Prop} {Post : Pt → Array Value → Option Value → Pt → Prop} {PostX : Pt → Array Value → Addr → Pt → Prop} (hK : vx_Back l R p e below s args y 3 W9 Pre Post PostX)
    {g : JFrame} (hg : g.method = m) (hsize : g.locals.size = c.maxLocals) {a : Addr} {argsL rest : List Value} (hlen : ∀ sig, parseMethodDescriptor y.desc = some sig → argsL.length = sig.parameters.length)
    (hstack : g.stack = argsL.reverse ++ .ref a :: rest) (hW : 2 * g.monitorRoom + (rest.map fun v => v.category).sum ≤ W9) (hdg : decode c.code g.pc = .ok (.invokespecial index, 3))
    (hpre : ∀ vm₁, s.WarmedH vm₁ → Pre ⟨T.setVm vm₁, locs, cells, slots⟩ (Value.ref a :: argsL).toArray) :
    (∃ (v : Option Value) (vm₁ : Vm) (B : Pt), s.WarmedH vm₁ ∧ Stand p l e R s m args below meth c B.U B.locs B.cells B.slots ∧ Post ⟨T.setVm vm₁, locs, cells, slots⟩ (Value.ref a :: argsL).toArray v B ∧
      ∀ target, Steps p.tables e below (B.U.setTop { g with pc := g.pc + 3, stack := v.toList ++ rest }) target → Steps p.tables e below (T.setTop g) target) ∨
    (∃ (q : Addr) (vm₁ : Vm) (B : Pt), s.WarmedH vm₁ ∧ Stand p l e R s m args below meth c B.U B.locs B.cells B.slots ∧ PostX ⟨T.setVm vm₁, locs, cells, slots⟩ (Value.ref a :: argsL).toArray q B ∧
      Steps p.tables e below (T.setTop g) ((B.U.setTop { g with stack := rest }).pushFrame (.throwing q))) := by
  subst hg
  have hpl : e.platform.magicAccessors = ({} : Platform).magicAccessors := by rw [X.admits.platform]
  obtain ⟨mk, methM, cM, kP, vm₁, hnamed, hmethM, hcodeM, -, hlocalsM, -, hkP, -, hW₁, hstep₁⟩ := Steps.initColdArgs (e := e) X.here hexec X.warmed hpl hown hy1 hy hlink hinst hcode (f := g) rfl hlen hstack hdg
  have X₁ := X.noted hW₁
  rcases hK g.method meth c ⟨T.setVm vm₁, locs, cells, slots⟩ { g with stack := rest } (.invokespecial index) mk (Value.ref a :: argsL).toArray X₁ rfl hsize hdg hW (X₁.named hnamed) (hpre vm₁ X₁.warmed) with ⟨v, B, X', hpost, hsteps⟩ | ⟨q, B, X', hpost, hsteps⟩
  · exact Or.inl ⟨v, vm₁, B, X₁.warmed, X', hpost, fun target h => hstep₁ _ fun acts => by rw [doInvoke_state]; exact hsteps.trans h⟩
  · exact Or.inr ⟨q, vm₁, B, X₁.warmed, X', hpost, hstep₁ _ fun acts => by rw [doInvoke_state]; exact hsteps⟩
end VXIA
section VXIB
variable {p : Program} {l : Launch} {e : Env} {R : Room} {s : State} {m : MethodId} {args : Array Value} {below : List Frame} {meth : Method} {c : Code} {H : Heap} {locs : List Loc} {cells slots : Nat}
variable {y : MethodName} {bytes cc : ByteArray} {maxL nL mc ms n index : Nat} {ret : Option FieldType} {ws : List Cond} {rm : Room} {Pc : Array Value → State → Prop} {Qc : Array Value → State → Outcome → State → Prop} {XC : String → State → State → Prop} {free : Addr → Prop} {Ts : List Cond} {own C : String} {b : Addr} {As rest : List Value} {g : JFrame}
theorem vx_runI (S : CallFix p m c cc nL s args Ts own) (hM : vx_Met l y ws rm Pc Qc XC mc ms free) (cw : CallB R s args own index y bytes maxL none ws rm mc ms n ∧ y.name = "<init>" ∧ (Cond.instanceMethod y).before args s = true) (hp : PreS s H Pc (.ref b :: As))
    (hg : g.method = m) (hn : As.length = n) (hsize : g.locals.size = nL) (hstack : g.stack = As.reverse ++ .ref b :: rest) (hW : 2 * g.monitorRoom + (rest.map fun v => v.category).sum ≤ 8) (hdg : decode cc g.pc = .ok (.invokespecial index, 3)) (hf : cells + mc ≤ R.cells ∧ slots + ms ≤ R.slots) :
    vx_Run p l e R s m args below meth c H locs cells slots mc ms g rest (Qc (Value.ref b :: As).toArray) XC free := by
  have hK : vx_Back l R p e below s args y 3 8 (PreOf R mc ms Pc) (PostOf Qc mc ms free) (vx_Post XC mc ms free) := vx_callBack cw.1 hM hp.1
  obtain ⟨⟨-, -, -, -, -, -, hcode, -, hy, hlen, hl⟩, hy1, hin⟩ := cw
  obtain ⟨hx, hb, hml, ho, -⟩ := S
  have hPc := hp.2
  intro T hT X
  rcases vx_callI X hx (bytes := bytes) (maxL := maxL) ho hy1 hl hin hcode hy hK hg (hsize.trans hml.symm) (a := b) (argsL := As) (rest := rest) (fun sig h => hn.trans (hlen sig h)) hstack hW (by rw [hb]; exact hdg)
    (fun vm₁ hW₁ => ⟨hf.1, hf.2, hPc (T.setVm vm₁) hT hW₁⟩) with ⟨v, vm₁, ⟨U', l2, c2, s2⟩, hW₁, X', ⟨g', mk, t, L, e1, e2, hq, h1, hL, h2, h3⟩, st⟩ | ⟨q, vm₁, ⟨U', l2, c2, s2⟩, hW₁, X', ⟨g', mk, t, L, E, ce, e1, e2, hq, hce, hcv, hcl, h1, hL, h2, h3⟩, st⟩
  · dsimp only [Pt.U, Pt.locs, Pt.cells, Pt.slots] at X' e1 e2 h1 h2 h3 st
    subst h1; subst h2; subst h3
    exact Or.inl ⟨v, (T.setVm vm₁).calling g' mk (Value.ref b :: As).toArray, t, U', L, hT, X', hL, e1, e2, hq, st⟩
  · dsimp only [Pt.U, Pt.locs, Pt.cells, Pt.slots] at X' e1 e2 h1 h2 h3 st hcl
    subst h1; subst h2; subst h3
    exact Or.inr ⟨q, (T.setVm vm₁).calling g' mk (Value.ref b :: As).toArray, t, U', L, E, ce, hT, X', hL, e1, e2, hq, hce, hcv, vx_cls hW₁ hcl, st⟩
end VXIB
/-! ===== END ===== -/
/-! ===== BEGIN a private constructor of a nest mate that throws ===== -/
section VXIC
variable {p : Program} {l : Launch} {e : Env} {R : Room} {s : State} {m : MethodId} {args : Array Value} {below : List Frame} {meth : Method} {c : Code} {T : State} {locs : List Loc} {cells slots : Nat}
theorem vx_callIN (X : Stand p l e R s m args below meth c T locs cells slots) (hexec : p.tables.exec = Jvm.exec) {own : String} {index : Nat} {host : String} {y : MethodName} {bytes : ByteArray} {maxL : Nat}
    (hown : s.vm.findClass own = some m.cls) (hy1 : y.name = "<init>") (hlink : (Cond.methodLinkNest own index y host).before args s = true) (hinst : (Cond.instanceMethod y).before args s = true)
    (hcode : (Cond.code y bytes maxL none).before args s = true) (hy : y.cls ≠ "java/lang/invoke/MethodHandle" ∧ y.cls ≠ "java/lang/invoke/VarHandle")
    {W9 : Nat} {Pre : Pt → Array Value → Prop} {Post : Pt → Array Value → Option Value → Pt → Prop} {PostX : Pt → Array Value → Addr → Pt → Prop} (hK : vx_Back l R p e below s args y 3 W9 Pre Post PostX)
    {g : JFrame} (hg : g.method = m) (hsize : g.locals.size = c.maxLocals) {a : Addr} {argsL rest : List Value} (hlen : ∀ sig, parseMethodDescriptor y.desc = some sig → argsL.length = sig.parameters.length)
    (hstack : g.stack = argsL.reverse ++ .ref a :: rest) (hW : 2 * g.monitorRoom + (rest.map fun v => v.category).sum ≤ W9) (hdg : decode c.code g.pc = .ok (.invokespecial index, 3))
    (hpre : ∀ vm₁, s.WarmedH vm₁ → Pre ⟨T.setVm vm₁, locs, cells, slots⟩ (Value.ref a :: argsL).toArray) :
    (∃ (v : Option Value) (vm₁ : Vm) (B : Pt), s.WarmedH vm₁ ∧ Stand p l e R s m args below meth c B.U B.locs B.cells B.slots ∧ Post ⟨T.setVm vm₁, locs, cells, slots⟩ (Value.ref a :: argsL).toArray v B ∧
      ∀ target, Steps p.tables e below (B.U.setTop { g with pc := g.pc + 3, stack := v.toList ++ rest }) target → Steps p.tables e below (T.setTop g) target) ∨
    (∃ (q : Addr) (vm₁ : Vm) (B : Pt), s.WarmedH vm₁ ∧ Stand p l e R s m args below meth c B.U B.locs B.cells B.slots ∧ PostX ⟨T.setVm vm₁, locs, cells, slots⟩ (Value.ref a :: argsL).toArray q B ∧
      Steps p.tables e below (T.setTop g) ((B.U.setTop { g with stack := rest }).pushFrame (.throwing q))) := by
  subst hg
  have hpl : e.platform.magicAccessors = ({} : Platform).magicAccessors := by rw [X.admits.platform]
  obtain ⟨mk, methM, cM, kP, vm₁, hnamed, hmethM, hcodeM, -, hlocalsM, -, hkP, -, hW₁, hstep₁⟩ := Steps.initColdArgsNest (e := e) X.here hexec X.warmed hpl hown hy1 hy hlink hinst hcode (f := g) rfl hlen hstack hdg
  have X₁ := X.noted hW₁
  rcases hK g.method meth c ⟨T.setVm vm₁, locs, cells, slots⟩ { g with stack := rest } (.invokespecial index) mk (Value.ref a :: argsL).toArray X₁ rfl hsize hdg hW (X₁.named hnamed) (hpre vm₁ X₁.warmed) with ⟨v, B, X', hpost, hsteps⟩ | ⟨q, B, X', hpost, hsteps⟩
  · exact Or.inl ⟨v, vm₁, B, X₁.warmed, X', hpost, fun target h => hstep₁ _ fun acts => by rw [doInvoke_state]; exact hsteps.trans h⟩
  · exact Or.inr ⟨q, vm₁, B, X₁.warmed, X', hpost, hstep₁ _ fun acts => by rw [doInvoke_state]; exact hsteps⟩
end VXIC
section VXID
variable {p : Program} {l : Launch} {e : Env} {R : Room} {s : State} {m : MethodId} {args : Array Value} {below : List Frame} {meth : Method} {c : Code} {H : Heap} {locs : List Loc} {cells slots : Nat}
theorem vx_runIN {y : MethodName} {bytes cc : ByteArray} {maxL nL mc ms n index : Nat} {ws : List Cond} {rm : Room} {Pc : Array Value → State → Prop} {Qc : Array Value → State → Outcome → State → Prop} {XC : String → State → State → Prop} {free : Addr → Prop} {Ts : List Cond} {own host : String} {b : Addr} {As rest : List Value} {g : JFrame}
    (S : CallFix p m c cc nL s args Ts own) (hM : vx_Met l y ws rm Pc Qc XC mc ms free) (cw : va_CN R s args own index y host bytes maxL none ws rm mc ms n ∧ y.name = "<init>" ∧ (Cond.instanceMethod y).before args s = true) (hp : PreS s H Pc (.ref b :: As))
    (hg : g.method = m) (hn : As.length = n) (hsize : g.locals.size = nL) (hstack : g.stack = As.reverse ++ .ref b :: rest) (hW : 2 * g.monitorRoom + (rest.map fun v => v.category).sum ≤ 8) (hdg : decode cc g.pc = .ok (.invokespecial index, 3)) (hf : cells + mc ≤ R.cells ∧ slots + ms ≤ R.slots) :
    vx_Run p l e R s m args below meth c H locs cells slots mc ms g rest (Qc (Value.ref b :: As).toArray) XC free := by
  obtain ⟨⟨⟨hrc, hrs, hfr, hlo, hws, hcw⟩, hcode, hini, hy, hlen, hl⟩, hx1, hx2⟩ := cw
  have hK : vx_Back l R p e below s args y 3 8 (PreOf R mc ms Pc) (PostOf Qc mc ms free) (vx_Post XC mc ms free) := vx_back (bytes := bytes) (maxL := maxL) (ret := none) hM hp.1 hrc hrs hfr hlo hws hcw (fun a' U hW => word_at hW (Or.inl (by first | rfl | simp [Cond.onTables, Cond.keeps, Cond.steady])) hini)
  obtain ⟨hx, hb, hml, ho, -⟩ := S
  have hPc := hp.2
  intro T hT X
  rcases vx_callIN X hx (bytes := bytes) (maxL := maxL) ho hx1 hl hx2 hcode hy hK hg (hsize.trans hml.symm) (a := b) (argsL := As) (rest := rest) (fun sig h => hn.trans (hlen sig h)) hstack hW (by rw [hb]; exact hdg)
    (fun vm₁ hW₁ => ⟨hf.1, hf.2, hPc (T.setVm vm₁) hT hW₁⟩) with ⟨v, vm₁, ⟨U', l2, c2, s2⟩, hW₁, X', ⟨g', mk, t, L, e1, e2, hq, h1, hL, h2, h3⟩, st⟩ | ⟨q, vm₁, ⟨U', l2, c2, s2⟩, hW₁, X', ⟨g', mk, t, L, E, ce, e1, e2, hq, hce, hcv, hcl, h1, hL, h2, h3⟩, st⟩
  · dsimp only [Pt.U, Pt.locs, Pt.cells, Pt.slots] at X' e1 e2 h1 h2 h3 st
    subst h1; subst h2; subst h3
    exact Or.inl ⟨v, (T.setVm vm₁).calling g' mk (Value.ref b :: As).toArray, t, U', L, hT, X', hL, e1, e2, hq, st⟩
  · dsimp only [Pt.U, Pt.locs, Pt.cells, Pt.slots] at X' e1 e2 h1 h2 h3 st hcl
    subst h1; subst h2; subst h3
    exact Or.inr ⟨q, (T.setVm vm₁).calling g' mk (Value.ref b :: As).toArray, t, U', L, E, ce, hT, X', hL, e1, e2, hq, hce, hcv, vx_cls hW₁ hcl, st⟩
end VXID
/-! ===== END ===== -/
/-! ===== BEGIN a method of a class above, found by the receiver, that may throw (follows va_callVU, va_runU of this kit) ===== -/
section
variable {p : Program} {l : Launch} {e : Env} {R : Room} {s : State} {m : MethodId} {args : Array Value} {below : List Frame} {meth : Method} {c : Code} {H : Heap} {locs : List Loc} {cells slots : Nat}
theorem vx_callVU {T : State} {locs : List Loc} {cells slots : Nat} (X : Stand p l e R s m args below meth c T locs cells slots) (hexec : p.tables.exec = Jvm.exec) {own C owner : String} {index : Nat} {x y : MethodName} {bytes : ByteArray} {maxL : Nat} {ret : Option FieldType}
    (hown : s.vm.findClass own = some m.cls) (hlink : (Cond.methodLink own index x).before args s = true) (hsame : (Cond.sameMethod x.cls owner x.name x.desc).before args s = true)
    (hd0 : va_Decl s ⟨owner, x.name, x.desc⟩) (howner : owner ≠ "java/lang/invoke/MethodHandle" ∧ owner ≠ "java/lang/invoke/VarHandle")
    (hsel : (Cond.selects C x y).before args s = true) (hinst : (Cond.instanceMethod y).before args s = true) (hcode : (Cond.code y bytes maxL ret).before args s = true)
    {W : Nat} {Pre : Pt → Array Value → Prop} {Post : Pt → Array Value → Option Value → Pt → Prop} {PostX : Pt → Array Value → Addr → Pt → Prop} (hK : vx_Back l R p e below s args y 3 W Pre Post PostX)
    {b : Addr} {cellB : Cell} (hcell : T.heap[b]? = some cellB) (hobj : cellB.vm.isStatics = false) (hcls : s.vm.findClass C = some cellB.cls)
    {g : JFrame} (hg : g.method = m) (hsize : g.locals.size = c.maxLocals) {argsL rest : List Value} (hlen : ∀ sig, parseMethodDescriptor x.desc = some sig → argsL.length = sig.parameters.length)
    (hstack : g.stack = argsL.reverse ++ .ref b :: rest) (hW : 2 * g.monitorRoom + (rest.map fun v => v.category).sum ≤ W) (hdg : decode c.code g.pc = .ok (.invokevirtual index, 3))
    (hpre : ∀ vm₁, s.WarmedH vm₁ → Pre ⟨T.setVm vm₁, locs, cells, slots⟩ (Value.ref b :: argsL).toArray) :
    (∃ (v : Option Value) (vm₁ : Vm) (B : Pt), s.WarmedH vm₁ ∧ Stand p l e R s m args below meth c B.U B.locs B.cells B.slots ∧ Post ⟨T.setVm vm₁, locs, cells, slots⟩ (Value.ref b :: argsL).toArray v B ∧
      ∀ target, Steps p.tables e below (B.U.setTop { g with pc := g.pc + 3, stack := v.toList ++ rest }) target → Steps p.tables e below (T.setTop g) target) ∨
    (∃ (q : Addr) (vm₁ : Vm) (B : Pt), s.WarmedH vm₁ ∧ Stand p l e R s m args below meth c B.U B.locs B.cells B.slots ∧ PostX ⟨T.setVm vm₁, locs, cells, slots⟩ (Value.ref b :: argsL).toArray q B ∧
      Steps p.tables e below (T.setTop g) ((B.U.setTop { g with stack := rest }).pushFrame (.throwing q))) := by
  obtain ⟨r0, r, hn, hrm, hstR, hsigR⟩ := hd0
  obtain ⟨cn, ck, r1, hcn, hck, hni, hf, hn1⟩ := Cond.sameMethod_found hsame
  cases hn.symm.trans hn1
  obtain ⟨mk, methM, hnamed, hmethM, -, habM⟩ := Cond.instanceMethod_spec hinst
  obtain ⟨c2, r2, m2, q1, q2, q3, q4, kP, hkP, hkPi⟩ := Cond.selects_spec hsel
  cases hcls.symm.trans q1
  cases hf.symm.trans q2
  cases hnamed.symm.trans q3
  have hselP : selectMethod e.platform s.vm cellB.cls r0 = .method mk := by rw [Launch.admits_selectMethod X.admits]; exact q4
  obtain ⟨vm₁, X₁, hstep₁⟩ := X.invokevirtualUp hexec hown hlink hsame howner hn hrm hstR (a := b) (cell := cellB) hcell
    (fun z h => by rw [h] at hobj; cases hobj) hselP hmethM habM hkP hkPi (g := g) hg (argsL := argsL) (rest := rest) (hlen _ hsigR) hstack hdg
  rcases hK m meth c ⟨T.setVm vm₁, locs, cells, slots⟩ { g with stack := rest } (.invokevirtual index) mk (Value.ref b :: argsL).toArray X₁ hg hsize hdg hW (X₁.named hnamed) (hpre vm₁ X₁.warmed) with ⟨v, B, X', hpost, hsteps⟩ | ⟨q, B, X', hpost, hsteps⟩
  · exact Or.inl ⟨v, vm₁, B, X₁.warmed, X', hpost, fun target h => hstep₁ _ fun acts => by rw [doInvoke_state]; exact hsteps.trans h⟩
  · exact Or.inr ⟨q, vm₁, B, X₁.warmed, X', hpost, hstep₁ _ fun acts => by rw [doInvoke_state]; exact hsteps⟩
theorem vx_runU {x y : MethodName} {bytes cc : ByteArray} {maxL nL mc ms n index : Nat} {ret : Option FieldType} {ws : List Cond} {rm : Room} {Pc : Array Value → State → Prop} {Qc : Array Value → State → Outcome → State → Prop} {XC : String → State → State → Prop} {free : Addr → Prop} {Ts : List Cond} {own C owner : String} {b : Addr} {As rest : List Value} {g : JFrame}
    (S : CallFix p m c cc nL s args Ts own) (hM : vx_Met l y ws rm Pc Qc XC mc ms free) (cw : va_CU R s args own C owner index x y bytes maxL ret ws rm mc ms n) (hp : PreV s H C b Pc As)
    (hg : g.method = m) (hn : As.length = n) (hsize : g.locals.size = nL) (hstack : g.stack = As.reverse ++ .ref b :: rest) (hW : 2 * g.monitorRoom + (rest.map fun v => v.category).sum ≤ 8) (hdg : decode cc g.pc = .ok (.invokevirtual index, 3)) (hf : cells + mc ≤ R.cells ∧ slots + ms ≤ R.slots) :
    vx_Run p l e R s m args below meth c H locs cells slots mc ms g rest (Qc (Value.ref b :: As).toArray) XC free := by
  obtain ⟨hrc, hrs, hfr, hlo, hws, hcw⟩ := cw.back
  have hini := cw.init
  have hK : vx_Back l R p e below s args y 3 8 (PreOf R mc ms Pc) (PostOf Qc mc ms free) (vx_Post XC mc ms free) := vx_back (bytes := bytes) (maxL := maxL) (ret := ret) hM hp.1 hrc hrs hfr hlo hws hcw (fun a' U hW => word_at hW (Or.inl (by first | rfl | simp [Cond.onTables, Cond.keeps, Cond.steady])) hini)
  obtain ⟨hx, hb, hml, ho, -⟩ := S
  obtain ⟨-, ⟨cellB, hcB, hoB, hclB⟩, hPc⟩ := hp
  intro T hT X
  rcases vx_callVU X hx (C := C) (owner := owner) (bytes := bytes) (maxL := maxL) (ret := ret) ho cw.link cw.same cw.decl cw.notMH cw.sel cw.inst cw.code hK (by rw [hT]; exact hcB) hoB hclB hg (hsize.trans hml.symm) (argsL := As) (rest := rest) (fun sig h => hn.trans (cw.len sig h)) hstack hW (by rw [hb]; exact hdg)
    (fun vm₁ hW₁ => ⟨hf.1, hf.2, hPc (T.setVm vm₁) hT hW₁⟩) with ⟨v, vm₁, ⟨U', l2, c2, s2⟩, hW₁, X', ⟨g', mk, t, L, e1, e2, hq, h1, hL, h2, h3⟩, st⟩ | ⟨q, vm₁, ⟨U', l2, c2, s2⟩, hW₁, X', ⟨g', mk, t, L, E, ce, e1, e2, hq, hce, hcv, hcl, h1, hL, h2, h3⟩, st⟩
  · dsimp only [Pt.U, Pt.locs, Pt.cells, Pt.slots] at X' e1 e2 h1 h2 h3 st
    subst h1; subst h2; subst h3
    exact Or.inl ⟨v, (T.setVm vm₁).calling g' mk (Value.ref b :: As).toArray, t, U', L, hT, X', hL, e1, e2, hq, st⟩
  · dsimp only [Pt.U, Pt.locs, Pt.cells, Pt.slots] at X' e1 e2 h1 h2 h3 st hcl
    subst h1; subst h2; subst h3
    exact Or.inr ⟨q, (T.setVm vm₁).calling g' mk (Value.ref b :: As).toArray, t, U', L, E, ce, hT, X', hL, e1, e2, hq, hce, hcv, vx_cls hW₁ hcl, st⟩
end
/-! ===== END ===== -/
/-! ===== BEGIN super.m(..) that may throw (follows va_callSU, va_runSU) ===== -/
section
variable {p : Program} {l : Launch} {e : Env} {R : Room} {s : State} {m : MethodId} {args : Array Value} {below : List Frame} {meth : Method} {c : Code} {H : Heap} {locs : List Loc} {cells slots : Nat}
theorem vx_callSU {T : State} {locs : List Loc} {cells slots : Nat} (X : Stand p l e R s m args below meth c T locs cells slots) (hexec : p.tables.exec = Jvm.exec) {own : String} {index : Nat} {y : MethodName} {bytes : ByteArray} {maxL : Nat} {ret : Option FieldType}
    (hown : s.vm.findClass own = some m.cls) (hlink : (Cond.methodLink own index y).before args s = true) (hsame : (Cond.sameMethod y.cls y.cls y.name y.desc).before args s = true) (hsup : (Cond.superclass own y.cls).before args s = true)
    (hinst : (Cond.instanceMethod y).before args s = true) (hcode : (Cond.code y bytes maxL ret).before args s = true) (hno : y.name ≠ "<init>")
    {W : Nat} {Pre : Pt → Array Value → Prop} {Post : Pt → Array Value → Option Value → Pt → Prop} {PostX : Pt → Array Value → Addr → Pt → Prop} (hK : vx_Back l R p e below s args y 3 W Pre Post PostX)
    {b : Addr} {cellB : Cell} {kB : Class} (hcell : T.heap[b]? = some cellB) (hobj : cellB.vm.isStatics = false) (hkB : s.vm.classes[cellB.cls]? = some kB)
    {g : JFrame} (hg : g.method = m) (hsize : g.locals.size = c.maxLocals) {argsL rest : List Value} (hlen : ∀ sig, parseMethodDescriptor y.desc = some sig → argsL.length = sig.parameters.length)
    (hstack : g.stack = argsL.reverse ++ .ref b :: rest) (hW : 2 * g.monitorRoom + (rest.map fun v => v.category).sum ≤ W) (hdg : decode c.code g.pc = .ok (.invokespecial index, 3))
    (hpre : ∀ vm₁, s.WarmedH vm₁ → Pre ⟨T.setVm vm₁, locs, cells, slots⟩ (Value.ref b :: argsL).toArray) :
    (∃ (v : Option Value) (vm₁ : Vm) (B : Pt), s.WarmedH vm₁ ∧ Stand p l e R s m args below meth c B.U B.locs B.cells B.slots ∧ Post ⟨T.setVm vm₁, locs, cells, slots⟩ (Value.ref b :: argsL).toArray v B ∧
      ∀ target, Steps p.tables e below (B.U.setTop { g with pc := g.pc + 3, stack := v.toList ++ rest }) target → Steps p.tables e below (T.setTop g) target) ∨
    (∃ (q : Addr) (vm₁ : Vm) (B : Pt), s.WarmedH vm₁ ∧ Stand p l e R s m args below meth c B.U B.locs B.cells B.slots ∧ PostX ⟨T.setVm vm₁, locs, cells, slots⟩ (Value.ref b :: argsL).toArray q B ∧
      Steps p.tables e below (T.setTop g) ((B.U.setTop { g with stack := rest }).pushFrame (.throwing q))) := by
  obtain ⟨mk, methM, hnamed, hmethM, hstM, habM⟩ := Cond.instanceMethod_spec hinst
  obtain ⟨methM', cM, hmethM', -, -, -, -, -, -, hsigM⟩ := Cond.code_spec hnamed hcode
  cases hmethM.symm.trans hmethM'
  obtain ⟨ps, dk, kp, hps, hdk, hkp, hsuper, -, -, hnid⟩ := Cond.superclass_spec hown hsup
  have hn : s.methodNamed? ⟨y.cls, y.name, y.desc⟩ = some mk := hnamed
  have hpm : ps = mk.cls := Option.some.inj (hps.symm.trans (findClass_of_methodNamed hnamed))
  have hsub : s.vm.isSubclass ps mk.cls = true := by rw [hpm]; simp [Vm.isSubclass, Vm.isSubclassAux]
  obtain ⟨vm₁, X₁, hstep₁⟩ := X.invokespecialUp hexec hown hlink hsame hn hmethM hstM habM hno hdk hnid hps hsuper hsub (a := b) (cell := cellB) hcell
    (fun z h => by rw [h] at hobj; cases hobj) hkB (g := g) hg (argsL := argsL) (rest := rest) (hlen _ hsigM) hstack hdg
  rcases hK m meth c ⟨T.setVm vm₁, locs, cells, slots⟩ { g with stack := rest } (.invokespecial index) mk (Value.ref b :: argsL).toArray X₁ hg hsize hdg hW (X₁.named hnamed) (hpre vm₁ X₁.warmed) with ⟨v, B, X', hpost, hsteps⟩ | ⟨q, B, X', hpost, hsteps⟩
  · exact Or.inl ⟨v, vm₁, B, X₁.warmed, X', hpost, fun target h => hstep₁ _ (by rw [doInvoke_state]; exact hsteps.trans h)⟩
  · exact Or.inr ⟨q, vm₁, B, X₁.warmed, X', hpost, hstep₁ _ (by rw [doInvoke_state]; exact hsteps)⟩
theorem vx_runSU {y : MethodName} {bytes cc : ByteArray} {maxL nL mc ms n index : Nat} {ret : Option FieldType} {ws : List Cond} {rm : Room} {Pc : Array Value → State → Prop} {Qc : Array Value → State → Outcome → State → Prop} {XC : String → State → State → Prop} {free : Addr → Prop} {Ts : List Cond} {own C : String} {cC : ClassId} {b : Addr} {As rest : List Value} {g : JFrame}
    (hat : ClassAt s C cC) (S : CallFix p m c cc nL s args Ts own) (hM : vx_Met l y ws rm Pc Qc XC mc ms free) (cw : va_CS R s args own index y bytes maxL ret ws rm mc ms n) (hp : PreV s H C b Pc As)
    (hg : g.method = m) (hn : As.length = n) (hsize : g.locals.size = nL) (hstack : g.stack = As.reverse ++ .ref b :: rest) (hW : 2 * g.monitorRoom + (rest.map fun v => v.category).sum ≤ 8) (hdg : decode cc g.pc = .ok (.invokespecial index, 3)) (hf : cells + mc ≤ R.cells ∧ slots + ms ≤ R.slots) :
    vx_Run p l e R s m args below meth c H locs cells slots mc ms g rest (Qc (Value.ref b :: As).toArray) XC free := by
  obtain ⟨⟨hrc, hrs, hfr, hlo, hws, hcw⟩, hl1, hl2, hl3, hl4, hini, hcode, hno, hlen⟩ := cw
  have hK : vx_Back l R p e below s args y 3 8 (PreOf R mc ms Pc) (PostOf Qc mc ms free) (vx_Post XC mc ms free) := vx_back (bytes := bytes) (maxL := maxL) (ret := ret) hM hp.1 hrc hrs hfr hlo hws hcw (fun a' U hW => word_at hW (Or.inl (by first | rfl | simp [Cond.onTables, Cond.keeps, Cond.steady])) hini)
  obtain ⟨hx, hb, hml, ho, -⟩ := S
  obtain ⟨-, ⟨cellB, hcB, hoB, hclB⟩, hPc⟩ := hp
  obtain ⟨hfc, kB, hkB, -⟩ := hat
  cases hfc.symm.trans hclB
  intro T hT X
  rcases vx_callSU X hx (bytes := bytes) (maxL := maxL) (ret := ret) ho hl1 hl2 hl3 hl4 hcode hno hK (by rw [hT]; exact hcB) hoB hkB hg (hsize.trans hml.symm) (argsL := As) (rest := rest) (fun sig h => hn.trans (hlen sig h)) hstack hW (by rw [hb]; exact hdg)
    (fun vm₁ hW₁ => ⟨hf.1, hf.2, hPc (T.setVm vm₁) hT hW₁⟩) with ⟨v, vm₁, ⟨U', l2, c2, s2⟩, hW₁, X', ⟨g', mk, t, L, e1, e2, hq, h1, hL, h2, h3⟩, st⟩ | ⟨q, vm₁, ⟨U', l2, c2, s2⟩, hW₁, X', ⟨g', mk, t, L, E, ce, e1, e2, hq, hce, hcv, hcl, h1, hL, h2, h3⟩, st⟩
  · dsimp only [Pt.U, Pt.locs, Pt.cells, Pt.slots] at X' e1 e2 h1 h2 h3 st
    subst h1; subst h2; subst h3
    exact Or.inl ⟨v, (T.setVm vm₁).calling g' mk (Value.ref b :: As).toArray, t, U', L, hT, X', hL, e1, e2, hq, st⟩
  · dsimp only [Pt.U, Pt.locs, Pt.cells, Pt.slots] at X' e1 e2 h1 h2 h3 st hcl
    subst h1; subst h2; subst h3
    exact Or.inr ⟨q, (T.setVm vm₁).calling g' mk (Value.ref b :: As).toArray, t, U', L, E, ce, hT, X', hL, e1, e2, hq, hce, hcv, vx_cls hW₁ hcl, st⟩
end
/-! ===== END ===== -/
/-! ===== BEGIN a private method of a nest mate that may throw (follows va_callVN, va_callSN, va_runVN, va_runSN) ===== -/
section
variable {p : Program} {l : Launch} {e : Env} {R : Room} {s : State} {m : MethodId} {args : Array Value} {below : List Frame} {meth : Method} {c : Code} {H : Heap} {locs : List Loc} {cells slots : Nat}
variable {T : State}
theorem vx_callVN (X : Stand p l e R s m args below meth c T locs cells slots) (hexec : p.tables.exec = Jvm.exec) {own C : String} {index : Nat} {host : String} {y : MethodName} {bytes : ByteArray} {maxL : Nat} {ret : Option FieldType}
    (hown : s.vm.findClass own = some m.cls) (hlink : (Cond.methodLinkNest own index y host).before args s = true) (hinst : (Cond.instanceMethod y).before args s = true) (hsel : (Cond.selects C y y).before args s = true)
    (hcode : (Cond.code y bytes maxL ret).before args s = true) (hy : y.cls ≠ "java/lang/invoke/MethodHandle" ∧ y.cls ≠ "java/lang/invoke/VarHandle")
    {W : Nat} {Pre : Pt → Array Value → Prop} {Post : Pt → Array Value → Option Value → Pt → Prop} {PostX : Pt → Array Value → Addr → Pt → Prop} (hK : vx_Back l R p e below s args y 3 W Pre Post PostX)
    {b : Addr} {cellB : Cell} (hcell : T.heap[b]? = some cellB) (hobj : cellB.vm.isStatics = false) (hcls : s.vm.findClass C = some cellB.cls)
    {g : JFrame} (hg : g.method = m) (hsize : g.locals.size = c.maxLocals) {argsL rest : List Value} (hlen : ∀ sig, parseMethodDescriptor y.desc = some sig → argsL.length = sig.parameters.length)
    (hstack : g.stack = argsL.reverse ++ .ref b :: rest) (hW : 2 * g.monitorRoom + (rest.map fun v => v.category).sum ≤ W) (hdg : decode c.code g.pc = .ok (.invokevirtual index, 3))
    (hpre : ∀ vm₁, s.WarmedH vm₁ → Pre ⟨T.setVm vm₁, locs, cells, slots⟩ (Value.ref b :: argsL).toArray) :
    (∃ (v : Option Value) (vm₁ : Vm) (B : Pt), s.WarmedH vm₁ ∧ Stand p l e R s m args below meth c B.U B.locs B.cells B.slots ∧ Post ⟨T.setVm vm₁, locs, cells, slots⟩ (Value.ref b :: argsL).toArray v B ∧
      ∀ target, Steps p.tables e below (B.U.setTop { g with pc := g.pc + 3, stack := v.toList ++ rest }) target → Steps p.tables e below (T.setTop g) target) ∨
    (∃ (q : Addr) (vm₁ : Vm) (B : Pt), s.WarmedH vm₁ ∧ Stand p l e R s m args below meth c B.U B.locs B.cells B.slots ∧ PostX ⟨T.setVm vm₁, locs, cells, slots⟩ (Value.ref b :: argsL).toArray q B ∧
      Steps p.tables e below (T.setTop g) ((B.U.setTop { g with stack := rest }).pushFrame (.throwing q))) := by
  obtain ⟨mk, methM, hnamed, hmethM, hstM, habM⟩ := Cond.instanceMethod_spec hinst
  obtain ⟨methM', cM, hmethM', -, -, -, -, -, -, hsigM⟩ := Cond.code_spec hnamed hcode
  cases hmethM.symm.trans hmethM'
  obtain ⟨c2, r2, m2, q1, q2, q3, q4, kP, hkP, hkPi⟩ := Cond.selects_spec hsel
  cases hcls.symm.trans q1
  cases (State.methodFound?_of_named hnamed hy).symm.trans q2
  cases hnamed.symm.trans q3
  have hselP : selectMethod e.platform s.vm cellB.cls mk = .method mk := by rw [Launch.admits_selectMethod X.admits]; exact q4
  obtain ⟨vm₁, X₁, hstep₁⟩ := X.invokevirtualNest hexec hown hlink hnamed hmethM hstM hkP hkPi hy (a := b) (cell := cellB) hcell
    (fun z h => by rw [h] at hobj; cases hobj) hselP hmethM habM hkP hkPi (g := g) hg (argsL := argsL) (rest := rest) (hlen _ hsigM) hstack hdg
  rcases hK m meth c ⟨T.setVm vm₁, locs, cells, slots⟩ { g with stack := rest } (.invokevirtual index) mk (Value.ref b :: argsL).toArray X₁ hg hsize hdg hW (X₁.named hnamed) (hpre vm₁ X₁.warmed) with ⟨v, B, X', hpost, hsteps⟩ | ⟨q, B, X', hpost, hsteps⟩
  · exact Or.inl ⟨v, vm₁, B, X₁.warmed, X', hpost, fun target h => hstep₁ _ fun acts => by rw [doInvoke_state]; exact hsteps.trans h⟩
  · exact Or.inr ⟨q, vm₁, B, X₁.warmed, X', hpost, hstep₁ _ fun acts => by rw [doInvoke_state]; exact hsteps⟩
theorem vx_callSN (X : Stand p l e R s m args below meth c T locs cells slots) (hexec : p.tables.exec = Jvm.exec) {own : String} {index : Nat} {host : String} {y : MethodName} {bytes : ByteArray} {maxL : Nat} {ret : Option FieldType}
    (hown : s.vm.findClass own = some m.cls) (hlink : (Cond.methodLinkNest own index y host).before args s = true) (hstat : (Cond.static y).before args s = true) (hinit : (Cond.initialized y.cls).before args s = true)
    (hcode : (Cond.code y bytes maxL ret).before args s = true) (hy : y.cls ≠ "java/lang/invoke/MethodHandle" ∧ y.cls ≠ "java/lang/invoke/VarHandle")
    {W : Nat} {Pre : Pt → Array Value → Prop} {Post : Pt → Array Value → Option Value → Pt → Prop} {PostX : Pt → Array Value → Addr → Pt → Prop} (hK : vx_Back l R p e below s args y 3 W Pre Post PostX)
    {g : JFrame} (hg : g.method = m) (hsize : g.locals.size = c.maxLocals) {argsL rest : List Value} (hlen : ∀ sig, parseMethodDescriptor y.desc = some sig → argsL.length = sig.parameters.length)
    (hstack : g.stack = argsL.reverse ++ rest) (hW : 2 * g.monitorRoom + (rest.map fun v => v.category).sum ≤ W) (hdg : decode c.code g.pc = .ok (.invokestatic index, 3))
    (hpre : ∀ vm₁, s.WarmedH vm₁ → Pre ⟨T.setVm vm₁, locs, cells, slots⟩ argsL.toArray) :
    (∃ (v : Option Value) (vm₁ : Vm) (B : Pt), s.WarmedH vm₁ ∧ Stand p l e R s m args below meth c B.U B.locs B.cells B.slots ∧ Post ⟨T.setVm vm₁, locs, cells, slots⟩ argsL.toArray v B ∧
      ∀ target, Steps p.tables e below (B.U.setTop { g with pc := g.pc + 3, stack := v.toList ++ rest }) target → Steps p.tables e below (T.setTop g) target) ∨
    (∃ (q : Addr) (vm₁ : Vm) (B : Pt), s.WarmedH vm₁ ∧ Stand p l e R s m args below meth c B.U B.locs B.cells B.slots ∧ PostX ⟨T.setVm vm₁, locs, cells, slots⟩ argsL.toArray q B ∧
      Steps p.tables e below (T.setTop g) ((B.U.setTop { g with stack := rest }).pushFrame (.throwing q))) := by
  obtain ⟨mk, hnamed⟩ := Cond.code_named hcode
  obtain ⟨methM, cM, hmethM, -, -, -, -, -, -, hsigM⟩ := Cond.code_spec hnamed hcode
  have hstatic : methM.isStatic = true := Cond.static_spec hnamed hmethM hstat
  obtain ⟨kP, hkP, -⟩ := className_of_methodNamed hnamed
  have hinitP : kP.init = .initialized := Cond.initialized_spec (findClass_of_methodNamed hnamed) hkP hinit
  obtain ⟨vm₁, X₁, hstep₁⟩ := X.invokestaticNest hexec hown hlink hnamed hmethM hstatic hkP hinitP hy (g := g) hg (argsL := argsL) (rest := rest) (hlen _ hsigM) hstack hdg
  rcases hK m meth c ⟨T.setVm vm₁, locs, cells, slots⟩ { g with stack := rest } (.invokestatic index) mk argsL.toArray X₁ hg hsize hdg hW (X₁.named hnamed) (hpre vm₁ X₁.warmed) with ⟨v, B, X', hpost, hsteps⟩ | ⟨q, B, X', hpost, hsteps⟩
  · exact Or.inl ⟨v, vm₁, B, X₁.warmed, X', hpost, fun target h => hstep₁ _ fun acts => by rw [doInvoke_state]; exact hsteps.trans h⟩
  · exact Or.inr ⟨q, vm₁, B, X₁.warmed, X', hpost, hstep₁ _ fun acts => by rw [doInvoke_state]; exact hsteps⟩
theorem vx_runVN {y : MethodName} {bytes cc : ByteArray} {maxL nL mc ms n index : Nat} {ret : Option FieldType} {ws : List Cond} {rm : Room} {Pc : Array Value → State → Prop} {Qc : Array Value → State → Outcome → State → Prop} {XC : String → State → State → Prop} {free : Addr → Prop} {Ts : List Cond} {own C host : String} {b : Addr} {As rest : List Value} {g : JFrame}
    (S : CallFix p m c cc nL s args Ts own) (hM : vx_Met l y ws rm Pc Qc XC mc ms free) (cw : va_CN R s args own index y host bytes maxL ret ws rm mc ms n ∧ (Cond.instanceMethod y).before args s = true ∧ (Cond.selects C y y).before args s = true) (hp : PreV s H C b Pc As)
    (hg : g.method = m) (hn : As.length = n) (hsize : g.locals.size = nL) (hstack : g.stack = As.reverse ++ .ref b :: rest) (hW : 2 * g.monitorRoom + (rest.map fun v => v.category).sum ≤ 8) (hdg : decode cc g.pc = .ok (.invokevirtual index, 3)) (hf : cells + mc ≤ R.cells ∧ slots + ms ≤ R.slots) :
    vx_Run p l e R s m args below meth c H locs cells slots mc ms g rest (Qc (Value.ref b :: As).toArray) XC free := by
  obtain ⟨⟨⟨hrc, hrs, hfr, hlo, hws, hcw⟩, hcode, hini, hy, hlen, hl⟩, hx1, hx2⟩ := cw
  have hK : vx_Back l R p e below s args y 3 8 (PreOf R mc ms Pc) (PostOf Qc mc ms free) (vx_Post XC mc ms free) := vx_back (bytes := bytes) (maxL := maxL) (ret := ret) hM hp.1 hrc hrs hfr hlo hws hcw (fun a' U hW => word_at hW (Or.inl (by first | rfl | simp [Cond.onTables, Cond.keeps, Cond.steady])) hini)
  obtain ⟨hx, hb, hml, ho, -⟩ := S
  obtain ⟨-, ⟨cellB, hcB, hoB, hclB⟩, hPc⟩ := hp
  intro T hT X
  rcases vx_callVN X hx (C := C) (bytes := bytes) (maxL := maxL) (ret := ret) ho hl hx1 hx2 hcode hy hK (by rw [hT]; exact hcB) hoB hclB hg (hsize.trans hml.symm) (argsL := As) (rest := rest) (fun sig h => hn.trans (hlen sig h)) hstack hW (by rw [hb]; exact hdg)
    (fun vm₁ hW₁ => ⟨hf.1, hf.2, hPc (T.setVm vm₁) hT hW₁⟩) with ⟨v, vm₁, ⟨U', l2, c2, s2⟩, hW₁, X', ⟨g', mk, t, L, e1, e2, hq, h1, hL, h2, h3⟩, st⟩ | ⟨q, vm₁, ⟨U', l2, c2, s2⟩, hW₁, X', ⟨g', mk, t, L, E, ce, e1, e2, hq, hce, hcv, hcl, h1, hL, h2, h3⟩, st⟩
  · dsimp only [Pt.U, Pt.locs, Pt.cells, Pt.slots] at X' e1 e2 h1 h2 h3 st
    subst h1; subst h2; subst h3
    exact Or.inl ⟨v, (T.setVm vm₁).calling g' mk (Value.ref b :: As).toArray, t, U', L, hT, X', hL, e1, e2, hq, st⟩
  · dsimp only [Pt.U, Pt.locs, Pt.cells, Pt.slots] at X' e1 e2 h1 h2 h3 st hcl
    subst h1; subst h2; subst h3
    exact Or.inr ⟨q, (T.setVm vm₁).calling g' mk (Value.ref b :: As).toArray, t, U', L, E, ce, hT, X', hL, e1, e2, hq, hce, hcv, vx_cls hW₁ hcl, st⟩
theorem vx_runSN {y : MethodName} {bytes cc : ByteArray} {maxL nL mc ms n index : Nat} {ret : Option FieldType} {ws : List Cond} {rm : Room} {Pc : Array Value → State → Prop} {Qc : Array Value → State → Outcome → State → Prop} {XC : String → State → State → Prop} {free : Addr → Prop} {Ts : List Cond} {own host : String} {As rest : List Value} {g : JFrame}
    (S : CallFix p m c cc nL s args Ts own) (hM : vx_Met l y ws rm Pc Qc XC mc ms free) (cw : va_CN R s args own index y host bytes maxL ret ws rm mc ms n ∧ (Cond.static y).before args s = true ∧ True) (hp : PreS s H Pc As)
    (hg : g.method = m) (hn : As.length = n) (hsize : g.locals.size = nL) (hstack : g.stack = As.reverse ++ rest) (hW : 2 * g.monitorRoom + (rest.map fun v => v.category).sum ≤ 8) (hdg : decode cc g.pc = .ok (.invokestatic index, 3)) (hf : cells + mc ≤ R.cells ∧ slots + ms ≤ R.slots) :
    vx_Run p l e R s m args below meth c H locs cells slots mc ms g rest (Qc As.toArray) XC free := by
  obtain ⟨⟨⟨hrc, hrs, hfr, hlo, hws, hcw⟩, hcode, hini, hy, hlen, hl⟩, hx1, hx2⟩ := cw
  have hK : vx_Back l R p e below s args y 3 8 (PreOf R mc ms Pc) (PostOf Qc mc ms free) (vx_Post XC mc ms free) := vx_back (bytes := bytes) (maxL := maxL) (ret := ret) hM hp.1 hrc hrs hfr hlo hws hcw (fun a' U hW => word_at hW (Or.inl (by first | rfl | simp [Cond.onTables, Cond.keeps, Cond.steady])) hini)
  obtain ⟨hx, hb, hml, ho, -⟩ := S
  have hPc := hp.2
  intro T hT X
  rcases vx_callSN X hx (bytes := bytes) (maxL := maxL) (ret := ret) ho hl hx1 hini hcode hy hK hg (hsize.trans hml.symm) (argsL := As) (rest := rest) (fun sig h => hn.trans (hlen sig h)) hstack hW (by rw [hb]; exact hdg)
    (fun vm₁ hW₁ => ⟨hf.1, hf.2, hPc (T.setVm vm₁) hT hW₁⟩) with ⟨v, vm₁, ⟨U', l2, c2, s2⟩, hW₁, X', ⟨g', mk, t, L, e1, e2, hq, h1, hL, h2, h3⟩, st⟩ | ⟨q, vm₁, ⟨U', l2, c2, s2⟩, hW₁, X', ⟨g', mk, t, L, E, ce, e1, e2, hq, hce, hcv, hcl, h1, hL, h2, h3⟩, st⟩
  · dsimp only [Pt.U, Pt.locs, Pt.cells, Pt.slots] at X' e1 e2 h1 h2 h3 st
    subst h1; subst h2; subst h3
    exact Or.inl ⟨v, (T.setVm vm₁).calling g' mk As.toArray, t, U', L, hT, X', hL, e1, e2, hq, st⟩
  · dsimp only [Pt.U, Pt.locs, Pt.cells, Pt.slots] at X' e1 e2 h1 h2 h3 st hcl
    subst h1; subst h2; subst h3
    exact Or.inr ⟨q, (T.setVm vm₁).calling g' mk As.toArray, t, U', L, E, ce, hT, X', hL, e1, e2, hq, hce, hcv, vx_cls hW₁ hcl, st⟩
end
/-! ===== END ===== -/
/-! ===== BEGIN calls by an interface of methods that may throw (vx_callIF, vx_runF follow va_callIF, va_runF of this kit) ===== -/
section
variable {p : Program} {l : Launch} {e : Env} {R : Room} {s : State} {m : MethodId} {args : Array Value} {below : List Frame} {meth : Method} {c : Code} {H : Heap} {locs : List Loc} {cells slots : Nat} {Q : State → Prop}
variable {mc ms : Nat} {free : Addr → Prop} {A0 A1 : Nat → Prop} {H0 : Heap} {a : Array Value} {pc : Nat} {ls : Array Slot} {st0 rest : List Value}
def vx_Run5 (p : Program) (l : Launch) (e : Env) (R : Room) (s : State) (m : MethodId) (args : Array Value) (below : List Frame) (meth : Method) (c : Code) (H : Heap) (locs : List Loc) (cells slots mc ms : Nat) (g : JFrame) (rest : List Value) (Qa : State → Outcome → State → Prop) (XC : String → State → State → Prop) (free : Addr → Prop) : Prop :=
  ∀ T : State, T.heap = H → Stand p l e R s m args below meth c T locs cells slots →
    (∃ (v : Option Value) (st₀ t T' : State) (L : List Loc), st₀.heap = H ∧ Stand p l e R s m args below meth c T' (locs ++ L) (cells + mc) (slots + ms) ∧ (∀ q ∈ L, free q.base) ∧ T'.heap = t.heap ∧ T'.vm = t.vm ∧ Qa st₀ (.returned v) t ∧
      Goes p e below T g T' { g with pc := g.pc + 5, stack := v.toList ++ rest }) ∨
    (∃ (q : Addr) (st₀ t T' : State) (L : List Loc) (E : String) (ce : Cell), st₀.heap = H ∧ Stand p l e R s m args below meth c T' (locs ++ L) (cells + mc) (slots + ms) ∧ (∀ z ∈ L, free z.base) ∧ T'.heap = t.heap ∧ T'.vm = t.vm ∧ XC E st₀ t ∧ t.heap[q]? = some ce ∧ ce.vm = .none ∧ s.vm.findClass E = some ce.cls ∧
      Steps p.tables e below (T.setTop g) ((T'.setTop { g with stack := rest }).pushFrame (.throwing q)))
theorem vx_callIF {T : State} (X : Stand p l e R s m args below meth c T locs cells slots) (hexec : p.tables.exec = Jvm.exec) {own C : String} {index count : Nat} {x y : MethodName} {bytes : ByteArray} {maxL : Nat} {ret : Option FieldType}
    (hown : s.vm.findClass own = some m.cls) (hlink : (Cond.methodLink own index x).before args s = true) (hdecl : (Cond.declares x).before args s = true) (hface : (Cond.interfaceMethod x.cls x.cls x.name x.desc).before args s = true)
    (hsel : (Cond.selects C x y).before args s = true) (hinst : (Cond.instanceMethod y).before args s = true) (hpub : (Cond.publicMethod y).before args s = true) (hunh : (Cond.unhidden C x.name x.desc).before args s = true)
    (hcast : (Cond.castable C x.cls).before args s = true) (hcode : (Cond.code y bytes maxL ret).before args s = true) (hx : x.cls ≠ "java/lang/invoke/MethodHandle" ∧ x.cls ≠ "java/lang/invoke/VarHandle")
    {W9 : Nat} {Pre : Pt → Array Value → Prop} {Post : Pt → Array Value → Option Value → Pt → Prop} {PostX : Pt → Array Value → Addr → Pt → Prop} (hK : vx_Back l R p e below s args y 5 W9 Pre Post PostX)
    {b : Addr} {cellB : Cell} {kB : Class} (hcell : T.heap[b]? = some cellB) (hobj : cellB.vm.isStatics = false) (hcls : s.vm.findClass C = some cellB.cls) (hkB : s.vm.classes[cellB.cls]? = some kB)
    {g : JFrame} (hg : g.method = m) (hsize : g.locals.size = c.maxLocals) {argsL rest : List Value} (hlen : ∀ sig, parseMethodDescriptor x.desc = some sig → argsL.length = sig.parameters.length)
    (hstack : g.stack = argsL.reverse ++ .ref b :: rest) (hW : 2 * g.monitorRoom + (rest.map fun v => v.category).sum ≤ W9) (hdg : decode c.code g.pc = .ok (.invokeinterface index count, 5))
    (hpre : ∀ vm₁, s.WarmedH vm₁ → Pre ⟨T.setVm vm₁, locs, cells, slots⟩ (Value.ref b :: argsL).toArray) :
    (∃ (v : Option Value) (vm₁ : Vm) (B : Pt), s.WarmedH vm₁ ∧ Stand p l e R s m args below meth c B.U B.locs B.cells B.slots ∧ Post ⟨T.setVm vm₁, locs, cells, slots⟩ (Value.ref b :: argsL).toArray v B ∧
      ∀ target, Steps p.tables e below (B.U.setTop { g with pc := g.pc + 5, stack := v.toList ++ rest }) target → Steps p.tables e below (T.setTop g) target) ∨
    (∃ (q : Addr) (vm₁ : Vm) (B : Pt), s.WarmedH vm₁ ∧ Stand p l e R s m args below meth c B.U B.locs B.cells B.slots ∧ PostX ⟨T.setVm vm₁, locs, cells, slots⟩ (Value.ref b :: argsL).toArray q B ∧
      Steps p.tables e below (T.setTop g) ((B.U.setTop { g with stack := rest }).pushFrame (.throwing q))) := by
  obtain ⟨r0, r, hn, hrm, hstR, hsigR⟩ := Cond.declares_spec hdecl
  obtain ⟨cL, kL, r1, hcL, hkL, hiL, hfoundL, hn1⟩ := Cond.interfaceMethod_spec hface
  cases hn.symm.trans hn1
  have hr0cls : r0.cls = cL := Option.some.inj ((findClass_of_methodNamed hn).symm.trans hcL)
  obtain ⟨hnameR, hdescR⟩ := name_of_methodNamed hn hrm
  obtain ⟨mk, methM, hnamed, hmethM, -, habM⟩ := Cond.instanceMethod_spec hinst
  obtain ⟨c2, r2, m2, q1, q2, q3, q4, -⟩ := Cond.selects_spec hsel
  cases hcls.symm.trans q1
  cases hfoundL.symm.trans q2
  cases hnamed.symm.trans q3
  have hselP : selectMethod e.platform s.vm cellB.cls r0 = .method mk := by rw [Launch.admits_selectMethod X.admits]; exact q4
  have hpubM : hasFlag methM.accessFlags Acc.public_ = true := Cond.publicMethod_spec hnamed hmethM hpub
  have hway : ((cellB.cls :: s.vm.superclasses cellB.cls).any fun k => (declaredIn s.vm r.name r.desc k).any fun (_, z) => z.isPrivate || z.isStatic) = false := by
    rw [hnameR, hdescR]; exact Cond.unhidden_spec hcls hunh
  obtain ⟨c3, t3, w1, w2, w3⟩ := Cond.castable_spec hcast
  cases hcls.symm.trans w1
  cases hcL.symm.trans w2
  obtain ⟨vm₁, X₁, hstep₁⟩ := X.invokeinterface hexec hown hlink hn hrm hstR (by rw [hr0cls]; exact hkL) hiL hx (a := b) (cell := cellB) (kcell := kB) hcell
    (fun z h => by rw [h] at hobj; cases hobj) hkB (by rw [hr0cls]; exact w3) hselP hmethM hway hpubM habM (g := g) hg (argsL := argsL) (rest := rest) (hlen _ hsigR) hstack hdg
  rcases hK m meth c ⟨T.setVm vm₁, locs, cells, slots⟩ { g with stack := rest } (.invokeinterface index count) mk (Value.ref b :: argsL).toArray X₁ hg hsize hdg hW (X₁.named hnamed) (hpre vm₁ X₁.warmed) with ⟨v, B, X', hpost, hsteps⟩ | ⟨q, B, X', hpost, hsteps⟩
  · exact Or.inl ⟨v, vm₁, B, X₁.warmed, X', hpost, fun target h => hstep₁ _ fun acts => by rw [doInvoke_state]; exact hsteps.trans h⟩
  · exact Or.inr ⟨q, vm₁, B, X₁.warmed, X', hpost, hstep₁ _ fun acts => by rw [doInvoke_state]; exact hsteps⟩
theorem vx_runF {x y : MethodName} {bytes cc : ByteArray} {maxL nL mc ms n index count : Nat} {ret : Option FieldType} {ws : List Cond} {rm : Room} {Pc : Array Value → State → Prop} {Qc : Array Value → State → Outcome → State → Prop} {XC : String → State → State → Prop} {free : Addr → Prop} {Ts : List Cond} {own C : String} {cC : ClassId} {b : Addr} {As rest : List Value} {g : JFrame}
    (hat : ClassAt s C cC) (S : CallFix p m c cc nL s args Ts own) (hM : vx_Met l y ws rm Pc Qc XC mc ms free) (cw : va_CI R s args own C index x y bytes maxL ret ws rm mc ms n) (hp : PreV s H C b Pc As)
    (hg : g.method = m) (hn : As.length = n) (hsize : g.locals.size = nL) (hstack : g.stack = As.reverse ++ .ref b :: rest) (hW : 2 * g.monitorRoom + (rest.map fun v => v.category).sum ≤ 8) (hdg : decode cc g.pc = .ok (.invokeinterface index count, 5)) (hf : cells + mc ≤ R.cells ∧ slots + ms ≤ R.slots) :
    vx_Run5 p l e R s m args below meth c H locs cells slots mc ms g rest (Qc (Value.ref b :: As).toArray) XC free := by
  obtain ⟨hrc, hrs, hfr, hlo, hws, hcw⟩ := cw.back
  have hini := cw.init
  have hK : vx_Back l R p e below s args y 5 8 (PreOf R mc ms Pc) (PostOf Qc mc ms free) (vx_Post XC mc ms free) := vx_back (bytes := bytes) (maxL := maxL) (ret := ret) hM hp.1 hrc hrs hfr hlo hws hcw (fun a' U hW => word_at hW (Or.inl (by first | rfl | simp [Cond.onTables, Cond.keeps, Cond.steady])) hini)
  obtain ⟨hx, hb, hml, ho, -⟩ := S
  obtain ⟨-, ⟨cellB, hcB, hoB, hclB⟩, hPc⟩ := hp
  obtain ⟨hfc, kB, hkB, -⟩ := hat
  cases hfc.symm.trans hclB
  intro T hT X
  rcases vx_callIF X hx (C := C) (bytes := bytes) (maxL := maxL) (ret := ret) ho cw.link cw.decl cw.face cw.sel cw.inst cw.pub cw.unh cw.cast cw.code cw.notMH hK (by rw [hT]; exact hcB) hoB hclB hkB hg (hsize.trans hml.symm) (argsL := As) (rest := rest) (fun sig h => hn.trans (cw.len sig h)) hstack hW (by rw [hb]; exact hdg)
    (fun vm₁ hW₁ => ⟨hf.1, hf.2, hPc (T.setVm vm₁) hT hW₁⟩) with ⟨v, vm₁, ⟨U', l2, c2, s2⟩, hW₁, X', ⟨g', mk, t, L, e1, e2, hq, h1, hL, h2, h3⟩, st⟩ | ⟨q, vm₁, ⟨U', l2, c2, s2⟩, hW₁, X', ⟨g', mk, t, L, E, ce, e1, e2, hq, hce, hcv, hcl, h1, hL, h2, h3⟩, st⟩
  · dsimp only [Pt.U, Pt.locs, Pt.cells, Pt.slots] at X' e1 e2 h1 h2 h3 st
    subst h1; subst h2; subst h3
    exact Or.inl ⟨v, (T.setVm vm₁).calling g' mk (Value.ref b :: As).toArray, t, U', L, hT, X', hL, e1, e2, hq, st⟩
  · dsimp only [Pt.U, Pt.locs, Pt.cells, Pt.slots] at X' e1 e2 h1 h2 h3 st hcl
    subst h1; subst h2; subst h3
    exact Or.inr ⟨q, (T.setVm vm₁).calling g' mk (Value.ref b :: As).toArray, t, U', L, E, ce, hT, X', hL, e1, e2, hq, hce, hcv, vx_cls hW₁ hcl, st⟩
theorem vx_callFv {S SX : Type} {post : S → Prop} {px : SX → Prop} {B : S → State → Prop} {BX : String → SX → State → Prop} {AX : Nat → Prop} (hr : vx_Run5 p l e R s m args below meth c H locs cells slots mc ms (F0 m pc ls st0) rest (va_Qv post B A1 a) (vx_X px BX AX) free) (hS : va_S A0 H0 H locs) (hA : ∀ q, q < H.size → A1 q → A0 q) (hf : ∀ q, free q → A0 q) (hAX : ∀ q, q < H.size → AX q → A0 q)
    (kx : ∀ (E : String) (ce : Cell) (q9 : Addr) (u : SX) (t : State) (H1 : Heap) (locs1 : List Loc), t.heap = H1 → s.vm.Alike t.vm → px u → BX E u t → H.size ≤ H1.size → (∀ q : Nat, q < H.size → ¬ AX q → H1[q]? = H[q]?) → va_S A0 H0 H1 locs1 → H1[q9]? = some ce → ce.vm = .none → s.vm.findClass E = some ce.cls → vx_W p l e R s m args below meth c H1 locs1 (cells + mc) (slots + ms) Q (F0 m pc ls rest) q9)
    (kk : ∀ (u : S) (t : State) (H1 : Heap) (locs1 : List Loc), t.heap = H1 → s.vm.Alike t.vm → post u → B u t → H.size ≤ H1.size → (∀ q : Nat, q < H.size → ¬ A1 q → H1[q]? = H[q]?) → va_S A0 H0 H1 locs1 → W p l e R s m args below meth c H1 locs1 (cells + mc) (slots + ms) Q (F0 m (pc + 5) ls (rest))) : W p l e R s m args below meth c H locs cells slots Q (F0 m pc ls st0) := by
  intro T hT X
  rcases hr T hT X with ⟨v, st₀, t, T', L, h0, X', hL, e1, e2, ⟨⟨u, hv, hp, hb⟩, hF⟩, st⟩ | ⟨q, st₀, t, T', L, E, ce, h0, X', hL, e1, e2, ⟨u, hp, hb, hF⟩, hce, hcv, hcl, st⟩
  · cases hv
    obtain ⟨k1, k2, k3⟩ := vx_keep h0 e1 hS hA hf hL hF
    obtain ⟨t2, a1, b1⟩ := kk u t T'.heap (locs ++ L) e1.symm (by rw [← e2]; exact X'.warmed.alike) hp hb k1 k2 k3 T' rfl X'
    exact ⟨t2, st t2 a1, b1⟩
  · obtain ⟨k1, k2, k3⟩ := vx_keep h0 e1 hS hAX hf hL hF
    obtain ⟨t2, a1, b1⟩ := kx E ce q u t T'.heap (locs ++ L) e1.symm (by rw [← e2]; exact X'.warmed.alike) hp hb k1 k2 k3 (by rw [e1]; exact hce) hcv hcl T' rfl X'
    exact ⟨t2, st.trans a1, b1⟩
theorem vx_callFi {S SX : Type} {post : Int32 → S → Prop} {px : SX → Prop} {B : S → State → Prop} {BX : String → SX → State → Prop} {AX : Nat → Prop} (hr : vx_Run5 p l e R s m args below meth c H locs cells slots mc ms (F0 m pc ls st0) rest (va_Qi post B A1 a) (vx_X px BX AX) free) (hS : va_S A0 H0 H locs) (hA : ∀ q, q < H.size → A1 q → A0 q) (hf : ∀ q, free q → A0 q) (hAX : ∀ q, q < H.size → AX q → A0 q)
    (kx : ∀ (E : String) (ce : Cell) (q9 : Addr) (u : SX) (t : State) (H1 : Heap) (locs1 : List Loc), t.heap = H1 → s.vm.Alike t.vm → px u → BX E u t → H.size ≤ H1.size → (∀ q : Nat, q < H.size → ¬ AX q → H1[q]? = H[q]?) → va_S A0 H0 H1 locs1 → H1[q9]? = some ce → ce.vm = .none → s.vm.findClass E = some ce.cls → vx_W p l e R s m args below meth c H1 locs1 (cells + mc) (slots + ms) Q (F0 m pc ls rest) q9)
    (kk : ∀ (r : Int32) (u : S) (t : State) (H1 : Heap) (locs1 : List Loc), t.heap = H1 → s.vm.Alike t.vm → post r u → B u t → H.size ≤ H1.size → (∀ q : Nat, q < H.size → ¬ A1 q → H1[q]? = H[q]?) → va_S A0 H0 H1 locs1 → W p l e R s m args below meth c H1 locs1 (cells + mc) (slots + ms) Q (F0 m (pc + 5) ls (.int r :: rest))) : W p l e R s m args below meth c H locs cells slots Q (F0 m pc ls st0) := by
  intro T hT X
  rcases hr T hT X with ⟨v, st₀, t, T', L, h0, X', hL, e1, e2, ⟨⟨r, u, hv, hp, hb⟩, hF⟩, st⟩ | ⟨q, st₀, t, T', L, E, ce, h0, X', hL, e1, e2, ⟨u, hp, hb, hF⟩, hce, hcv, hcl, st⟩
  · cases hv
    obtain ⟨k1, k2, k3⟩ := vx_keep h0 e1 hS hA hf hL hF
    obtain ⟨t2, a1, b1⟩ := kk r u t T'.heap (locs ++ L) e1.symm (by rw [← e2]; exact X'.warmed.alike) hp hb k1 k2 k3 T' rfl X'
    exact ⟨t2, st t2 a1, b1⟩
  · obtain ⟨k1, k2, k3⟩ := vx_keep h0 e1 hS hAX hf hL hF
    obtain ⟨t2, a1, b1⟩ := kx E ce q u t T'.heap (locs ++ L) e1.symm (by rw [← e2]; exact X'.warmed.alike) hp hb k1 k2 k3 (by rw [e1]; exact hce) hcv hcl T' rfl X'
    exact ⟨t2, st.trans a1, b1⟩
theorem vx_callFl {S SX : Type} {post : Int64 → S → Prop} {px : SX → Prop} {B : S → State → Prop} {BX : String → SX → State → Prop} {AX : Nat → Prop} (hr : vx_Run5 p l e R s m args below meth c H locs cells slots mc ms (F0 m pc ls st0) rest (va_Ql post B A1 a) (vx_X px BX AX) free) (hS : va_S A0 H0 H locs) (hA : ∀ q, q < H.size → A1 q → A0 q) (hf : ∀ q, free q → A0 q) (hAX : ∀ q, q < H.size → AX q → A0 q)
    (kx : ∀ (E : String) (ce : Cell) (q9 : Addr) (u : SX) (t : State) (H1 : Heap) (locs1 : List Loc), t.heap = H1 → s.vm.Alike t.vm → px u → BX E u t → H.size ≤ H1.size → (∀ q : Nat, q < H.size → ¬ AX q → H1[q]? = H[q]?) → va_S A0 H0 H1 locs1 → H1[q9]? = some ce → ce.vm = .none → s.vm.findClass E = some ce.cls → vx_W p l e R s m args below meth c H1 locs1 (cells + mc) (slots + ms) Q (F0 m pc ls rest) q9)
    (kk : ∀ (r : Int64) (u : S) (t : State) (H1 : Heap) (locs1 : List Loc), t.heap = H1 → s.vm.Alike t.vm → post r u → B u t → H.size ≤ H1.size → (∀ q : Nat, q < H.size → ¬ A1 q → H1[q]? = H[q]?) → va_S A0 H0 H1 locs1 → W p l e R s m args below meth c H1 locs1 (cells + mc) (slots + ms) Q (F0 m (pc + 5) ls (.long r :: rest))) : W p l e R s m args below meth c H locs cells slots Q (F0 m pc ls st0) := by
  intro T hT X
  rcases hr T hT X with ⟨v, st₀, t, T', L, h0, X', hL, e1, e2, ⟨⟨r, u, hv, hp, hb⟩, hF⟩, st⟩ | ⟨q, st₀, t, T', L, E, ce, h0, X', hL, e1, e2, ⟨u, hp, hb, hF⟩, hce, hcv, hcl, st⟩
  · cases hv
    obtain ⟨k1, k2, k3⟩ := vx_keep h0 e1 hS hA hf hL hF
    obtain ⟨t2, a1, b1⟩ := kk r u t T'.heap (locs ++ L) e1.symm (by rw [← e2]; exact X'.warmed.alike) hp hb k1 k2 k3 T' rfl X'
    exact ⟨t2, st t2 a1, b1⟩
  · obtain ⟨k1, k2, k3⟩ := vx_keep h0 e1 hS hAX hf hL hF
    obtain ⟨t2, a1, b1⟩ := kx E ce q u t T'.heap (locs ++ L) e1.symm (by rw [← e2]; exact X'.warmed.alike) hp hb k1 k2 k3 (by rw [e1]; exact hce) hcv hcl T' rfl X'
    exact ⟨t2, st.trans a1, b1⟩
theorem vx_callFf {S SX : Type} {post : UInt32 → S → Prop} {px : SX → Prop} {B : S → State → Prop} {BX : String → SX → State → Prop} {AX : Nat → Prop} (hr : vx_Run5 p l e R s m args below meth c H locs cells slots mc ms (F0 m pc ls st0) rest (va_Qf post B A1 a) (vx_X px BX AX) free) (hS : va_S A0 H0 H locs) (hA : ∀ q, q < H.size → A1 q → A0 q) (hf : ∀ q, free q → A0 q) (hAX : ∀ q, q < H.size → AX q → A0 q)
    (kx : ∀ (E : String) (ce : Cell) (q9 : Addr) (u : SX) (t : State) (H1 : Heap) (locs1 : List Loc), t.heap = H1 → s.vm.Alike t.vm → px u → BX E u t → H.size ≤ H1.size → (∀ q : Nat, q < H.size → ¬ AX q → H1[q]? = H[q]?) → va_S A0 H0 H1 locs1 → H1[q9]? = some ce → ce.vm = .none → s.vm.findClass E = some ce.cls → vx_W p l e R s m args below meth c H1 locs1 (cells + mc) (slots + ms) Q (F0 m pc ls rest) q9)
    (kk : ∀ (r : UInt32) (u : S) (t : State) (H1 : Heap) (locs1 : List Loc), t.heap = H1 → s.vm.Alike t.vm → post r u → B u t → H.size ≤ H1.size → (∀ q : Nat, q < H.size → ¬ A1 q → H1[q]? = H[q]?) → va_S A0 H0 H1 locs1 → W p l e R s m args below meth c H1 locs1 (cells + mc) (slots + ms) Q (F0 m (pc + 5) ls (.float r :: rest))) : W p l e R s m args below meth c H locs cells slots Q (F0 m pc ls st0) := by
  intro T hT X
  rcases hr T hT X with ⟨v, st₀, t, T', L, h0, X', hL, e1, e2, ⟨⟨r, u, hv, hp, hb⟩, hF⟩, st⟩ | ⟨q, st₀, t, T', L, E, ce, h0, X', hL, e1, e2, ⟨u, hp, hb, hF⟩, hce, hcv, hcl, st⟩
  · cases hv
    obtain ⟨k1, k2, k3⟩ := vx_keep h0 e1 hS hA hf hL hF
    obtain ⟨t2, a1, b1⟩ := kk r u t T'.heap (locs ++ L) e1.symm (by rw [← e2]; exact X'.warmed.alike) hp hb k1 k2 k3 T' rfl X'
    exact ⟨t2, st t2 a1, b1⟩
  · obtain ⟨k1, k2, k3⟩ := vx_keep h0 e1 hS hAX hf hL hF
    obtain ⟨t2, a1, b1⟩ := kx E ce q u t T'.heap (locs ++ L) e1.symm (by rw [← e2]; exact X'.warmed.alike) hp hb k1 k2 k3 (by rw [e1]; exact hce) hcv hcl T' rfl X'
    exact ⟨t2, st.trans a1, b1⟩
theorem vx_callFd {S SX : Type} {post : UInt64 → S → Prop} {px : SX → Prop} {B : S → State → Prop} {BX : String → SX → State → Prop} {AX : Nat → Prop} (hr : vx_Run5 p l e R s m args below meth c H locs cells slots mc ms (F0 m pc ls st0) rest (va_Qd post B A1 a) (vx_X px BX AX) free) (hS : va_S A0 H0 H locs) (hA : ∀ q, q < H.size → A1 q → A0 q) (hf : ∀ q, free q → A0 q) (hAX : ∀ q, q < H.size → AX q → A0 q)
    (kx : ∀ (E : String) (ce : Cell) (q9 : Addr) (u : SX) (t : State) (H1 : Heap) (locs1 : List Loc), t.heap = H1 → s.vm.Alike t.vm → px u → BX E u t → H.size ≤ H1.size → (∀ q : Nat, q < H.size → ¬ AX q → H1[q]? = H[q]?) → va_S A0 H0 H1 locs1 → H1[q9]? = some ce → ce.vm = .none → s.vm.findClass E = some ce.cls → vx_W p l e R s m args below meth c H1 locs1 (cells + mc) (slots + ms) Q (F0 m pc ls rest) q9)
    (kk : ∀ (r : UInt64) (u : S) (t : State) (H1 : Heap) (locs1 : List Loc), t.heap = H1 → s.vm.Alike t.vm → post r u → B u t → H.size ≤ H1.size → (∀ q : Nat, q < H.size → ¬ A1 q → H1[q]? = H[q]?) → va_S A0 H0 H1 locs1 → W p l e R s m args below meth c H1 locs1 (cells + mc) (slots + ms) Q (F0 m (pc + 5) ls (.double r :: rest))) : W p l e R s m args below meth c H locs cells slots Q (F0 m pc ls st0) := by
  intro T hT X
  rcases hr T hT X with ⟨v, st₀, t, T', L, h0, X', hL, e1, e2, ⟨⟨r, u, hv, hp, hb⟩, hF⟩, st⟩ | ⟨q, st₀, t, T', L, E, ce, h0, X', hL, e1, e2, ⟨u, hp, hb, hF⟩, hce, hcv, hcl, st⟩
  · cases hv
    obtain ⟨k1, k2, k3⟩ := vx_keep h0 e1 hS hA hf hL hF
    obtain ⟨t2, a1, b1⟩ := kk r u t T'.heap (locs ++ L) e1.symm (by rw [← e2]; exact X'.warmed.alike) hp hb k1 k2 k3 T' rfl X'
    exact ⟨t2, st t2 a1, b1⟩
  · obtain ⟨k1, k2, k3⟩ := vx_keep h0 e1 hS hAX hf hL hF
    obtain ⟨t2, a1, b1⟩ := kx E ce q u t T'.heap (locs ++ L) e1.symm (by rw [← e2]; exact X'.warmed.alike) hp hb k1 k2 k3 (by rw [e1]; exact hce) hcv hcl T' rfl X'
    exact ⟨t2, st.trans a1, b1⟩
end
/-! ===== END ===== -/
/-! ===== BEGIN by an interface, a method with a table of its own that may throw (follows va_callIFW, va_runFW) ===== -/
section
variable {p : Program} {l : Launch} {e : Env} {R : Room} {s : State} {m : MethodId} {args : Array Value} {below : List Frame} {meth : Method} {c : Code} {H : Heap} {locs : List Loc} {cells slots : Nat}
theorem vx_callIFW {T : State} (X : Stand p l e R s m args below meth c T locs cells slots) (hexec : p.tables.exec = Jvm.exec) {own C : String} {index count : Nat} {x y : MethodName} {bytes : ByteArray} {maxL : Nat} {ret : Option FieldType} {hh : List (Nat × Nat × Nat × Nat)}
    (hown : s.vm.findClass own = some m.cls) (hlink : (Cond.methodLink own index x).before args s = true) (hdecl : (Cond.declares x).before args s = true) (hface : (Cond.interfaceMethod x.cls x.cls x.name x.desc).before args s = true)
    (hsel : (Cond.selects C x y).before args s = true) (hinst : (Cond.instanceMethod y).before args s = true) (hpub : (Cond.publicMethod y).before args s = true) (hunh : (Cond.unhidden C x.name x.desc).before args s = true)
    (hcast : (Cond.castable C x.cls).before args s = true) (hcode : (Cond.codeWith y bytes maxL ret hh).before args s = true) (hx : x.cls ≠ "java/lang/invoke/MethodHandle" ∧ x.cls ≠ "java/lang/invoke/VarHandle")
    {W : Nat} {Pre : Pt → Array Value → Prop} {Post : Pt → Array Value → Option Value → Pt → Prop} {PostX : Pt → Array Value → Addr → Pt → Prop} (hK : vx_Back l R p e below s args y 5 W Pre Post PostX)
    {b : Addr} {cellB : Cell} {kB : Class} (hcell : T.heap[b]? = some cellB) (hobj : cellB.vm.isStatics = false) (hcls : s.vm.findClass C = some cellB.cls) (hkB : s.vm.classes[cellB.cls]? = some kB)
    {g : JFrame} (hg : g.method = m) (hsize : g.locals.size = c.maxLocals) {argsL rest : List Value} (hlen : ∀ sig, parseMethodDescriptor x.desc = some sig → argsL.length = sig.parameters.length)
    (hstack : g.stack = argsL.reverse ++ .ref b :: rest) (hW : 2 * g.monitorRoom + (rest.map fun v => v.category).sum ≤ W) (hdg : decode c.code g.pc = .ok (.invokeinterface index count, 5))
    (hpre : ∀ vm₁, s.WarmedH vm₁ → Pre ⟨T.setVm vm₁, locs, cells, slots⟩ (Value.ref b :: argsL).toArray) :
    (∃ (v : Option Value) (vm₁ : Vm) (B : Pt), s.WarmedH vm₁ ∧ Stand p l e R s m args below meth c B.U B.locs B.cells B.slots ∧ Post ⟨T.setVm vm₁, locs, cells, slots⟩ (Value.ref b :: argsL).toArray v B ∧
      ∀ target, Steps p.tables e below (B.U.setTop { g with pc := g.pc + 5, stack := v.toList ++ rest }) target → Steps p.tables e below (T.setTop g) target) ∨
    (∃ (q : Addr) (vm₁ : Vm) (B : Pt), s.WarmedH vm₁ ∧ Stand p l e R s m args below meth c B.U B.locs B.cells B.slots ∧ PostX ⟨T.setVm vm₁, locs, cells, slots⟩ (Value.ref b :: argsL).toArray q B ∧
      Steps p.tables e below (T.setTop g) ((B.U.setTop { g with stack := rest }).pushFrame (.throwing q))) := by
  obtain ⟨r0, r, hn, hrm, hstR, hsigR⟩ := Cond.declares_spec hdecl
  obtain ⟨cL, kL, r1, hcL, hkL, hiL, hfoundL, hn1⟩ := Cond.interfaceMethod_spec hface
  cases hn.symm.trans hn1
  have hr0cls : r0.cls = cL := Option.some.inj ((findClass_of_methodNamed hn).symm.trans hcL)
  obtain ⟨hnameR, hdescR⟩ := name_of_methodNamed hn hrm
  obtain ⟨mk, methM, hnamed, hmethM, -, habM⟩ := Cond.instanceMethod_spec hinst
  obtain ⟨c2, r2, m2, q1, q2, q3, q4, -⟩ := Cond.selects_spec hsel
  cases hcls.symm.trans q1
  cases hfoundL.symm.trans q2
  cases hnamed.symm.trans q3
  have hselP : selectMethod e.platform s.vm cellB.cls r0 = .method mk := by rw [Launch.admits_selectMethod X.admits]; exact q4
  have hpubM : hasFlag methM.accessFlags Acc.public_ = true := Cond.publicMethod_spec hnamed hmethM hpub
  have hway : ((cellB.cls :: s.vm.superclasses cellB.cls).any fun k => (declaredIn s.vm r.name r.desc k).any fun (_, z) => z.isPrivate || z.isStatic) = false := by
    rw [hnameR, hdescR]; exact Cond.unhidden_spec hcls hunh
  obtain ⟨c3, t3, w1, w2, w3⟩ := Cond.castable_spec hcast
  cases hcls.symm.trans w1
  cases hcL.symm.trans w2
  obtain ⟨vm₁, X₁, hstep₁⟩ := X.invokeinterface hexec hown hlink hn hrm hstR (by rw [hr0cls]; exact hkL) hiL hx (a := b) (cell := cellB) (kcell := kB) hcell
    (fun z h => by rw [h] at hobj; cases hobj) hkB (by rw [hr0cls]; exact w3) hselP hmethM hway hpubM habM (g := g) hg (argsL := argsL) (rest := rest) (hlen _ hsigR) hstack hdg
  rcases hK m meth c ⟨T.setVm vm₁, locs, cells, slots⟩ { g with stack := rest } (.invokeinterface index count) mk (Value.ref b :: argsL).toArray X₁ hg hsize hdg hW (X₁.named hnamed) (hpre vm₁ X₁.warmed) with ⟨v, B, X', hpost, hsteps⟩ | ⟨q, B, X', hpost, hsteps⟩
  · exact Or.inl ⟨v, vm₁, B, X₁.warmed, X', hpost, fun target h => hstep₁ _ fun acts => by rw [doInvoke_state]; exact hsteps.trans h⟩
  · exact Or.inr ⟨q, vm₁, B, X₁.warmed, X', hpost, hstep₁ _ fun acts => by rw [doInvoke_state]; exact hsteps⟩
theorem vx_runFW {x y : MethodName} {bytes cc : ByteArray} {maxL nL mc ms n index count : Nat} {ret : Option FieldType} {hh : List (Nat × Nat × Nat × Nat)} {ws : List Cond} {rm : Room} {Pc : Array Value → State → Prop} {Qc : Array Value → State → Outcome → State → Prop} {XC : String → State → State → Prop} {free : Addr → Prop} {Ts : List Cond} {own C : String} {cC : ClassId} {b : Addr} {As rest : List Value} {g : JFrame}
    (hat : ClassAt s C cC) (S : CallFix p m c cc nL s args Ts own) (hM : vx_Met l y ws rm Pc Qc XC mc ms free) (cw : va_CIW R s args own C index x y bytes maxL ret hh ws rm mc ms n) (hp : PreV s H C b Pc As)
    (hg : g.method = m) (hn : As.length = n) (hsize : g.locals.size = nL) (hstack : g.stack = As.reverse ++ .ref b :: rest) (hW : 2 * g.monitorRoom + (rest.map fun v => v.category).sum ≤ 8) (hdg : decode cc g.pc = .ok (.invokeinterface index count, 5)) (hf : cells + mc ≤ R.cells ∧ slots + ms ≤ R.slots) :
    vx_Run5 p l e R s m args below meth c H locs cells slots mc ms g rest (Qc (Value.ref b :: As).toArray) XC free := by
  obtain ⟨hrc, hrs, hfr, hlo, hws, hcw⟩ := cw.back
  have hini := cw.init
  have hK : vx_Back l R p e below s args y 5 8 (PreOf R mc ms Pc) (PostOf Qc mc ms free) (vx_Post XC mc ms free) := vx_backW (hh := hh) (bytes := bytes) (maxL := maxL) (ret := ret) hM hp.1 hrc hrs hfr hlo hws hcw (fun a' U hW => word_at hW (Or.inl (by first | rfl | simp [Cond.onTables, Cond.keeps, Cond.steady])) hini)
  obtain ⟨hx, hb, hml, ho, -⟩ := S
  obtain ⟨-, ⟨cellB, hcB, hoB, hclB⟩, hPc⟩ := hp
  obtain ⟨hfc, kB, hkB, -⟩ := hat
  cases hfc.symm.trans hclB
  intro T hT X
  rcases vx_callIFW X hx (C := C) (hh := hh) (bytes := bytes) (maxL := maxL) (ret := ret) ho cw.link cw.decl cw.face cw.sel cw.inst cw.pub cw.unh cw.cast cw.code cw.notMH hK (by rw [hT]; exact hcB) hoB hclB hkB hg (hsize.trans hml.symm) (argsL := As) (rest := rest) (fun sig h => hn.trans (cw.len sig h)) hstack hW (by rw [hb]; exact hdg)
    (fun vm₁ hW₁ => ⟨hf.1, hf.2, hPc (T.setVm vm₁) hT hW₁⟩) with ⟨v, vm₁, ⟨U', l2, c2, s2⟩, hW₁, X', ⟨g', mk, t, L, e1, e2, hq, h1, hL, h2, h3⟩, st⟩ | ⟨q, vm₁, ⟨U', l2, c2, s2⟩, hW₁, X', ⟨g', mk, t, L, E, ce, e1, e2, hq, hce, hcv, hcl, h1, hL, h2, h3⟩, st⟩
  · dsimp only [Pt.U, Pt.locs, Pt.cells, Pt.slots] at X' e1 e2 h1 h2 h3 st
    subst h1; subst h2; subst h3
    exact Or.inl ⟨v, (T.setVm vm₁).calling g' mk (Value.ref b :: As).toArray, t, U', L, hT, X', hL, e1, e2, hq, st⟩
  · dsimp only [Pt.U, Pt.locs, Pt.cells, Pt.slots] at X' e1 e2 h1 h2 h3 st hcl
    subst h1; subst h2; subst h3
    exact Or.inr ⟨q, (T.setVm vm₁).calling g' mk (Value.ref b :: As).toArray, t, U', L, E, ce, hT, X', hL, e1, e2, hq, hce, hcv, vx_cls hW₁ hcl, st⟩
end
/-! ===== END ===== -/
/-! ===== BEGIN .. of methods that hand back an object of the pool ===== -/
section
variable {p : Program} {l : Launch} {e : Env} {R : Room} {s : State} {m : MethodId} {args : Array Value} {below : List Frame} {meth : Method} {c : Code} {H : Heap} {locs : List Loc} {cells slots : Nat} {Q : State → Prop}
variable {mc ms : Nat} {free : Addr → Prop} {A0 A1 : Nat → Prop} {H0 : Heap} {a : Array Value} {pc : Nat} {ls : Array Slot} {st0 rest : List Value}
theorem vx_callq {S SX : Type} {post : Option Nat → S → Prop} {px : SX → Prop} {B : S → State → Prop} {BX : String → SX → State → Prop} {AX : Nat → Prop} (hr : vx_Run p l e R s m args below meth c H locs cells slots mc ms (F0 m pc ls st0) rest (va_Qq post B A1 a) (vx_X px BX AX) free) (hS : va_S A0 H0 H locs) (hA : ∀ q, q < H.size → A1 q → A0 q) (hf : ∀ q, free q → A0 q) (hAX : ∀ q, q < H.size → AX q → A0 q)
    (kx : ∀ (E : String) (ce : Cell) (q9 : Addr) (u : SX) (t : State) (H1 : Heap) (locs1 : List Loc), t.heap = H1 → s.vm.Alike t.vm → px u → BX E u t → H.size ≤ H1.size → (∀ q : Nat, q < H.size → ¬ AX q → H1[q]? = H[q]?) → va_S A0 H0 H1 locs1 → H1[q9]? = some ce → ce.vm = .none → s.vm.findClass E = some ce.cls → vx_W p l e R s m args below meth c H1 locs1 (cells + mc) (slots + ms) Q (F0 m pc ls rest) q9)
    (kk : ∀ (r : Option Nat) (u : S) (t : State) (H1 : Heap) (locs1 : List Loc), t.heap = H1 → s.vm.Alike t.vm → post r u → B u t → H.size ≤ H1.size → (∀ q : Nat, q < H.size → ¬ A1 q → H1[q]? = H[q]?) → va_S A0 H0 H1 locs1 → W p l e R s m args below meth c H1 locs1 (cells + mc) (slots + ms) Q (F0 m (pc + 3) ls (va_rf r :: rest))) : W p l e R s m args below meth c H locs cells slots Q (F0 m pc ls st0) := by
  intro T hT X
  rcases hr T hT X with ⟨v, st₀, t, T', L, h0, X', hL, e1, e2, ⟨⟨r, u, hv, hp, hb⟩, hF⟩, st⟩ | ⟨q, st₀, t, T', L, E, ce, h0, X', hL, e1, e2, ⟨u, hp, hb, hF⟩, hce, hcv, hcl, st⟩
  · cases hv
    obtain ⟨k1, k2, k3⟩ := vx_keep h0 e1 hS hA hf hL hF
    obtain ⟨t2, a1, b1⟩ := kk r u t T'.heap (locs ++ L) e1.symm (by rw [← e2]; exact X'.warmed.alike) hp hb k1 k2 k3 T' rfl X'
    exact ⟨t2, st t2 a1, b1⟩
  · obtain ⟨k1, k2, k3⟩ := vx_keep h0 e1 hS hAX hf hL hF
    obtain ⟨t2, a1, b1⟩ := kx E ce q u t T'.heap (locs ++ L) e1.symm (by rw [← e2]; exact X'.warmed.alike) hp hb k1 k2 k3 (by rw [e1]; exact hce) hcv hcl T' rfl X'
    exact ⟨t2, st.trans a1, b1⟩
end
/-! ===== END ===== -/
/-! ===== BEGIN .. a constant ===== -/
section
variable {p : Program} {l : Launch} {e : Env} {R : Room} {s : State} {m : MethodId} {args : Array Value} {below : List Frame} {meth : Method} {c : Code} {H : Heap} {locs : List Loc} {cells slots : Nat} {Q : State → Prop}
variable {mc ms : Nat} {free : Addr → Prop} {A0 A1 : Nat → Prop} {H0 : Heap} {a : Array Value} {pc : Nat} {ls : Array Slot} {st0 rest : List Value}
theorem vx_calle {ad : Nat → Nat} {S SX : Type} {post : Option Nat → S → Prop} {px : SX → Prop} {B : S → State → Prop} {BX : String → SX → State → Prop} {AX : Nat → Prop} (hr : vx_Run p l e R s m args below meth c H locs cells slots mc ms (F0 m pc ls st0) rest (va_Qe ad post B A1 a) (vx_X px BX AX) free) (hS : va_S A0 H0 H locs) (hA : ∀ q, q < H.size → A1 q → A0 q) (hf : ∀ q, free q → A0 q) (hAX : ∀ q, q < H.size → AX q → A0 q)
    (kx : ∀ (E : String) (ce : Cell) (q9 : Addr) (u : SX) (t : State) (H1 : Heap) (locs1 : List Loc), t.heap = H1 → s.vm.Alike t.vm → px u → BX E u t → H.size ≤ H1.size → (∀ q : Nat, q < H.size → ¬ AX q → H1[q]? = H[q]?) → va_S A0 H0 H1 locs1 → H1[q9]? = some ce → ce.vm = .none → s.vm.findClass E = some ce.cls → vx_W p l e R s m args below meth c H1 locs1 (cells + mc) (slots + ms) Q (F0 m pc ls rest) q9)
    (kk : ∀ (r : Option Nat) (u : S) (t : State) (H1 : Heap) (locs1 : List Loc), t.heap = H1 → s.vm.Alike t.vm → post r u → B u t → H.size ≤ H1.size → (∀ q : Nat, q < H.size → ¬ A1 q → H1[q]? = H[q]?) → va_S A0 H0 H1 locs1 → W p l e R s m args below meth c H1 locs1 (cells + mc) (slots + ms) Q (F0 m (pc + 3) ls (va_re ad r :: rest))) : W p l e R s m args below meth c H locs cells slots Q (F0 m pc ls st0) := by
  intro T hT X
  rcases hr T hT X with ⟨v, st₀, t, T', L, h0, X', hL, e1, e2, ⟨⟨r, u, hv, hp, hb⟩, hF⟩, st⟩ | ⟨q, st₀, t, T', L, E, ce, h0, X', hL, e1, e2, ⟨u, hp, hb, hF⟩, hce, hcv, hcl, st⟩
  · cases hv
    obtain ⟨k1, k2, k3⟩ := vx_keep h0 e1 hS hA hf hL hF
    obtain ⟨t2, a1, b1⟩ := kk r u t T'.heap (locs ++ L) e1.symm (by rw [← e2]; exact X'.warmed.alike) hp hb k1 k2 k3 T' rfl X'
    exact ⟨t2, st t2 a1, b1⟩
  · obtain ⟨k1, k2, k3⟩ := vx_keep h0 e1 hS hAX hf hL hF
    obtain ⟨t2, a1, b1⟩ := kx E ce q u t T'.heap (locs ++ L) e1.symm (by rw [← e2]; exact X'.warmed.alike) hp hb k1 k2 k3 (by rw [e1]; exact hce) hcv hcl T' rfl X'
    exact ⟨t2, st.trans a1, b1⟩
end
/-! ===== END ===== -/
/-! ===== BEGIN .. by an interface, an object ===== -/
section
variable {p : Program} {l : Launch} {e : Env} {R : Room} {s : State} {m : MethodId} {args : Array Value} {below : List Frame} {meth : Method} {c : Code} {H : Heap} {locs : List Loc} {cells slots : Nat} {Q : State → Prop}
variable {mc ms : Nat} {free : Addr → Prop} {A0 A1 : Nat → Prop} {H0 : Heap} {a : Array Value} {pc : Nat} {ls : Array Slot} {st0 rest : List Value}
theorem vx_callFq {S SX : Type} {post : Option Nat → S → Prop} {px : SX → Prop} {B : S → State → Prop} {BX : String → SX → State → Prop} {AX : Nat → Prop} (hr : vx_Run5 p l e R s m args below meth c H locs cells slots mc ms (F0 m pc ls st0) rest (va_Qq post B A1 a) (vx_X px BX AX) free) (hS : va_S A0 H0 H locs) (hA : ∀ q, q < H.size → A1 q → A0 q) (hf : ∀ q, free q → A0 q) (hAX : ∀ q, q < H.size → AX q → A0 q)
    (kx : ∀ (E : String) (ce : Cell) (q9 : Addr) (u : SX) (t : State) (H1 : Heap) (locs1 : List Loc), t.heap = H1 → s.vm.Alike t.vm → px u → BX E u t → H.size ≤ H1.size → (∀ q : Nat, q < H.size → ¬ AX q → H1[q]? = H[q]?) → va_S A0 H0 H1 locs1 → H1[q9]? = some ce → ce.vm = .none → s.vm.findClass E = some ce.cls → vx_W p l e R s m args below meth c H1 locs1 (cells + mc) (slots + ms) Q (F0 m pc ls rest) q9)
    (kk : ∀ (r : Option Nat) (u : S) (t : State) (H1 : Heap) (locs1 : List Loc), t.heap = H1 → s.vm.Alike t.vm → post r u → B u t → H.size ≤ H1.size → (∀ q : Nat, q < H.size → ¬ A1 q → H1[q]? = H[q]?) → va_S A0 H0 H1 locs1 → W p l e R s m args below meth c H1 locs1 (cells + mc) (slots + ms) Q (F0 m (pc + 5) ls (va_rf r :: rest))) : W p l e R s m args below meth c H locs cells slots Q (F0 m pc ls st0) := by
  intro T hT X
  rcases hr T hT X with ⟨v, st₀, t, T', L, h0, X', hL, e1, e2, ⟨⟨r, u, hv, hp, hb⟩, hF⟩, st⟩ | ⟨q, st₀, t, T', L, E, ce, h0, X', hL, e1, e2, ⟨u, hp, hb, hF⟩, hce, hcv, hcl, st⟩
  · cases hv
    obtain ⟨k1, k2, k3⟩ := vx_keep h0 e1 hS hA hf hL hF
    obtain ⟨t2, a1, b1⟩ := kk r u t T'.heap (locs ++ L) e1.symm (by rw [← e2]; exact X'.warmed.alike) hp hb k1 k2 k3 T' rfl X'
    exact ⟨t2, st t2 a1, b1⟩
  · obtain ⟨k1, k2, k3⟩ := vx_keep h0 e1 hS hAX hf hL hF
    obtain ⟨t2, a1, b1⟩ := kx E ce q u t T'.heap (locs ++ L) e1.symm (by rw [← e2]; exact X'.warmed.alike) hp hb k1 k2 k3 (by rw [e1]; exact hce) hcv hcl T' rfl X'
    exact ⟨t2, st.trans a1, b1⟩
end
/-! ===== END ===== -/
/-! ===== BEGIN .. by an interface, a constant ===== -/
section
variable {p : Program} {l : Launch} {e : Env} {R : Room} {s : State} {m : MethodId} {args : Array Value} {below : List Frame} {meth : Method} {c : Code} {H : Heap} {locs : List Loc} {cells slots : Nat} {Q : State → Prop}
variable {mc ms : Nat} {free : Addr → Prop} {A0 A1 : Nat → Prop} {H0 : Heap} {a : Array Value} {pc : Nat} {ls : Array Slot} {st0 rest : List Value}
theorem vx_callFe {ad : Nat → Nat} {S SX : Type} {post : Option Nat → S → Prop} {px : SX → Prop} {B : S → State → Prop} {BX : String → SX → State → Prop} {AX : Nat → Prop} (hr : vx_Run5 p l e R s m args below meth c H locs cells slots mc ms (F0 m pc ls st0) rest (va_Qe ad post B A1 a) (vx_X px BX AX) free) (hS : va_S A0 H0 H locs) (hA : ∀ q, q < H.size → A1 q → A0 q) (hf : ∀ q, free q → A0 q) (hAX : ∀ q, q < H.size → AX q → A0 q)
    (kx : ∀ (E : String) (ce : Cell) (q9 : Addr) (u : SX) (t : State) (H1 : Heap) (locs1 : List Loc), t.heap = H1 → s.vm.Alike t.vm → px u → BX E u t → H.size ≤ H1.size → (∀ q : Nat, q < H.size → ¬ AX q → H1[q]? = H[q]?) → va_S A0 H0 H1 locs1 → H1[q9]? = some ce → ce.vm = .none → s.vm.findClass E = some ce.cls → vx_W p l e R s m args below meth c H1 locs1 (cells + mc) (slots + ms) Q (F0 m pc ls rest) q9)
    (kk : ∀ (r : Option Nat) (u : S) (t : State) (H1 : Heap) (locs1 : List Loc), t.heap = H1 → s.vm.Alike t.vm → post r u → B u t → H.size ≤ H1.size → (∀ q : Nat, q < H.size → ¬ A1 q → H1[q]? = H[q]?) → va_S A0 H0 H1 locs1 → W p l e R s m args below meth c H1 locs1 (cells + mc) (slots + ms) Q (F0 m (pc + 5) ls (va_re ad r :: rest))) : W p l e R s m args below meth c H locs cells slots Q (F0 m pc ls st0) := by
  intro T hT X
  rcases hr T hT X with ⟨v, st₀, t, T', L, h0, X', hL, e1, e2, ⟨⟨r, u, hv, hp, hb⟩, hF⟩, st⟩ | ⟨q, st₀, t, T', L, E, ce, h0, X', hL, e1, e2, ⟨u, hp, hb, hF⟩, hce, hcv, hcl, st⟩
  · cases hv
    obtain ⟨k1, k2, k3⟩ := vx_keep h0 e1 hS hA hf hL hF
    obtain ⟨t2, a1, b1⟩ := kk r u t T'.heap (locs ++ L) e1.symm (by rw [← e2]; exact X'.warmed.alike) hp hb k1 k2 k3 T' rfl X'
    exact ⟨t2, st t2 a1, b1⟩
  · obtain ⟨k1, k2, k3⟩ := vx_keep h0 e1 hS hAX hf hL hF
    obtain ⟨t2, a1, b1⟩ := kx E ce q u t T'.heap (locs ++ L) e1.symm (by rw [← e2]; exact X'.warmed.alike) hp hb k1 k2 k3 (by rw [e1]; exact hce) hcv hcl T' rfl X'
    exact ⟨t2, st.trans a1, b1⟩
end
/-! ===== END ===== -/
/-! ===== BEGIN what the machine throws by itself: null at a field, at athrow ===== -/
section VXM2
variable {p : Program} {l : Launch} {e : Env} {R : Room} {s : State} {m : MethodId} {args : Array Value} {below : List Frame} {meth : Method} {c : Code} {H : Heap} {locs : List Loc} {cells slots : Nat}
variable {Q : State → Prop} {cc : ByteArray} {pc : Nat} {ls : Array Slot} {rest : List Value}
theorem vx_getfN {D cl tys} {own ref C : String} {T : u_T} {N ci index : Nat} {Ts : List Cond} (hexec : p.tables.exec = Jvm.exec) (hb : c.code = cc) (hts : ∀ w ∈ Ts, w.before args s = true) (hin : ∀ w ∈ u_ws C T N, w ∈ Ts) (hown : s.vm.findClass own = some m.cls) (hK : va_K D cl tys s) (hc : cl[ci]? = some (C, T, N)) (k : Nat) (hk : k < N) (hlink : (Cond.fieldLink own index ref (T k).2.1 (T k).2.2.1).before args s = true) (hsame : ∀ x, s.fieldFound? (T k).1 (T k).2.1 (T k).2.2.1 = some x → s.fieldFound? ref (T k).2.1 (T k).2.2.1 = some x) (hdg : decode cc pc = .ok (.getfield index, 3)) (kk : vx_NoteN p l e R s m args below meth c H locs cells slots Q (F0 m pc ls rest)) : W p l e R s m args below meth c H locs cells slots Q (F0 m pc ls (.null :: rest)) := by
  obtain ⟨hS, hfc, kC, hkC, -⟩ := hK.1 ci _ hc
  obtain ⟨cf, kf, fi, f, hi, -⟩ := hS k hk
  intro U hU X
  obtain ⟨vm', X1, st1⟩ := X.getfieldNull hexec hown hlink (hsame _ hi) (u_facts hfc hkC (u_lays hts hin hk) hi).1 (g := F0 m pc ls (.null :: rest)) rfl (rest := rest) rfl (by rw [hb]; exact hdg)
  obtain ⟨t, st, q⟩ := kk (U.setVm vm') hU X1
  exact ⟨t, st1 t st, q⟩
theorem vx_getfNN {D cl tys} {own ref C host : String} {T : u_T} {N ci index : Nat} {Ts : List Cond} (hexec : p.tables.exec = Jvm.exec) (hb : c.code = cc) (hts : ∀ w ∈ Ts, w.before args s = true) (hin : ∀ w ∈ u_ws C T N, w ∈ Ts) (hown : s.vm.findClass own = some m.cls) (hK : va_K D cl tys s) (hc : cl[ci]? = some (C, T, N)) (k : Nat) (hk : k < N) (hlink : (Cond.fieldLinkNest own index ref (T k).2.1 (T k).2.2.1 host).before args s = true) (hsame : ∀ x, s.fieldFound? (T k).1 (T k).2.1 (T k).2.2.1 = some x → s.fieldFound? ref (T k).2.1 (T k).2.2.1 = some x) (hdg : decode cc pc = .ok (.getfield index, 3)) (kk : vx_NoteN p l e R s m args below meth c H locs cells slots Q (F0 m pc ls rest)) : W p l e R s m args below meth c H locs cells slots Q (F0 m pc ls (.null :: rest)) := by
  obtain ⟨hS, hfc, kC, hkC, -⟩ := hK.1 ci _ hc
  obtain ⟨cf, kf, fi, f, hi, -⟩ := hS k hk
  intro U hU X
  obtain ⟨vm', X1, st1⟩ := X.getfieldNullNest hexec hown hlink (hsame _ hi) (u_facts hfc hkC (u_lays hts hin hk) hi).1 (g := F0 m pc ls (.null :: rest)) rfl (rest := rest) rfl (by rw [hb]; exact hdg)
  obtain ⟨t, st, q⟩ := kk (U.setVm vm') hU X1
  exact ⟨t, st1 t st, q⟩
theorem vx_putfN {D cl tys} {own ref C : String} {T : u_T} {N ci index : Nat} {Ts : List Cond} (hexec : p.tables.exec = Jvm.exec) (hb : c.code = cc) (hts : ∀ w ∈ Ts, w.before args s = true) (hin : ∀ w ∈ u_ws C T N, w ∈ Ts) (hown : s.vm.findClass own = some m.cls) (hK : va_K D cl tys s) (hc : cl[ci]? = some (C, T, N)) (k : Nat) (hk : k < N) (hlink : (Cond.fieldLink own index ref (T k).2.1 (T k).2.2.1).before args s = true) (hsame : ∀ x, s.fieldFound? (T k).1 (T k).2.1 (T k).2.2.1 = some x → s.fieldFound? ref (T k).2.1 (T k).2.2.1 = some x) (hfin : (T k).2.2.2 = false) {v : Value} (hdg : decode cc pc = .ok (.putfield index, 3)) (kk : vx_NoteN p l e R s m args below meth c H locs cells slots Q (F0 m pc ls rest)) : W p l e R s m args below meth c H locs cells slots Q (F0 m pc ls (v :: .null :: rest)) := by
  obtain ⟨hS, hfc, kC, hkC, -⟩ := hK.1 ci _ hc
  obtain ⟨cf, kf, fi, f, hi, -⟩ := hS k hk
  have hlay := hts _ (hin _ (u_in_lay hk))
  unfold u_lay at hlay
  rw [if_neg (by rw [hfin]; decide)] at hlay
  obtain ⟨c9, k9, cf9, kf9, fi9, f9, -, -, hi9, hst9, hnf9, -⟩ := Cond.lays_spec hlay
  cases hi.symm.trans hi9
  intro U hU X
  obtain ⟨vm', X1, st1⟩ := X.putfieldNull hexec hown hlink (hsame _ hi) hst9 hnf9 (g := F0 m pc ls (v :: .null :: rest)) rfl (v := v) (rest := rest) rfl (by rw [hb]; exact hdg)
  obtain ⟨t, st, q⟩ := kk (U.setVm vm') hU X1
  exact ⟨t, st1 t st, q⟩
theorem vx_putfNN {D cl tys} {own ref C host : String} {T : u_T} {N ci index : Nat} {Ts : List Cond} (hexec : p.tables.exec = Jvm.exec) (hb : c.code = cc) (hts : ∀ w ∈ Ts, w.before args s = true) (hin : ∀ w ∈ u_ws C T N, w ∈ Ts) (hown : s.vm.findClass own = some m.cls) (hK : va_K D cl tys s) (hc : cl[ci]? = some (C, T, N)) (k : Nat) (hk : k < N) (hlink : (Cond.fieldLinkNest own index ref (T k).2.1 (T k).2.2.1 host).before args s = true) (hsame : ∀ x, s.fieldFound? (T k).1 (T k).2.1 (T k).2.2.1 = some x → s.fieldFound? ref (T k).2.1 (T k).2.2.1 = some x) (hfin : (T k).2.2.2 = false) {v : Value} (hdg : decode cc pc = .ok (.putfield index, 3)) (kk : vx_NoteN p l e R s m args below meth c H locs cells slots Q (F0 m pc ls rest)) : W p l e R s m args below meth c H locs cells slots Q (F0 m pc ls (v :: .null :: rest)) := by
  obtain ⟨hS, hfc, kC, hkC, -⟩ := hK.1 ci _ hc
  obtain ⟨cf, kf, fi, f, hi, -⟩ := hS k hk
  have hlay := hts _ (hin _ (u_in_lay hk))
  unfold u_lay at hlay
  rw [if_neg (by rw [hfin]; decide)] at hlay
  obtain ⟨c9, k9, cf9, kf9, fi9, f9, -, -, hi9, hst9, hnf9, -⟩ := Cond.lays_spec hlay
  cases hi.symm.trans hi9
  intro U hU X
  obtain ⟨vm', X1, st1⟩ := X.putfieldNullNest hexec hown hlink (hsame _ hi) hst9 hnf9 (g := F0 m pc ls (v :: .null :: rest)) rfl (v := v) (rest := rest) rfl (by rw [hb]; exact hdg)
  obtain ⟨t, st, q⟩ := kk (U.setVm vm') hU X1
  exact ⟨t, st1 t st, q⟩
theorem vx_athrowN (hexec : p.tables.exec = Jvm.exec) (hb : c.code = cc) (hdg : decode cc pc = .ok (.athrow, 1)) (k : vx_NoteN p l e R s m args below meth c H locs cells slots Q (F0 m pc ls rest)) : W p l e R s m args below meth c H locs cells slots Q (F0 m pc ls (.null :: rest)) := by
  intro T hT X
  obtain ⟨t, st, q⟩ := k T hT X
  exact ⟨t, X.athrowNull hexec (g := F0 m pc ls (.null :: rest)) rfl (rest := rest) rfl (by rw [hb]; exact hdg) t st, q⟩
end VXM2
/-! ===== END ===== -/
end
section
/-! ===== THE SMALL MACHINE: values, worlds, operations as functions; what it means that one is right ===== -/
/-- the component types of the arrays, by their tags -/
def kTy : Nat → FieldType := fun k => match k with
  | 100 => .int
  | 101 => .long
  | 102 => .double
  | 103 => .boolean
  | 104 => .array .int
  | 105 => .object "Bijectory$Chart"
  | 106 => .object "Bijectory$Walker"
  | 107 => .object "Bijectory$Claim"
  | 108 => .object "Bijectory$Realm"
  | _ => .object "java/lang/Object"
abbrev kCel : Type := Nat × List Value
abbrev kHS : Type := List kCel × Nat × Nat
abbrev kFS : Type := List (Nat × Value) × List Value × kHS
abbrev kRes : Type := (Option Value ⊕ Nat) × kHS
abbrev kOp : Type := kFS → Option ((Nat × kFS) ⊕ kRes)
abbrev kE : Type := List vw_C × (Nat → ClassId) × (Nat → Nat → Nat) × Nat × List (List Int32)
/-- a value by the addresses α -/
def kv (α : List Nat) : Value → Option Value
  | .ref k => (α[k]?).map Value.ref
  | v => some v
theorem kv_ref {α : List Nat} {k a : Nat} (h : α[k]? = some a) : kv α (.ref k) = some (.ref a) := by simp [kv, h]
theorem kv_refI {α : List Nat} {k : Nat} {w : Value} (h : kv α (.ref k) = some w) : ∃ a, α[k]? = some a ∧ w = .ref a := by
  simp only [kv, Option.map_eq_some_iff] at h
  obtain ⟨a, h1, h2⟩ := h
  exact ⟨a, h1, h2.symm⟩
theorem k_pre {α β : List Nat} {k a : Nat} (h : α[k]? = some a) (hp : α <+: β) : β[k]? = some a := by
  obtain ⟨t, rfl⟩ := hp
  rw [List.getElem?_append_left (List.getElem?_eq_some_iff.mp h).1]
  exact h
theorem kv_mono {α β : List Nat} {v w : Value} (h : kv α v = some w) (hp : α <+: β) : kv β v = some w := by
  cases v with
  | ref k =>
    obtain ⟨a, h1, rfl⟩ := kv_refI h
    exact kv_ref (k_pre h1 hp)
  | _ => exact h
theorem kv_cat {α : List Nat} {v w : Value} (h : kv α v = some w) : w.category = v.category := by
  cases v with
  | ref k =>
    obtain ⟨a, h1, rfl⟩ := kv_refI h
    rfl
  | _ => cases h; rfl
def kvS (α : List Nat) : List Value → Option (List Value)
  | [] => some []
  | v :: vs => match kv α v, kvS α vs with
    | some w, some ws => some (w :: ws)
    | _, _ => none
theorem kvS_cons {α : List Nat} {v : Value} {vs ws : List Value} (h : kvS α (v :: vs) = some ws) : ∃ w ws', ws = w :: ws' ∧ kv α v = some w ∧ kvS α vs = some ws' := by
  unfold kvS at h
  split at h
  · rename_i w ws' h1 h2
    cases h
    exact ⟨w, ws', rfl, h1, h2⟩
  · cases h
theorem kvS_mk {α : List Nat} {v w : Value} {vs ws : List Value} (h1 : kv α v = some w) (h2 : kvS α vs = some ws) : kvS α (v :: vs) = some (w :: ws) := by
  unfold kvS
  rw [h1, h2]
theorem kvS_mono {α β : List Nat} (hp : α <+: β) : ∀ {vs ws : List Value}, kvS α vs = some ws → kvS β vs = some ws
  | [], ws, h => h
  | v :: vs, ws, h => by
    obtain ⟨w, ws', rfl, h1, h2⟩ := kvS_cons h
    exact kvS_mk (kv_mono h1 hp) (kvS_mono hp h2)
theorem kvS_app {α : List Nat} : ∀ {a b ws : List Value}, kvS α (a ++ b) = some ws → ∃ x y, ws = x ++ y ∧ kvS α a = some x ∧ kvS α b = some y ∧ x.length = a.length
  | [], b, ws, h => ⟨[], ws, rfl, rfl, h, rfl⟩
  | v :: a, b, ws, h => by
    obtain ⟨w, ws', rfl, h1, h2⟩ := kvS_cons (by simpa using h)
    obtain ⟨x, y, rfl, h3, h4, h5⟩ := kvS_app h2
    exact ⟨w :: x, y, rfl, kvS_mk h1 h3, h4, by simp [h5]⟩
theorem kvS_appM {α : List Nat} : ∀ {a b x y : List Value}, kvS α a = some x → kvS α b = some y → kvS α (a ++ b) = some (x ++ y)
  | [], b, x, y, h1, h2 => by cases h1; exact h2
  | v :: a, b, x, y, h1, h2 => by
    obtain ⟨w, ws', rfl, h3, h4⟩ := kvS_cons h1
    exact kvS_mk h3 (kvS_appM h4 h2)
theorem kvS_rev {α : List Nat} : ∀ {a x : List Value}, kvS α a = some x → kvS α a.reverse = some x.reverse
  | [], x, h => by cases h; rfl
  | v :: a, x, h => by
    obtain ⟨w, ws', rfl, h3, h4⟩ := kvS_cons h
    rw [List.reverse_cons, List.reverse_cons]
    exact kvS_appM (kvS_rev h4) (kvS_mk h3 rfl)
theorem kvS_len {α : List Nat} : ∀ {a x : List Value}, kvS α a = some x → x.length = a.length
  | [], x, h => by cases h; rfl
  | v :: a, x, h => by
    obtain ⟨w, ws', rfl, h3, h4⟩ := kvS_cons h
    simp [kvS_len h4]
theorem kvS_cats {α : List Nat} : ∀ {a x : List Value}, kvS α a = some x → (x.map fun v => v.category).sum ≤ 2 * a.length
  | [], x, h => by cases h; simp
  | v :: a, x, h => by
    obtain ⟨w, ws', rfl, h3, h4⟩ := kvS_cons h
    have h5 := kvS_cats h4
    have h6 := lv_cat w
    simp only [List.map_cons, List.sum_cons, List.length_cons]
    omega
def ksz : List Value → Nat
  | [] => 0
  | v :: vs => v.category + ksz vs
theorem kvS_ksz {α : List Nat} : ∀ {a x : List Value}, kvS α a = some x → (x.map fun v => v.category).sum = ksz a
  | [], x, h => by cases h; rfl
  | v :: a, x, h => by
    obtain ⟨w, ws', rfl, h3, h4⟩ := kvS_cons h
    rw [List.map_cons, List.sum_cons, kvS_ksz h4, kv_cat h3]
    rfl
theorem kvS_int {α : List Nat} {x : Int32} {vs ws : List Value} (h : kvS α (.int x :: vs) = some ws) : ∃ ws', ws = .int x :: ws' ∧ kvS α vs = some ws' := by
  obtain ⟨w, ws', rfl, h1, h2⟩ := kvS_cons h
  cases h1
  exact ⟨ws', rfl, h2⟩
theorem kvS_long {α : List Nat} {x : Int64} {vs ws : List Value} (h : kvS α (.long x :: vs) = some ws) : ∃ ws', ws = .long x :: ws' ∧ kvS α vs = some ws' := by
  obtain ⟨w, ws', rfl, h1, h2⟩ := kvS_cons h
  cases h1
  exact ⟨ws', rfl, h2⟩
theorem kvS_double {α : List Nat} {x : UInt64} {vs ws : List Value} (h : kvS α (.double x :: vs) = some ws) : ∃ ws', ws = .double x :: ws' ∧ kvS α vs = some ws' := by
  obtain ⟨w, ws', rfl, h1, h2⟩ := kvS_cons h
  cases h1
  exact ⟨ws', rfl, h2⟩
theorem kvS_null {α : List Nat} {vs ws : List Value} (h : kvS α (.null :: vs) = some ws) : ∃ ws', ws = .null :: ws' ∧ kvS α vs = some ws' := by
  obtain ⟨w, ws', rfl, h1, h2⟩ := kvS_cons h
  cases h1
  exact ⟨ws', rfl, h2⟩
theorem kvS_ref {α : List Nat} {k : Nat} {vs ws : List Value} (h : kvS α (.ref k :: vs) = some ws) : ∃ a ws', ws = .ref a :: ws' ∧ α[k]? = some a ∧ kvS α vs = some ws' := by
  obtain ⟨w, ws', rfl, h1, h2⟩ := kvS_cons h
  obtain ⟨a, h3, rfl⟩ := kv_refI h1
  exact ⟨a, ws', rfl, h3, h2⟩
/-- the locals -/
def kvL (α : List Nat) : List (Nat × Value) → Option (List (Nat × Value))
  | [] => some []
  | q :: vs => match kv α q.2, kvL α vs with
    | some w, some ws => some ((q.1, w) :: ws)
    | _, _ => none
theorem kvL_cons {α : List Nat} {q : Nat × Value} {vs ws : List (Nat × Value)} (h : kvL α (q :: vs) = some ws) : ∃ w ws', ws = (q.1, w) :: ws' ∧ kv α q.2 = some w ∧ kvL α vs = some ws' := by
  unfold kvL at h
  split at h
  · rename_i w ws' h1 h2
    cases h
    exact ⟨w, ws', rfl, h1, h2⟩
  · cases h
theorem kvL_mk {α : List Nat} {i : Nat} {v w : Value} {vs ws : List (Nat × Value)} (h1 : kv α v = some w) (h2 : kvL α vs = some ws) : kvL α ((i, v) :: vs) = some ((i, w) :: ws) := by
  unfold kvL
  rw [h1, h2]
theorem kvL_mono {α β : List Nat} (hp : α <+: β) : ∀ {vs ws : List (Nat × Value)}, kvL α vs = some ws → kvL β vs = some ws
  | [], ws, h => h
  | v :: vs, ws, h => by
    obtain ⟨w, ws', rfl, h1, h2⟩ := kvL_cons h
    exact kvL_mk (kv_mono h1 hp) (kvL_mono hp h2)
/-- a filter that looks at places and categories alone -/
theorem kvL_filter {α : List Nat} (g : Nat × Value → Bool) (hg : ∀ i v w, w.category = v.category → g (i, w) = g (i, v)) : ∀ {vs ws : List (Nat × Value)}, kvL α vs = some ws → kvL α (vs.filter g) = some (ws.filter g)
  | [], ws, h => by cases h; rfl
  | q :: vs, ws, h => by
    obtain ⟨w, ws', rfl, h1, h2⟩ := kvL_cons h
    have h3 := kvL_filter g hg h2
    have h4 : g (q.1, w) = g q := hg q.1 q.2 w (kv_cat h1)
    rw [List.filter_cons, List.filter_cons, h4]
    by_cases hq : g q = true
    · rw [if_pos hq, if_pos hq]
      exact kvL_mk h1 h3
    · rw [if_neg hq, if_neg hq]
      exact h3
def kget : List (Nat × Value) → Nat → Option Value
  | [], _ => none
  | q :: l, i => bif q.1 == i then some q.2 else kget l i
theorem kget_spec {α : List Nat} : ∀ {L lv : List (Nat × Value)} {i : Nat} {v : Value}, kget L i = some v → kvL α L = some lv → ∃ w, kv α v = some w ∧ (i, w) ∈ lv
  | [], _, _, _, h, _ => by cases h
  | q :: L, lv, i, v, h, hl => by
    obtain ⟨w, ws', rfl, h1, h2⟩ := kvL_cons hl
    unfold kget at h
    cases hq : (q.1 == i) with
    | true =>
      rw [hq] at h
      cases h
      have : q.1 = i := by simpa using hq
      subst this
      exact ⟨w, h1, List.mem_cons_self⟩
    | false =>
      rw [hq] at h
      obtain ⟨w2, h3, h4⟩ := kget_spec h h2
      exact ⟨w2, h3, List.mem_cons_of_mem _ h4⟩
def kf1 (i : Nat) : Nat × Value → Bool := fun q => !(q.1 == i) && !(q.1 + 1 == i && q.2.category == 2)
def kf2 (i : Nat) : Nat × Value → Bool := fun q => !(q.1 == i) && (!(q.1 == i + 1) && !(q.1 + 1 == i && q.2.category == 2))
theorem kf1_cat (i : Nat) : ∀ (j : Nat) (v w : Value), w.category = v.category → kf1 i (j, w) = kf1 i (j, v) := by
  intro j v w h
  simp [kf1, h]
theorem kf2_cat (i : Nat) : ∀ (j : Nat) (v w : Value), w.category = v.category → kf2 i (j, w) = kf2 i (j, v) := by
  intro j v w h
  simp [kf2, h]
/-! worlds -/
def kcl (E : kE) : List vw_C := E.1
def kdC (E : kE) : Nat → ClassId := E.2.1
def kdI (E : kE) : Nat → Nat → Nat := E.2.2.1
def kb (E : kE) : Nat := E.2.2.2.1
def ktb (E : kE) : List (List Int32) := E.2.2.2.2
def kn (E : kE) : Nat := (ktb E).length
/-- an array's class, as the tables have it -/
def kAr (U : State) (cell : Cell) (ty : FieldType) : Prop := ∃ (kA : Class) (comp : ClassId), U.vm.classes[cell.cls]? = some kA ∧ kA.kind = .array comp ty ∧ ∀ C, ty = .object C → U.vm.findClass C = some comp
theorem kAr.moved {u U : State} {cell : Cell} {ty : FieldType} (hvm : u.vm.Alike U.vm) (h : kAr u cell ty) : kAr U cell ty := by
  obtain ⟨kA, comp, h1, h2, h3⟩ := h
  obtain ⟨k', hk', he⟩ := hvm.2.2 _ _ h1
  exact ⟨k', comp, hk', by rw [he]; exact h2, fun C hC => by rw [hvm.findClass]; exact h3 C hC⟩
theorem kAr.is {U : State} {cell : Cell} {ty : FieldType} (h : kAr U cell ty) (hv : cell.vm = .none) : U.isArrayOf cell ty := by
  obtain ⟨kA, comp, h1, h2, h3⟩ := h
  exact ⟨fun k h => (by rw [hv] at h; cases h), kA, h1, comp, h2⟩
/-- one cell -/
def kAt (E : kE) (U : State) (α : List Nat) (H : Heap) (a : Nat) (c : kCel) : Prop :=
  ∃ cell : Cell, H[a]? = some cell ∧ cell.vm = .none ∧
    ((∃ r : vw_C, (kcl E)[c.1]? = some r ∧ cell.cls = kdC E c.1 ∧ c.2.length = r.2.2 ∧ ∀ (j : Nat) (v : Value), c.2[j]? = some v → ∃ w, kv α v = some w ∧ cell.slots[kdI E c.1 j]? = some w) ∨
     (100 ≤ c.1 ∧ kAr U cell (kTy c.1) ∧ cell.slots.size = c.2.length ∧ ∀ (j : Nat) (v : Value), c.2[j]? = some v → ∃ w, kv α v = some w ∧ cell.slots[j]? = some w))
theorem kAt.moved {E : kE} {u U : State} {α : List Nat} {H : Heap} {a : Nat} {c : kCel} (hvm : u.vm.Alike U.vm) (h : kAt E u α H a c) : kAt E U α H a c := by
  obtain ⟨cell, h1, h2, h3⟩ := h
  refine ⟨cell, h1, h2, ?_⟩
  rcases h3 with h3 | ⟨g1, g2, g3⟩
  · exact Or.inl h3
  · exact Or.inr ⟨g1, g2.moved hvm, g3⟩
theorem kAt.kept {E : kE} {U : State} {α β : List Nat} {H H1 : Heap} {a : Nat} {c : kCel} (h : kAt E U α H a c) (hp : α <+: β) (hq : H1[a]? = H[a]?) : kAt E U β H1 a c := by
  obtain ⟨cell, h1, h2, h3⟩ := h
  refine ⟨cell, by rw [hq]; exact h1, h2, ?_⟩
  rcases h3 with ⟨r, g1, g2, g3, g4⟩ | ⟨g1, g2, g3, g4⟩
  · refine Or.inl ⟨r, g1, g2, g3, fun j v hv => ?_⟩
    obtain ⟨w, w1, w2⟩ := g4 j v hv
    exact ⟨w, kv_mono w1 hp, w2⟩
  · refine Or.inr ⟨g1, g2, g3, fun j v hv => ?_⟩
    obtain ⟨w, w1, w2⟩ := g4 j v hv
    exact ⟨w, kv_mono w1 hp, w2⟩
theorem kAt.lt {E : kE} {U : State} {α : List Nat} {H : Heap} {a : Nat} {c : kCel} (h : kAt E U α H a c) : a < H.size := by
  obtain ⟨cell, h1, h2⟩ := h
  exact (Array.getElem?_eq_some_iff.mp h1).1
/-- the heap -/
def kRep (E : kE) (U : State) (α : List Nat) (h : List kCel) (H : Heap) : Prop :=
  α.length = kn E + h.length ∧ (∀ i j a, kn E ≤ i → kn E ≤ j → α[i]? = some a → α[j]? = some a → i = j) ∧ ∀ (k : Nat) (c : kCel), h[k]? = some c → ∃ a, α[kn E + k]? = some a ∧ kb E ≤ a ∧ kAt E U α H a c
theorem kRep.moved {E : kE} {u U : State} {α : List Nat} {h : List kCel} {H : Heap} (hvm : u.vm.Alike U.vm) (hr : kRep E u α h H) : kRep E U α h H :=
  ⟨hr.1, hr.2.1, fun k c hk => by obtain ⟨a, h1, h2, h3⟩ := hr.2.2 k c hk; exact ⟨a, h1, h2, h3.moved hvm⟩⟩
/-- a reference to a cell of the heap -/
theorem kRep.at {E : kE} {U : State} {α : List Nat} {h : List kCel} {H : Heap} (hr : kRep E U α h H) {k a : Nat} {c : kCel} (hk : kn E ≤ k) (hc : h[k - kn E]? = some c) (ha : α[k]? = some a) : kb E ≤ a ∧ kAt E U α H a c := by
  obtain ⟨a', h1, h2, h3⟩ := hr.2.2 _ c hc
  rw [show kn E + (k - kn E) = k by omega, ha] at h1
  cases h1
  exact ⟨h2, h3⟩
/-- one cell changed in place -/
theorem kRep.put {E : kE} {U : State} {α : List Nat} {h : List kCel} {H H1 : Heap} (hr : kRep E U α h H) {k a : Nat} {c c' : kCel} (hk : kn E ≤ k) (hc : h[k - kn E]? = some c) (ha : α[k]? = some a) (hn : kAt E U α H1 a c') (oq : ∀ q, q ≠ a → H1[q]? = H[q]?) : kRep E U α (h.set (k - kn E) c') H1 := by
  have hl := (List.getElem?_eq_some_iff.mp hc).1
  refine ⟨by simpa using hr.1, hr.2.1, fun j d hj => ?_⟩
  by_cases e : j = k - kn E
  · subst e
    rw [List.getElem?_set_self hl] at hj
    cases hj
    exact ⟨a, by rw [show kn E + (k - kn E) = k by omega]; exact ha, (hr.at hk hc ha).1, hn⟩
  · rw [List.getElem?_set_ne (Ne.symm e)] at hj
    obtain ⟨x, h1, h2, h3⟩ := hr.2.2 j d hj
    refine ⟨x, h1, h2, h3.kept (List.prefix_refl _) (oq x fun z => e ?_)⟩
    subst z
    have := hr.2.1 (kn E + j) k x (by omega) hk h1 ha
    omega
/-- one cell more -/
theorem kRep.push {E : kE} {U : State} {α : List Nat} {h : List kCel} {H H1 : Heap} (hr : kRep E U α h H) {a : Nat} {c : kCel} (ha : H.size ≤ a) (hb : kb E ≤ H.size) (hn : kAt E U (α ++ [a]) H1 a c) (oq : ∀ q, q < H.size → H1[q]? = H[q]?) (hlt : ∀ i x, kn E ≤ i → α[i]? = some x → x < H.size) : kRep E U (α ++ [a]) (h ++ [c]) H1 := by
  refine ⟨by simp [hr.1]; omega, fun i j x hi hj h1 h2 => ?_, fun k d hk => ?_⟩
  · have key : ∀ i x, kn E ≤ i → (α ++ [a])[i]? = some x → (α[i]? = some x ∧ x < H.size) ∨ (i = α.length ∧ x = a) := by
      intro i x hi h1
      by_cases l : i < α.length
      · rw [List.getElem?_append_left l] at h1
        exact Or.inl ⟨h1, hlt i x hi h1⟩
      · rw [List.getElem?_append_right (by omega)] at h1
        have z : i - α.length < 1 := (List.getElem?_eq_some_iff.mp h1).1
        rw [show i - α.length = 0 by omega] at h1
        cases h1
        exact Or.inr ⟨by omega, rfl⟩
    rcases key i x hi h1 with ⟨g1, g2⟩ | ⟨g1, g2⟩ <;> rcases key j x hj h2 with ⟨f1, f2⟩ | ⟨f1, f2⟩
    · exact hr.2.1 i j x hi hj g1 f1
    · omega
    · omega
    · omega
  · by_cases l : k < h.length
    · rw [List.getElem?_append_left l] at hk
      obtain ⟨x, h1, h2, h3⟩ := hr.2.2 k d hk
      exact ⟨x, k_pre h1 (List.prefix_append _ _), h2, h3.kept (List.prefix_append _ _) (oq x h3.lt)⟩
    · rw [List.getElem?_append_right (by omega)] at hk
      have z : k - h.length < 1 := (List.getElem?_eq_some_iff.mp hk).1
      rw [show k - h.length = 0 by omega] at hk
      cases hk
      exact ⟨a, by rw [show kn E + k = α.length by have := hr.1; omega, List.getElem?_append_right (Nat.le_refl _), Nat.sub_self]; rfl, by omega, hn⟩
theorem kRep.lt {E : kE} {U : State} {α : List Nat} {h : List kCel} {H : Heap} (hr : kRep E U α h H) : ∀ i x, kn E ≤ i → α[i]? = some x → x < H.size := by
  intro i x hi hx
  have hl := (List.getElem?_eq_some_iff.mp hx).1
  have h1 := hr.1
  have h2 : i - kn E < h.length := by omega
  obtain ⟨-, h3⟩ := hr.at hi (List.getElem?_eq_getElem h2) hx
  exact h3.lt
end
section
/-! ===== what is given of the start; the judgement kW; what it means that an operation is right ===== -/
/-- what of the start stays: the classes, the tables that nobody writes -/
def kKK (E : kE) (XX : State → Prop) (σ : List Nat) (zs : List (String × String × Nat)) (U : State) : Prop :=
  ((kcl E).length ≤ 100 ∧ σ.length = kn E ∧ kb E ≤ U.heap.size) ∧ (∀ (c : Nat) (q : vw_C), (kcl E)[c]? = some q → u_Kn U q.1 q.2.1 q.2.2 (kdC E c) (kdI E c)) ∧
  (∀ (k a : Nat) (t : List Int32), σ[k]? = some a → (ktb E)[k]? = some t → va_T .int a t.length (fun j => .int (t.getD j 0)) (fun q => kb E ≤ q) U U.heap) ∧
  (∀ z ∈ zs, ∃ a, σ[z.2.2]? = some a ∧ va_Z z.1 z.2.1 "[I" (.ref a) (fun q => kb E ≤ q) U U.heap) ∧ XX U
/-- further facts of the start stay where the tables are alike and the cells below b are the same -/
def kStab (b : Nat) (XX : State → Prop) : Prop := ∀ u U : State, XX u → u.WarmedH U.vm → u.heap.size ≤ U.heap.size → b ≤ u.heap.size → (∀ q, q < b → U.heap[q]? = u.heap[q]?) → XX U
theorem kKK.moved {E : kE} {XX : State → Prop} {σ : List Nat} {zs : List (String × String × Nat)} {u U : State} (hst : kStab (kb E) XX) (h : kKK E XX σ zs u) (hW : u.WarmedH U.vm) (hz : u.heap.size ≤ U.heap.size) (hq : ∀ q, q < kb E → U.heap[q]? = u.heap[q]?) : kKK E XX σ zs U := by
  have hvm := hW.alike
  obtain ⟨⟨h1, h2, h3⟩, h4, h5, h6, h7⟩ := h
  have hk : ∀ a : Nat, a < u.heap.size → ¬ (kb E ≤ a) → U.heap[a]? = u.heap[a]? := fun a _ h => hq a (by omega)
  refine ⟨⟨h1, h2, by omega⟩, fun c q hc => u_Kn_moved hvm (h4 c q hc), fun k a t ha ht => ((h5 k a t ha ht).moved hvm).kept hk, fun z hz => ?_, hst u U h7 hW hz h3 hq⟩
  obtain ⟨a, h8, h9⟩ := h6 z hz
  exact ⟨a, h8, (h9.moved hvm).kept hk⟩
/-- the names of what may be thrown -/
def kEx : Nat → String := fun k => match k with
  | 0 => "java/lang/IllegalArgumentException"
  | 1 => "java/lang/IllegalStateException"
  | _ => "java/lang/IndexOutOfBoundsException"
def kvO (α : List Nat) : Option Value → Option (Option Value)
  | none => some none
  | some v => (kv α v).map some
def kQc (E : kE) (α0 : List Nat) (res : kRes) : Array Value → State → Outcome → State → Prop := fun _ st o t =>
  (∃ (α : List Nat) (vo wo : Option Value), α0 <+: α ∧ res.1 = .inl vo ∧ o = .returned wo ∧ kvO α vo = some wo ∧ kRep E t α res.2.1 t.heap) ∧ va_F (fun q => kb E ≤ q) st t
def kXc (E : kE) (α0 : List Nat) (res : kRes) : String → State → State → Prop := fun Ex st t =>
  (∃ (α : List Nat) (k : Nat), α0 <+: α ∧ res.1 = .inr k ∧ kEx k = Ex ∧ kRep E t α res.2.1 t.heap) ∧ va_F (fun q => kb E ≤ q) st t
/-- from this place of the method, with these locals, this stack and this heap, the machine comes to the result -/
def kW (E : kE) (p : Program) (l : Launch) (e : Env) (R : Room) (s : State) (m : MethodId) (args : Array Value) (below : List Frame) (meth : Method) (c : Code) (α0 : List Nat) (nL nc0 ns0 : Nat) (Q : State → Prop) (pc : Nat) (fs : kFS) : Prop :=
  ∀ (α : List Nat) (H : Heap) (locs : List Loc) (ls : Array Slot) (lv : List (Nat × Value)) (st : List Value), α0 <+: α → kRep E s α fs.2.2.1 H → va_S (fun q => kb E ≤ q) s.heap H locs → kvL α fs.1 = some lv → lv_has ls nL lv → kvS α fs.2.1 = some st → nc0 ≤ fs.2.2.2.1 → ns0 ≤ fs.2.2.2.2 →
    W p l e R s m args below meth c H locs (fs.2.2.2.1 - nc0) (fs.2.2.2.2 - ns0) Q (F0 m pc ls st)
abbrev kQ (E : kE) (below : List Frame) (args : Array Value) (s : State) (α0 : List Nat) (nc0 ns0 : Nat) (res : kRes) : State → Prop :=
  vx_MQ below (kQc E α0 res) (kXc E α0 res) args s (res.2.2.1 - nc0) (res.2.2.2 - ns0) (fun q => kb E ≤ q)
/-- what a method's walk stands on -/
def kCx (E : kE) (XX : State → Prop) (σ : List Nat) (zs : List (String × String × Nat)) (p : Program) (l : Launch) (e : Env) (R : Room) (s : State) (m : MethodId) (args : Array Value) (below : List Frame) (meth : Method) (c : Code) (α0 : List Nat) (cc : ByteArray) (nL nc0 ns0 : Nat) (res : kRes) (own : String) (ws : List Cond) : Prop :=
  p.tables.exec = Jvm.exec ∧ c.code = cc ∧ c.maxLocals = nL ∧ s.vm.findClass own = some m.cls ∧ (∀ w ∈ ws, w.before args s = true) ∧ meth.locks = false ∧ kKK E XX σ zs s ∧ kStab (kb E) XX ∧ σ <+: α0 ∧ l.stackTraces = false ∧ R.cells = res.2.2.1 - nc0 ∧ R.slots = res.2.2.2 - ns0 ∧ 8 ≤ R.frames ∧ 150 ≤ R.locals
/-- an operation, or the end of a block: from pc; behind it the block b begins at pcs b -/
def kOK (E : kE) (p : Program) (l : Launch) (e : Env) (R : Room) (s : State) (m : MethodId) (args : Array Value) (below : List Frame) (meth : Method) (c : Code) (α0 : List Nat) (nL nc0 ns0 : Nat) (res : kRes) (pc : Nat) (pcs : Nat → Nat) (o : kOp) : Prop :=
  ∀ (fs : kFS) (r : (Nat × kFS) ⊕ kRes), o fs = some r → match r with
    | .inl q => fs.2.2.2.1 ≤ q.2.2.2.2.1 ∧ fs.2.2.2.2 ≤ q.2.2.2.2.2 ∧ (q.2.2.2.2.1 ≤ res.2.2.1 → q.2.2.2.2.2 ≤ res.2.2.2 → kW E p l e R s m args below meth c α0 nL nc0 ns0 (kQ E below args s α0 nc0 ns0 res) (pcs q.1) q.2 → kW E p l e R s m args below meth c α0 nL nc0 ns0 (kQ E below args s α0 nc0 ns0 res) pc fs)
    | .inr q => fs.2.2.2.1 ≤ q.2.2.1 ∧ fs.2.2.2.2 ≤ q.2.2.2 ∧ (q = res → kW E p l e R s m args below meth c α0 nL nc0 ns0 (kQ E below args s α0 nc0 ns0 res) pc fs)
/-- the one that goes on at pc' -/
abbrev kTo (pc' : Nat) : Nat → Nat := fun _ => pc'
section KOPS
variable {p : Program} {l : Launch} {e : Env} {R : Room} {s : State} {m : MethodId} {args : Array Value} {below : List Frame} {meth : Method} {c : Code}
variable {E : kE} {XX : State → Prop} {σ α0 : List Nat} {cc : ByteArray} {nL nc0 ns0 : Nat} {res : kRes} {pc pc' : Nat} {own : String} {ws : List Cond} {zs : List (String × String × Nat)}
/-- an operation on the stack alone -/
def oS (g : List Value → Option (List Value)) : kOp := fun fs => match g fs.2.1 with
  | some S => some (.inl (0, (fs.1, S, fs.2.2)))
  | none => none
theorem ok_S {g : List Value → Option (List Value)} (hg : ∀ S S', g S = some S' → ∀ (α : List Nat) (st : List Value), kvS α S = some st → ∃ st', kvS α S' = some st' ∧ ∀ (H : Heap) (locs : List Loc) (ce sl : Nat) (ls : Array Slot) (Q : State → Prop), W p l e R s m args below meth c H locs ce sl Q (F0 m pc' ls st') → W p l e R s m args below meth c H locs ce sl Q (F0 m pc ls st)) : kOK E p l e R s m args below meth c α0 nL nc0 ns0 res pc (kTo pc') (oS g) := by
  intro fs r h
  unfold oS at h
  split at h
  · rename_i S' hS
    cases h
    refine ⟨Nat.le_refl _, Nat.le_refl _, fun _ _ k => ?_⟩
    intro α H locs ls lv st hp hR hV hL hl hs h1 h2
    obtain ⟨st', h3, h4⟩ := hg _ _ hS α st hs
    exact h4 H locs _ _ ls _ (k α H locs ls lv st' hp hR hV hL hl h3 h1 h2)
  · cases h
def gBin (f : Int32 → Int32 → Int32) : List Value → Option (List Value) := fun S => match S with
  | .int y :: .int x :: r => some (.int (f x y) :: r)
  | _ => none
def oBin (f : Int32 → Int32 → Int32) : kOp := oS (gBin f)
theorem ok_bin {f : Int32 → Int32 → Int32} (hrow : ∀ (x y : Int32) (rest : List Value) (H : Heap) (locs : List Loc) (ce sl : Nat) (ls : Array Slot) (Q : State → Prop), W p l e R s m args below meth c H locs ce sl Q (F0 m pc' ls (.int (f x y) :: rest)) → W p l e R s m args below meth c H locs ce sl Q (F0 m pc ls (.int y :: .int x :: rest))) : kOK E p l e R s m args below meth c α0 nL nc0 ns0 res pc (kTo pc') (oBin f) := by
  refine ok_S fun S S' h α st hs => ?_
  unfold gBin at h
  split at h
  · rename_i y x r
    cases h
    obtain ⟨a, rfl, h2⟩ := kvS_int hs
    obtain ⟨b, rfl, h3⟩ := kvS_int h2
    exact ⟨.int (f x y) :: b, kvS_mk rfl h3, fun H locs ce sl ls Q k => hrow x y b H locs ce sl ls Q k⟩
  · cases h
theorem ok_iadd (C : kCx E XX σ zs p l e R s m args below meth c α0 cc nL nc0 ns0 res own ws) (hd : decode cc pc = .ok (.iadd, 1)) : kOK E p l e R s m args below meth c α0 nL nc0 ns0 res pc (kTo (pc + 1)) (oBin fun x y => x + y) := ok_bin fun x y rest H locs ce sl ls Q k => lv_iadd C.1 C.2.1 hd k
theorem ok_isub (C : kCx E XX σ zs p l e R s m args below meth c α0 cc nL nc0 ns0 res own ws) (hd : decode cc pc = .ok (.isub, 1)) : kOK E p l e R s m args below meth c α0 nL nc0 ns0 res pc (kTo (pc + 1)) (oBin fun x y => x - y) := ok_bin fun x y rest H locs ce sl ls Q k => lv_isub C.1 C.2.1 hd k
theorem ok_imul (C : kCx E XX σ zs p l e R s m args below meth c α0 cc nL nc0 ns0 res own ws) (hd : decode cc pc = .ok (.imul, 1)) : kOK E p l e R s m args below meth c α0 nL nc0 ns0 res pc (kTo (pc + 1)) (oBin fun x y => x * y) := ok_bin fun x y rest H locs ce sl ls Q k => lv_imul C.1 C.2.1 hd k
theorem ok_iand (C : kCx E XX σ zs p l e R s m args below meth c α0 cc nL nc0 ns0 res own ws) (hd : decode cc pc = .ok (.iand, 1)) : kOK E p l e R s m args below meth c α0 nL nc0 ns0 res pc (kTo (pc + 1)) (oBin fun x y => x &&& y) := ok_bin fun x y rest H locs ce sl ls Q k => lv_iand C.1 C.2.1 hd k
theorem ok_ior (C : kCx E XX σ zs p l e R s m args below meth c α0 cc nL nc0 ns0 res own ws) (hd : decode cc pc = .ok (.ior, 1)) : kOK E p l e R s m args below meth c α0 nL nc0 ns0 res pc (kTo (pc + 1)) (oBin fun x y => x ||| y) := ok_bin fun x y rest H locs ce sl ls Q k => lv_ior C.1 C.2.1 hd k
theorem ok_ishl (C : kCx E XX σ zs p l e R s m args below meth c α0 cc nL nc0 ns0 res own ws) (hd : decode cc pc = .ok (.ishl, 1)) : kOK E p l e R s m args below meth c α0 nL nc0 ns0 res pc (kTo (pc + 1)) (oBin fun x y => x <<< (y &&& 31)) := ok_bin fun x y rest H locs ce sl ls Q k => lv_ishl C.1 C.2.1 hd k
theorem ok_ishr (C : kCx E XX σ zs p l e R s m args below meth c α0 cc nL nc0 ns0 res own ws) (hd : decode cc pc = .ok (.ishr, 1)) : kOK E p l e R s m args below meth c α0 nL nc0 ns0 res pc (kTo (pc + 1)) (oBin fun x y => x >>> (y &&& 31)) := ok_bin fun x y rest H locs ce sl ls Q k => lv_ishr C.1 C.2.1 hd k
def gBin0 (f : Int32 → Int32 → Int32) : List Value → Option (List Value) := fun S => match S with
  | .int y :: .int x :: r => bif decide (y = 0) then none else some (.int (f x y) :: r)
  | _ => none
def oBin0 (f : Int32 → Int32 → Int32) : kOp := oS (gBin0 f)
theorem ok_bin0 {f : Int32 → Int32 → Int32} (hrow : ∀ (x y : Int32) (rest : List Value) (H : Heap) (locs : List Loc) (ce sl : Nat) (ls : Array Slot) (Q : State → Prop), ¬ y = 0 → W p l e R s m args below meth c H locs ce sl Q (F0 m pc' ls (.int (f x y) :: rest)) → W p l e R s m args below meth c H locs ce sl Q (F0 m pc ls (.int y :: .int x :: rest))) : kOK E p l e R s m args below meth c α0 nL nc0 ns0 res pc (kTo pc') (oBin0 f) := by
  refine ok_S fun S S' h α st hs => ?_
  unfold gBin0 at h
  split at h
  · rename_i y x r
    by_cases hy : y = 0
    · simp [hy] at h
    · simp only [hy, decide_false, cond_false] at h
      cases h
      obtain ⟨a, rfl, h2⟩ := kvS_int hs
      obtain ⟨b, rfl, h3⟩ := kvS_int h2
      exact ⟨.int (f x y) :: b, kvS_mk rfl h3, fun H locs ce sl ls Q k => hrow x y b H locs ce sl ls Q hy k⟩
  · cases h
theorem ok_idiv (C : kCx E XX σ zs p l e R s m args below meth c α0 cc nL nc0 ns0 res own ws) (hd : decode cc pc = .ok (.idiv, 1)) : kOK E p l e R s m args below meth c α0 nL nc0 ns0 res pc (kTo (pc + 1)) (oBin0 fun x y => x / y) := ok_bin0 fun x y rest H locs ce sl ls Q hy k => lv_idiv C.1 C.2.1 hd hy k
theorem ok_irem (C : kCx E XX σ zs p l e R s m args below meth c α0 cc nL nc0 ns0 res own ws) (hd : decode cc pc = .ok (.irem, 1)) : kOK E p l e R s m args below meth c α0 nL nc0 ns0 res pc (kTo (pc + 1)) (oBin0 fun x y => x - x / y * y) := ok_bin0 fun x y rest H locs ce sl ls Q hy k => lv_irem C.1 C.2.1 hd hy k
def gBinL (f : Int64 → Int64 → Int64) : List Value → Option (List Value) := fun S => match S with
  | .long y :: .long x :: r => some (.long (f x y) :: r)
  | _ => none
def oBinL (f : Int64 → Int64 → Int64) : kOp := oS (gBinL f)
theorem ok_binL {f : Int64 → Int64 → Int64} (hrow : ∀ (x y : Int64) (rest : List Value) (H : Heap) (locs : List Loc) (ce sl : Nat) (ls : Array Slot) (Q : State → Prop), W p l e R s m args below meth c H locs ce sl Q (F0 m pc' ls (.long (f x y) :: rest)) → W p l e R s m args below meth c H locs ce sl Q (F0 m pc ls (.long y :: .long x :: rest))) : kOK E p l e R s m args below meth c α0 nL nc0 ns0 res pc (kTo pc') (oBinL f) := by
  refine ok_S fun S S' h α st hs => ?_
  unfold gBinL at h
  split at h
  · rename_i y x r
    cases h
    obtain ⟨a, rfl, h2⟩ := kvS_long hs
    obtain ⟨b, rfl, h3⟩ := kvS_long h2
    exact ⟨.long (f x y) :: b, kvS_mk rfl h3, fun H locs ce sl ls Q k => hrow x y b H locs ce sl ls Q k⟩
  · cases h
theorem ok_ladd (C : kCx E XX σ zs p l e R s m args below meth c α0 cc nL nc0 ns0 res own ws) (hd : decode cc pc = .ok (.ladd, 1)) : kOK E p l e R s m args below meth c α0 nL nc0 ns0 res pc (kTo (pc + 1)) (oBinL fun x y => x + y) := ok_binL fun x y rest H locs ce sl ls Q k => lv_ladd C.1 C.2.1 hd k
theorem ok_lmul (C : kCx E XX σ zs p l e R s m args below meth c α0 cc nL nc0 ns0 res own ws) (hd : decode cc pc = .ok (.lmul, 1)) : kOK E p l e R s m args below meth c α0 nL nc0 ns0 res pc (kTo (pc + 1)) (oBinL fun x y => x * y) := ok_binL fun x y rest H locs ce sl ls Q k => lv_lmul C.1 C.2.1 hd k
theorem ok_lsub (C : kCx E XX σ zs p l e R s m args below meth c α0 cc nL nc0 ns0 res own ws) (hd : decode cc pc = .ok (.lsub, 1)) : kOK E p l e R s m args below meth c α0 nL nc0 ns0 res pc (kTo (pc + 1)) (oBinL fun x y => x - y) := ok_binL fun x y rest H locs ce sl ls Q k => lv_lsub C.1 C.2.1 hd k
def gBinL0 (f : Int64 → Int64 → Int64) : List Value → Option (List Value) := fun S => match S with
  | .long y :: .long x :: r => bif decide (y = 0) then none else some (.long (f x y) :: r)
  | _ => none
def oBinL0 (f : Int64 → Int64 → Int64) : kOp := oS (gBinL0 f)
theorem ok_binL0 {f : Int64 → Int64 → Int64} (hrow : ∀ (x y : Int64) (rest : List Value) (H : Heap) (locs : List Loc) (ce sl : Nat) (ls : Array Slot) (Q : State → Prop), ¬ y = 0 → W p l e R s m args below meth c H locs ce sl Q (F0 m pc' ls (.long (f x y) :: rest)) → W p l e R s m args below meth c H locs ce sl Q (F0 m pc ls (.long y :: .long x :: rest))) : kOK E p l e R s m args below meth c α0 nL nc0 ns0 res pc (kTo pc') (oBinL0 f) := by
  refine ok_S fun S S' h α st hs => ?_
  unfold gBinL0 at h
  split at h
  · rename_i y x r
    by_cases hy : y = 0
    · simp [hy] at h
    · simp only [hy, decide_false, cond_false] at h
      cases h
      obtain ⟨a, rfl, h2⟩ := kvS_long hs
      obtain ⟨b, rfl, h3⟩ := kvS_long h2
      exact ⟨.long (f x y) :: b, kvS_mk rfl h3, fun H locs ce sl ls Q k => hrow x y b H locs ce sl ls Q hy k⟩
  · cases h
theorem ok_ldiv (C : kCx E XX σ zs p l e R s m args below meth c α0 cc nL nc0 ns0 res own ws) (hd : decode cc pc = .ok (.ldiv, 1)) : kOK E p l e R s m args below meth c α0 nL nc0 ns0 res pc (kTo (pc + 1)) (oBinL0 fun x y => x / y) := ok_binL0 fun x y rest H locs ce sl ls Q hy k => lv_ldiv C.1 C.2.1 hd hy k
theorem ok_lrem (C : kCx E XX σ zs p l e R s m args below meth c α0 cc nL nc0 ns0 res own ws) (hd : decode cc pc = .ok (.lrem, 1)) : kOK E p l e R s m args below meth c α0 nL nc0 ns0 res pc (kTo (pc + 1)) (oBinL0 fun x y => x - x / y * y) := ok_binL0 fun x y rest H locs ce sl ls Q hy k => lv_lrem C.1 C.2.1 hd hy k
def gLcmp : List Value → Option (List Value) := fun S => match S with
  | .long y :: .long x :: r => some (.int (lg_cmp x y) :: r)
  | _ => none
theorem ok_lcmp (C : kCx E XX σ zs p l e R s m args below meth c α0 cc nL nc0 ns0 res own ws) (hd : decode cc pc = .ok (.lcmp, 1)) : kOK E p l e R s m args below meth c α0 nL nc0 ns0 res pc (kTo (pc + 1)) (oS gLcmp) := by
  refine ok_S fun S S' h α st hs => ?_
  unfold gLcmp at h
  split at h
  · cases h
    obtain ⟨a, rfl, h2⟩ := kvS_long hs
    obtain ⟨b, rfl, h3⟩ := kvS_long h2
    exact ⟨_, kvS_mk rfl h3, fun H locs ce sl ls Q k => W.lcmp C.1 C.2.1 hd k⟩
  · cases h
def gI2l : List Value → Option (List Value) := fun S => match S with
  | .int x :: r => some (.long x.toInt64 :: r)
  | _ => none
theorem ok_i2l (C : kCx E XX σ zs p l e R s m args below meth c α0 cc nL nc0 ns0 res own ws) (hd : decode cc pc = .ok (.i2l, 1)) : kOK E p l e R s m args below meth c α0 nL nc0 ns0 res pc (kTo (pc + 1)) (oS gI2l) := by
  refine ok_S fun S S' h α st hs => ?_
  unfold gI2l at h
  split at h
  · cases h
    obtain ⟨b, rfl, h3⟩ := kvS_int hs
    exact ⟨_, kvS_mk rfl h3, fun H locs ce sl ls Q k => lv_i2l C.1 C.2.1 hd rfl k⟩
  · cases h
def gL2i : List Value → Option (List Value) := fun S => match S with
  | .long x :: r => some (.int x.toInt32 :: r)
  | _ => none
theorem ok_l2i (C : kCx E XX σ zs p l e R s m args below meth c α0 cc nL nc0 ns0 res own ws) (hd : decode cc pc = .ok (.l2i, 1)) : kOK E p l e R s m args below meth c α0 nL nc0 ns0 res pc (kTo (pc + 1)) (oS gL2i) := by
  refine ok_S fun S S' h α st hs => ?_
  unfold gL2i at h
  split at h
  · cases h
    obtain ⟨b, rfl, h3⟩ := kvS_long hs
    exact ⟨_, kvS_mk rfl h3, fun H locs ce sl ls Q k => lv_l2i C.1 C.2.1 hd rfl k⟩
  · cases h
def gI2d : List Value → Option (List Value) := fun S => match S with
  | .int x :: r => some (.double (FP.i2d x) :: r)
  | _ => none
theorem ok_i2d (C : kCx E XX σ zs p l e R s m args below meth c α0 cc nL nc0 ns0 res own ws) (hd : decode cc pc = .ok (.i2d, 1)) : kOK E p l e R s m args below meth c α0 nL nc0 ns0 res pc (kTo (pc + 1)) (oS gI2d) := by
  refine ok_S fun S S' h α st hs => ?_
  unfold gI2d at h
  split at h
  · cases h
    obtain ⟨b, rfl, h3⟩ := kvS_int hs
    exact ⟨_, kvS_mk rfl h3, fun H locs ce sl ls Q k => lv_i2d C.1 C.2.1 hd k⟩
  · cases h
def gIneg : List Value → Option (List Value) := fun S => match S with
  | .int x :: r => some (.int (-x) :: r)
  | _ => none
theorem ok_ineg (C : kCx E XX σ zs p l e R s m args below meth c α0 cc nL nc0 ns0 res own ws) (hd : decode cc pc = .ok (.ineg, 1)) : kOK E p l e R s m args below meth c α0 nL nc0 ns0 res pc (kTo (pc + 1)) (oS gIneg) := by
  refine ok_S fun S S' h α st hs => ?_
  unfold gIneg at h
  split at h
  · cases h
    obtain ⟨b, rfl, h3⟩ := kvS_int hs
    exact ⟨_, kvS_mk rfl h3, fun H locs ce sl ls Q k => lv_ineg C.1 C.2.1 hd k⟩
  · cases h
def gDcmp (op : CmpOp) : List Value → Option (List Value) := fun S => match S with
  | .double y :: .double x :: r => some (.int (Op.cmpValue (FP.dcmp x y) op) :: r)
  | _ => none
theorem ok_dcmp {op : CmpOp} (C : kCx E XX σ zs p l e R s m args below meth c α0 cc nL nc0 ns0 res own ws) (hd : decode cc pc = .ok (.dcmp op, 1)) : kOK E p l e R s m args below meth c α0 nL nc0 ns0 res pc (kTo (pc + 1)) (oS (gDcmp op)) := by
  refine ok_S fun S S' h α st hs => ?_
  unfold gDcmp at h
  split at h
  · cases h
    obtain ⟨a, rfl, h2⟩ := kvS_double hs
    obtain ⟨b, rfl, h3⟩ := kvS_double h2
    exact ⟨_, kvS_mk rfl h3, fun H locs ce sl ls Q k => lv_dcmp C.1 C.2.1 hd k⟩
  · cases h
def gDdiv : List Value → Option (List Value) := fun S => match S with
  | .double y :: .double x :: r => bif decide (FP.ddiv x y &&& 0x7fffffffffffffff ≤ 0x7ff0000000000000) then some (.double (FP.ddiv x y) :: r) else none
  | _ => none
theorem ok_ddiv (C : kCx E XX σ zs p l e R s m args below meth c α0 cc nL nc0 ns0 res own ws) (hd : decode cc pc = .ok (.ddiv, 1)) : kOK E p l e R s m args below meth c α0 nL nc0 ns0 res pc (kTo (pc + 1)) (oS gDdiv) := by
  refine ok_S fun S S' h α st hs => ?_
  unfold gDdiv at h
  split at h
  · rename_i y x r
    by_cases hy : FP.ddiv x y &&& 0x7fffffffffffffff ≤ 0x7ff0000000000000
    · simp only [hy, decide_true, cond_true] at h
      cases h
      obtain ⟨a, rfl, h2⟩ := kvS_double hs
      obtain ⟨b, rfl, h3⟩ := kvS_double h2
      exact ⟨_, kvS_mk rfl h3, fun H locs ce sl ls Q k => lv_ddiv C.1 C.2.1 hd hy k⟩
    · simp [hy] at h
  · cases h
def gPush (v : Value) : List Value → Option (List Value) := fun S => some (v :: S)
theorem ok_push {v : Value} (hv : ∀ α, kv α v = some v) (hrow : ∀ (rest : List Value) (H : Heap) (locs : List Loc) (ce sl : Nat) (ls : Array Slot) (Q : State → Prop), W p l e R s m args below meth c H locs ce sl Q (F0 m pc' ls (v :: rest)) → W p l e R s m args below meth c H locs ce sl Q (F0 m pc ls rest)) : kOK E p l e R s m args below meth c α0 nL nc0 ns0 res pc (kTo pc') (oS (gPush v)) := by
  refine ok_S fun S S' h α st hs => ?_
  cases h
  exact ⟨_, kvS_mk (hv α) hs, fun H locs ce sl ls Q k => hrow st H locs ce sl ls Q k⟩
theorem ok_iconst {n : Int} {v : Int32} (C : kCx E XX σ zs p l e R s m args below meth c α0 cc nL nc0 ns0 res own ws) (hd : decode cc pc = .ok (.iconst n, 1)) (hv : Int32.ofInt n = v) : kOK E p l e R s m args below meth c α0 nL nc0 ns0 res pc (kTo (pc + 1)) (oS (gPush (.int v))) := ok_push (fun _ => rfl) fun rest H locs ce sl ls Q k => lv_iconst C.1 C.2.1 hd hv k
theorem ok_bipush {n : Int} {v : Int32} (C : kCx E XX σ zs p l e R s m args below meth c α0 cc nL nc0 ns0 res own ws) (hd : decode cc pc = .ok (.bipush n, 2)) (hv : (Int8.ofInt n).toInt32 = v) : kOK E p l e R s m args below meth c α0 nL nc0 ns0 res pc (kTo (pc + 2)) (oS (gPush (.int v))) := ok_push (fun _ => rfl) fun rest H locs ce sl ls Q k => lv_bipush C.1 C.2.1 hd hv k
theorem ok_sipush {n : Int} {v : Int32} (C : kCx E XX σ zs p l e R s m args below meth c α0 cc nL nc0 ns0 res own ws) (hd : decode cc pc = .ok (.sipush n, 3)) (hv : (Int16.ofInt n).toInt32 = v) : kOK E p l e R s m args below meth c α0 nL nc0 ns0 res pc (kTo (pc + 3)) (oS (gPush (.int v))) := ok_push (fun _ => rfl) fun rest H locs ce sl ls Q k => lv_sipush C.1 C.2.1 hd hv k
theorem ok_lconst {n : Fin 2} {v : Int64} (C : kCx E XX σ zs p l e R s m args below meth c α0 cc nL nc0 ns0 res own ws) (hd : decode cc pc = .ok (.lconst n, 1)) (hv : Int64.ofNat (n : Nat) = v) : kOK E p l e R s m args below meth c α0 nL nc0 ns0 res pc (kTo (pc + 1)) (oS (gPush (.long v))) := ok_push (fun _ => rfl) fun rest H locs ce sl ls Q k => lv_lconst C.1 C.2.1 hd hv k
theorem ok_dconst0 (C : kCx E XX σ zs p l e R s m args below meth c α0 cc nL nc0 ns0 res own ws) (hd : decode cc pc = .ok (.dconst 0, 1)) : kOK E p l e R s m args below meth c α0 nL nc0 ns0 res pc (kTo (pc + 1)) (oS (gPush (.double FP.dconst0))) := ok_push (fun _ => rfl) fun rest H locs ce sl ls Q k => lv_dconst0 C.1 C.2.1 hd k
theorem ok_null (C : kCx E XX σ zs p l e R s m args below meth c α0 cc nL nc0 ns0 res own ws) (hd : decode cc pc = .ok (.aconst_null, 1)) : kOK E p l e R s m args below meth c α0 nL nc0 ns0 res pc (kTo (pc + 1)) (oS (gPush .null)) := ok_push (fun _ => rfl) fun rest H locs ce sl ls Q k => lv_null C.1 C.2.1 hd k
theorem ok_ldc {v : Int32} {ix : Nat} (C : kCx E XX σ zs p l e R s m args below meth c α0 cc nL nc0 ns0 res own ws) (hd : decode cc pc = .ok (.ldc ix, 2)) (hw : Jvm.Cond.constant own ix v ∈ ws) : kOK E p l e R s m args below meth c α0 nL nc0 ns0 res pc (kTo (pc + 2)) (oS (gPush (.int v))) := ok_push (fun _ => rfl) fun rest H locs ce sl ls Q k => lv_ldc C.1 C.2.1 C.2.2.2.1 (C.2.2.2.2.1 _ hw) hd k
theorem ok_ldc2 {v : Int64} {ix : Nat} (C : kCx E XX σ zs p l e R s m args below meth c α0 cc nL nc0 ns0 res own ws) (hd : decode cc pc = .ok (.ldc2_w ix, 3)) (hw : Jvm.Cond.constantLong own ix v ∈ ws) : kOK E p l e R s m args below meth c α0 nL nc0 ns0 res pc (kTo (pc + 3)) (oS (gPush (.long v))) := ok_push (fun _ => rfl) fun rest H locs ce sl ls Q k => lv_ldc2 C.1 C.2.1 C.2.2.2.1 (C.2.2.2.2.1 _ hw) hd k
def gDup : List Value → Option (List Value) := fun S => match S with
  | v :: r => bif v.category == 1 then some (v :: v :: r) else none
  | _ => none
theorem ok_dup (C : kCx E XX σ zs p l e R s m args below meth c α0 cc nL nc0 ns0 res own ws) (hd : decode cc pc = .ok (.dup, 1)) : kOK E p l e R s m args below meth c α0 nL nc0 ns0 res pc (kTo (pc + 1)) (oS gDup) := by
  refine ok_S fun S S' h α st hs => ?_
  unfold gDup at h
  split at h
  · rename_i v r
    cases hq : (v.category == 1) with
    | false => rw [hq] at h; cases h
    | true =>
      rw [hq] at h
      cases h
      obtain ⟨w, b, rfl, h1, h2⟩ := kvS_cons hs
      exact ⟨_, kvS_mk h1 (kvS_mk h1 h2), fun H locs ce sl ls Q k => lv_dup C.1 C.2.1 hd (by rw [kv_cat h1]; simpa using hq) k⟩
  · cases h
def gPop : List Value → Option (List Value) := fun S => match S with
  | v :: r => bif v.category == 1 then some r else none
  | _ => none
theorem ok_pop (C : kCx E XX σ zs p l e R s m args below meth c α0 cc nL nc0 ns0 res own ws) (hd : decode cc pc = .ok (.pop, 1)) : kOK E p l e R s m args below meth c α0 nL nc0 ns0 res pc (kTo (pc + 1)) (oS gPop) := by
  refine ok_S fun S S' h α st hs => ?_
  unfold gPop at h
  split at h
  · rename_i v r
    cases hq : (v.category == 1) with
    | false => rw [hq] at h; cases h
    | true =>
      rw [hq] at h
      cases h
      obtain ⟨w, b, rfl, h1, h2⟩ := kvS_cons hs
      exact ⟨_, h2, fun H locs ce sl ls Q k => lv_pop C.1 C.2.1 hd (by rw [kv_cat h1]; simpa using hq) k⟩
  · cases h
def gDup2 : List Value → Option (List Value) := fun S => match S with
  | v :: u :: r => bif v.category == 1 && u.category == 1 then some (v :: u :: v :: u :: r) else none
  | _ => none
theorem ok_dup2 (C : kCx E XX σ zs p l e R s m args below meth c α0 cc nL nc0 ns0 res own ws) (hd : decode cc pc = .ok (.dup2, 1)) : kOK E p l e R s m args below meth c α0 nL nc0 ns0 res pc (kTo (pc + 1)) (oS gDup2) := by
  refine ok_S fun S S' h α st hs => ?_
  unfold gDup2 at h
  split at h
  · rename_i v u r
    cases hq : (v.category == 1 && u.category == 1) with
    | false => rw [hq] at h; cases h
    | true =>
      rw [hq] at h
      cases h
      simp only [Bool.and_eq_true, beq_iff_eq] at hq
      obtain ⟨w, b, rfl, h1, h2⟩ := kvS_cons hs
      obtain ⟨w2, b, rfl, h3, h4⟩ := kvS_cons h2
      exact ⟨_, kvS_mk h1 (kvS_mk h3 (kvS_mk h1 (kvS_mk h3 h4))), fun H locs ce sl ls Q k => lv_dup2_11 C.1 C.2.1 hd (by rw [kv_cat h1]; exact hq.1) (by rw [kv_cat h3]; exact hq.2) k⟩
  · cases h
def gDupX1 : List Value → Option (List Value) := fun S => match S with
  | v :: u :: r => bif v.category == 1 && u.category == 1 then some (v :: u :: v :: r) else none
  | _ => none
theorem ok_dupx1 (C : kCx E XX σ zs p l e R s m args below meth c α0 cc nL nc0 ns0 res own ws) (hd : decode cc pc = .ok (.dup_x1, 1)) : kOK E p l e R s m args below meth c α0 nL nc0 ns0 res pc (kTo (pc + 1)) (oS gDupX1) := by
  refine ok_S fun S S' h α st hs => ?_
  unfold gDupX1 at h
  split at h
  · rename_i v u r
    cases hq : (v.category == 1 && u.category == 1) with
    | false => rw [hq] at h; cases h
    | true =>
      rw [hq] at h
      cases h
      simp only [Bool.and_eq_true, beq_iff_eq] at hq
      obtain ⟨w, b, rfl, h1, h2⟩ := kvS_cons hs
      obtain ⟨w2, b, rfl, h3, h4⟩ := kvS_cons h2
      exact ⟨_, kvS_mk h1 (kvS_mk h3 (kvS_mk h1 h4)), fun H locs ce sl ls Q k => lv_dup_x1 C.1 C.2.1 hd (by rw [kv_cat h1]; exact hq.1) (by rw [kv_cat h3]; exact hq.2) k⟩
  · cases h
def gDupX2 : List Value → Option (List Value) := fun S => match S with
  | v :: u :: t :: r => bif v.category == 1 && (u.category == 1 && t.category == 1) then some (v :: u :: t :: v :: r) else none
  | _ => none
theorem ok_dupx2 (C : kCx E XX σ zs p l e R s m args below meth c α0 cc nL nc0 ns0 res own ws) (hd : decode cc pc = .ok (.dup_x2, 1)) : kOK E p l e R s m args below meth c α0 nL nc0 ns0 res pc (kTo (pc + 1)) (oS gDupX2) := by
  refine ok_S fun S S' h α st hs => ?_
  unfold gDupX2 at h
  split at h
  · rename_i v u t r
    cases hq : (v.category == 1 && (u.category == 1 && t.category == 1)) with
    | false => rw [hq] at h; cases h
    | true =>
      rw [hq] at h
      cases h
      simp only [Bool.and_eq_true, beq_iff_eq] at hq
      obtain ⟨w, b, rfl, h1, h2⟩ := kvS_cons hs
      obtain ⟨w2, b, rfl, h3, h4⟩ := kvS_cons h2
      obtain ⟨w3, b, rfl, h5, h6⟩ := kvS_cons h4
      exact ⟨_, kvS_mk h1 (kvS_mk h3 (kvS_mk h5 (kvS_mk h1 h6))), fun H locs ce sl ls Q k => lv_dup_x2 C.1 C.2.1 hd (by rw [kv_cat h1]; exact hq.1) (by rw [kv_cat h3]; exact hq.2.1) (by rw [kv_cat h5]; exact hq.2.2) k⟩
  · cases h
end KOPS
end
section
/-! ===== locals, branches, returns ===== -/
section KLOC
variable {p : Program} {l : Launch} {e : Env} {R : Room} {s : State} {m : MethodId} {args : Array Value} {below : List Frame} {meth : Method} {c : Code}
variable {E : kE} {XX : State → Prop} {σ α0 : List Nat} {cc : ByteArray} {nL nc0 ns0 : Nat} {res : kRes} {pc pc' : Nat} {own : String} {ws : List Cond} {zs : List (String × String × Nat)}
def oLoadI (i : Nat) : kOp := fun fs => match kget fs.1 i with
  | some (.int x) => some (.inl (0, (fs.1, .int x :: fs.2.1, fs.2.2)))
  | _ => none
theorem ok_iloadn {k : Fin 4} {i : Nat} (C : kCx E XX σ zs p l e R s m args below meth c α0 cc nL nc0 ns0 res own ws) (hd : decode cc pc = .ok (.iload_n k, 1)) (hk : (k : Nat) = i) : kOK E p l e R s m args below meth c α0 nL nc0 ns0 res pc (kTo (pc + 1)) (oLoadI i) := by
  intro fs r h
  unfold oLoadI at h
  split at h
  · rename_i x hx
    cases h
    refine ⟨Nat.le_refl _, Nat.le_refl _, fun _ _ k2 => ?_⟩
    intro α H locs ls lv st hp hR hV hL hl hs h1 h2
    obtain ⟨w, hw, hmem⟩ := kget_spec hx hL
    have hw0 := hw
    cases hw
    exact lv_iload_n C.1 C.2.1 hd hk (hl.2.2 _ hmem) (k2 α H locs ls lv _ hp hR hV hL hl (kvS_mk hw0 hs) h1 h2)
  · cases h
theorem ok_iload {i : Nat} (C : kCx E XX σ zs p l e R s m args below meth c α0 cc nL nc0 ns0 res own ws) (hd : decode cc pc = .ok (.iload i, 2)) : kOK E p l e R s m args below meth c α0 nL nc0 ns0 res pc (kTo (pc + 2)) (oLoadI i) := by
  intro fs r h
  unfold oLoadI at h
  split at h
  · rename_i x hx
    cases h
    refine ⟨Nat.le_refl _, Nat.le_refl _, fun _ _ k2 => ?_⟩
    intro α H locs ls lv st hp hR hV hL hl hs h1 h2
    obtain ⟨w, hw, hmem⟩ := kget_spec hx hL
    have hw0 := hw
    cases hw
    exact lv_iload C.1 C.2.1 hd (hl.2.2 _ hmem) (k2 α H locs ls lv _ hp hR hV hL hl (kvS_mk hw0 hs) h1 h2)
  · cases h
def oLoadL (i : Nat) : kOp := fun fs => match kget fs.1 i with
  | some (.long x) => some (.inl (0, (fs.1, .long x :: fs.2.1, fs.2.2)))
  | _ => none
theorem ok_lloadn {k : Fin 4} {i : Nat} (C : kCx E XX σ zs p l e R s m args below meth c α0 cc nL nc0 ns0 res own ws) (hd : decode cc pc = .ok (.lload_n k, 1)) (hk : (k : Nat) = i) : kOK E p l e R s m args below meth c α0 nL nc0 ns0 res pc (kTo (pc + 1)) (oLoadL i) := by
  intro fs r h
  unfold oLoadL at h
  split at h
  · rename_i x hx
    cases h
    refine ⟨Nat.le_refl _, Nat.le_refl _, fun _ _ k2 => ?_⟩
    intro α H locs ls lv st hp hR hV hL hl hs h1 h2
    obtain ⟨w, hw, hmem⟩ := kget_spec hx hL
    have hw0 := hw
    cases hw
    exact lv_lload_n C.1 C.2.1 hd hk (hl.2.2 _ hmem) (k2 α H locs ls lv _ hp hR hV hL hl (kvS_mk hw0 hs) h1 h2)
  · cases h
theorem ok_lload {i : Nat} (C : kCx E XX σ zs p l e R s m args below meth c α0 cc nL nc0 ns0 res own ws) (hd : decode cc pc = .ok (.lload i, 2)) : kOK E p l e R s m args below meth c α0 nL nc0 ns0 res pc (kTo (pc + 2)) (oLoadL i) := by
  intro fs r h
  unfold oLoadL at h
  split at h
  · rename_i x hx
    cases h
    refine ⟨Nat.le_refl _, Nat.le_refl _, fun _ _ k2 => ?_⟩
    intro α H locs ls lv st hp hR hV hL hl hs h1 h2
    obtain ⟨w, hw, hmem⟩ := kget_spec hx hL
    have hw0 := hw
    cases hw
    exact lv_lload C.1 C.2.1 hd (hl.2.2 _ hmem) (k2 α H locs ls lv _ hp hR hV hL hl (kvS_mk hw0 hs) h1 h2)
  · cases h
def oLoadD (i : Nat) : kOp := fun fs => match kget fs.1 i with
  | some (.double x) => some (.inl (0, (fs.1, .double x :: fs.2.1, fs.2.2)))
  | _ => none
theorem ok_dloadn {k : Fin 4} {i : Nat} (C : kCx E XX σ zs p l e R s m args below meth c α0 cc nL nc0 ns0 res own ws) (hd : decode cc pc = .ok (.dload_n k, 1)) (hk : (k : Nat) = i) : kOK E p l e R s m args below meth c α0 nL nc0 ns0 res pc (kTo (pc + 1)) (oLoadD i) := by
  intro fs r h
  unfold oLoadD at h
  split at h
  · rename_i x hx
    cases h
    refine ⟨Nat.le_refl _, Nat.le_refl _, fun _ _ k2 => ?_⟩
    intro α H locs ls lv st hp hR hV hL hl hs h1 h2
    obtain ⟨w, hw, hmem⟩ := kget_spec hx hL
    have hw0 := hw
    cases hw
    exact lv_dload_n C.1 C.2.1 hd hk (hl.2.2 _ hmem) (k2 α H locs ls lv _ hp hR hV hL hl (kvS_mk hw0 hs) h1 h2)
  · cases h
theorem ok_dload {i : Nat} (C : kCx E XX σ zs p l e R s m args below meth c α0 cc nL nc0 ns0 res own ws) (hd : decode cc pc = .ok (.dload i, 2)) : kOK E p l e R s m args below meth c α0 nL nc0 ns0 res pc (kTo (pc + 2)) (oLoadD i) := by
  intro fs r h
  unfold oLoadD at h
  split at h
  · rename_i x hx
    cases h
    refine ⟨Nat.le_refl _, Nat.le_refl _, fun _ _ k2 => ?_⟩
    intro α H locs ls lv st hp hR hV hL hl hs h1 h2
    obtain ⟨w, hw, hmem⟩ := kget_spec hx hL
    have hw0 := hw
    cases hw
    exact lv_dload C.1 C.2.1 hd (hl.2.2 _ hmem) (k2 α H locs ls lv _ hp hR hV hL hl (kvS_mk hw0 hs) h1 h2)
  · cases h
def oLoadA (i : Nat) : kOp := fun fs => match kget fs.1 i with
  | some (.ref x) => some (.inl (0, (fs.1, .ref x :: fs.2.1, fs.2.2)))
  | _ => none
theorem ok_aloadn {k : Fin 4} {i : Nat} (C : kCx E XX σ zs p l e R s m args below meth c α0 cc nL nc0 ns0 res own ws) (hd : decode cc pc = .ok (.aload_n k, 1)) (hk : (k : Nat) = i) : kOK E p l e R s m args below meth c α0 nL nc0 ns0 res pc (kTo (pc + 1)) (oLoadA i) := by
  intro fs r h
  unfold oLoadA at h
  split at h
  · rename_i x hx
    cases h
    refine ⟨Nat.le_refl _, Nat.le_refl _, fun _ _ k2 => ?_⟩
    intro α H locs ls lv st hp hR hV hL hl hs h1 h2
    obtain ⟨w, hw, hmem⟩ := kget_spec hx hL
    have hw0 := hw
    obtain ⟨a, ha, rfl⟩ := kv_refI hw
    exact lv_aload_n C.1 C.2.1 hd hk (hl.2.2 _ hmem) (k2 α H locs ls lv _ hp hR hV hL hl (kvS_mk hw0 hs) h1 h2)
  · cases h
theorem ok_aload {i : Nat} (C : kCx E XX σ zs p l e R s m args below meth c α0 cc nL nc0 ns0 res own ws) (hd : decode cc pc = .ok (.aload i, 2)) : kOK E p l e R s m args below meth c α0 nL nc0 ns0 res pc (kTo (pc + 2)) (oLoadA i) := by
  intro fs r h
  unfold oLoadA at h
  split at h
  · rename_i x hx
    cases h
    refine ⟨Nat.le_refl _, Nat.le_refl _, fun _ _ k2 => ?_⟩
    intro α H locs ls lv st hp hR hV hL hl hs h1 h2
    obtain ⟨w, hw, hmem⟩ := kget_spec hx hL
    have hw0 := hw
    obtain ⟨a, ha, rfl⟩ := kv_refI hw
    exact lv_aload C.1 C.2.1 hd (hl.2.2 _ hmem) (k2 α H locs ls lv _ hp hR hV hL hl (kvS_mk hw0 hs) h1 h2)
  · cases h
def oLoadN (i : Nat) : kOp := fun fs => match kget fs.1 i with
  | some .null => some (.inl (0, (fs.1, .null :: fs.2.1, fs.2.2)))
  | _ => none
theorem ok_aloadNn {k : Fin 4} {i : Nat} (C : kCx E XX σ zs p l e R s m args below meth c α0 cc nL nc0 ns0 res own ws) (hd : decode cc pc = .ok (.aload_n k, 1)) (hk : (k : Nat) = i) : kOK E p l e R s m args below meth c α0 nL nc0 ns0 res pc (kTo (pc + 1)) (oLoadN i) := by
  intro fs r h
  unfold oLoadN at h
  split at h
  · rename_i hx
    cases h
    refine ⟨Nat.le_refl _, Nat.le_refl _, fun _ _ k2 => ?_⟩
    intro α H locs ls lv st hp hR hV hL hl hs h1 h2
    obtain ⟨w, hw, hmem⟩ := kget_spec hx hL
    have hw0 := hw
    cases hw
    exact lv_aload_nN C.1 C.2.1 hd hk (hl.2.2 _ hmem) (k2 α H locs ls lv _ hp hR hV hL hl (kvS_mk hw0 hs) h1 h2)
  · cases h
theorem ok_aloadN {i : Nat} (C : kCx E XX σ zs p l e R s m args below meth c α0 cc nL nc0 ns0 res own ws) (hd : decode cc pc = .ok (.aload i, 2)) : kOK E p l e R s m args below meth c α0 nL nc0 ns0 res pc (kTo (pc + 2)) (oLoadN i) := by
  intro fs r h
  unfold oLoadN at h
  split at h
  · rename_i hx
    cases h
    refine ⟨Nat.le_refl _, Nat.le_refl _, fun _ _ k2 => ?_⟩
    intro α H locs ls lv st hp hR hV hL hl hs h1 h2
    obtain ⟨w, hw, hmem⟩ := kget_spec hx hL
    have hw0 := hw
    cases hw
    exact lv_aloadN C.1 C.2.1 hd (hl.2.2 _ hmem) (k2 α H locs ls lv _ hp hR hV hL hl (kvS_mk hw0 hs) h1 h2)
  · cases h
def oLoadR (i : Nat) : kOp := fun fs => match kget fs.1 i with
  | some (.ref x) => some (.inl (0, (fs.1, .ref x :: fs.2.1, fs.2.2)))
  | some .null => some (.inl (0, (fs.1, .null :: fs.2.1, fs.2.2)))
  | _ => none
theorem oLoadR_or {i : Nat} {fs : kFS} {r : (Nat × kFS) ⊕ kRes} (h : oLoadR i fs = some r) : oLoadA i fs = some r ∨ oLoadN i fs = some r := by
  unfold oLoadR at h
  split at h
  · rename_i x hx
    exact Or.inl (by unfold oLoadA; rw [hx]; exact h)
  · rename_i hx
    exact Or.inr (by unfold oLoadN; rw [hx]; exact h)
  · cases h
theorem ok_aloadRn {k : Fin 4} {i : Nat} (C : kCx E XX σ zs p l e R s m args below meth c α0 cc nL nc0 ns0 res own ws) (hd : decode cc pc = .ok (.aload_n k, 1)) (hk : (k : Nat) = i) : kOK E p l e R s m args below meth c α0 nL nc0 ns0 res pc (kTo (pc + 1)) (oLoadR i) := by
  intro fs r h
  rcases oLoadR_or h with h1 | h1
  · exact ok_aloadn C hd hk fs r h1
  · exact ok_aloadNn C hd hk fs r h1
theorem ok_aloadR {i : Nat} (C : kCx E XX σ zs p l e R s m args below meth c α0 cc nL nc0 ns0 res own ws) (hd : decode cc pc = .ok (.aload i, 2)) : kOK E p l e R s m args below meth c α0 nL nc0 ns0 res pc (kTo (pc + 2)) (oLoadR i) := by
  intro fs r h
  rcases oLoadR_or h with h1 | h1
  · exact ok_aload C hd fs r h1
  · exact ok_aloadN C hd fs r h1
def oStoreI (i : Nat) : kOp := fun fs => match fs.2.1 with
  | .int x :: S => some (.inl (0, ((i, .int x) :: fs.1.filter (kf1 i), S, fs.2.2)))
  | _ => none
theorem ok_istoren {k : Fin 4} {i : Nat} (C : kCx E XX σ zs p l e R s m args below meth c α0 cc nL nc0 ns0 res own ws) (hd : decode cc pc = .ok (.istore_n k, 1)) (hk : (k : Nat) = i) (hn : i < nL) : kOK E p l e R s m args below meth c α0 nL nc0 ns0 res pc (kTo (pc + 1)) (oStoreI i) := by
  intro fs r h
  obtain ⟨L, S, hsx⟩ := fs
  unfold oStoreI at h
  split at h
  · rename_i hS
    cases h
    simp only at hS
    subst hS
    refine ⟨Nat.le_refl _, Nat.le_refl _, fun _ _ k2 => ?_⟩
    intro α H locs ls lv st hp hR hV hL hl hs h1 h2
    obtain ⟨st, rfl, h3⟩ := kvS_int hs
    exact lv_istore_n C.1 C.2.1 hd hk hl hn rfl fun ls' hl' => k2 α H locs ls' _ _ hp hR hV (kvL_mk (rfl) (kvL_filter _ (kf1_cat i) hL)) hl' h3 h1 h2
  · cases h
theorem ok_istore {i : Nat} (C : kCx E XX σ zs p l e R s m args below meth c α0 cc nL nc0 ns0 res own ws) (hd : decode cc pc = .ok (.istore i, 2)) (hn : i < nL) : kOK E p l e R s m args below meth c α0 nL nc0 ns0 res pc (kTo (pc + 2)) (oStoreI i) := by
  intro fs r h
  obtain ⟨L, S, hsx⟩ := fs
  unfold oStoreI at h
  split at h
  · rename_i hS
    cases h
    simp only at hS
    subst hS
    refine ⟨Nat.le_refl _, Nat.le_refl _, fun _ _ k2 => ?_⟩
    intro α H locs ls lv st hp hR hV hL hl hs h1 h2
    obtain ⟨st, rfl, h3⟩ := kvS_int hs
    exact lv_istore C.1 C.2.1 hd hl hn rfl fun ls' hl' => k2 α H locs ls' _ _ hp hR hV (kvL_mk (rfl) (kvL_filter _ (kf1_cat i) hL)) hl' h3 h1 h2
  · cases h
def oStoreL (i : Nat) : kOp := fun fs => match fs.2.1 with
  | .long x :: S => some (.inl (0, ((i, .long x) :: fs.1.filter (kf2 i), S, fs.2.2)))
  | _ => none
theorem ok_lstoren {k : Fin 4} {i : Nat} (C : kCx E XX σ zs p l e R s m args below meth c α0 cc nL nc0 ns0 res own ws) (hd : decode cc pc = .ok (.lstore_n k, 1)) (hk : (k : Nat) = i) (hn : i + 1 < nL) : kOK E p l e R s m args below meth c α0 nL nc0 ns0 res pc (kTo (pc + 1)) (oStoreL i) := by
  intro fs r h
  obtain ⟨L, S, hsx⟩ := fs
  unfold oStoreL at h
  split at h
  · rename_i hS
    cases h
    simp only at hS
    subst hS
    refine ⟨Nat.le_refl _, Nat.le_refl _, fun _ _ k2 => ?_⟩
    intro α H locs ls lv st hp hR hV hL hl hs h1 h2
    obtain ⟨st, rfl, h3⟩ := kvS_long hs
    exact lv_lstore_n C.1 C.2.1 hd hk hl hn rfl fun ls' hl' => k2 α H locs ls' _ _ hp hR hV (kvL_mk (rfl) (kvL_filter _ (kf2_cat i) hL)) hl' h3 h1 h2
  · cases h
theorem ok_lstore {i : Nat} (C : kCx E XX σ zs p l e R s m args below meth c α0 cc nL nc0 ns0 res own ws) (hd : decode cc pc = .ok (.lstore i, 2)) (hn : i + 1 < nL) : kOK E p l e R s m args below meth c α0 nL nc0 ns0 res pc (kTo (pc + 2)) (oStoreL i) := by
  intro fs r h
  obtain ⟨L, S, hsx⟩ := fs
  unfold oStoreL at h
  split at h
  · rename_i hS
    cases h
    simp only at hS
    subst hS
    refine ⟨Nat.le_refl _, Nat.le_refl _, fun _ _ k2 => ?_⟩
    intro α H locs ls lv st hp hR hV hL hl hs h1 h2
    obtain ⟨st, rfl, h3⟩ := kvS_long hs
    exact lv_lstore C.1 C.2.1 hd hl hn rfl fun ls' hl' => k2 α H locs ls' _ _ hp hR hV (kvL_mk (rfl) (kvL_filter _ (kf2_cat i) hL)) hl' h3 h1 h2
  · cases h
def oStoreD (i : Nat) : kOp := fun fs => match fs.2.1 with
  | .double x :: S => some (.inl (0, ((i, .double x) :: fs.1.filter (kf2 i), S, fs.2.2)))
  | _ => none
theorem ok_dstoren {k : Fin 4} {i : Nat} (C : kCx E XX σ zs p l e R s m args below meth c α0 cc nL nc0 ns0 res own ws) (hd : decode cc pc = .ok (.dstore_n k, 1)) (hk : (k : Nat) = i) (hn : i + 1 < nL) : kOK E p l e R s m args below meth c α0 nL nc0 ns0 res pc (kTo (pc + 1)) (oStoreD i) := by
  intro fs r h
  obtain ⟨L, S, hsx⟩ := fs
  unfold oStoreD at h
  split at h
  · rename_i hS
    cases h
    simp only at hS
    subst hS
    refine ⟨Nat.le_refl _, Nat.le_refl _, fun _ _ k2 => ?_⟩
    intro α H locs ls lv st hp hR hV hL hl hs h1 h2
    obtain ⟨st, rfl, h3⟩ := kvS_double hs
    exact lv_dstore_n C.1 C.2.1 hd hk hl hn rfl fun ls' hl' => k2 α H locs ls' _ _ hp hR hV (kvL_mk (rfl) (kvL_filter _ (kf2_cat i) hL)) hl' h3 h1 h2
  · cases h
theorem ok_dstore {i : Nat} (C : kCx E XX σ zs p l e R s m args below meth c α0 cc nL nc0 ns0 res own ws) (hd : decode cc pc = .ok (.dstore i, 2)) (hn : i + 1 < nL) : kOK E p l e R s m args below meth c α0 nL nc0 ns0 res pc (kTo (pc + 2)) (oStoreD i) := by
  intro fs r h
  obtain ⟨L, S, hsx⟩ := fs
  unfold oStoreD at h
  split at h
  · rename_i hS
    cases h
    simp only at hS
    subst hS
    refine ⟨Nat.le_refl _, Nat.le_refl _, fun _ _ k2 => ?_⟩
    intro α H locs ls lv st hp hR hV hL hl hs h1 h2
    obtain ⟨st, rfl, h3⟩ := kvS_double hs
    exact lv_dstore C.1 C.2.1 hd hl hn rfl fun ls' hl' => k2 α H locs ls' _ _ hp hR hV (kvL_mk (rfl) (kvL_filter _ (kf2_cat i) hL)) hl' h3 h1 h2
  · cases h
def oStoreA (i : Nat) : kOp := fun fs => match fs.2.1 with
  | .ref x :: S => some (.inl (0, ((i, .ref x) :: fs.1.filter (kf1 i), S, fs.2.2)))
  | _ => none
theorem ok_astoren {k : Fin 4} {i : Nat} (C : kCx E XX σ zs p l e R s m args below meth c α0 cc nL nc0 ns0 res own ws) (hd : decode cc pc = .ok (.astore_n k, 1)) (hk : (k : Nat) = i) (hn : i < nL) : kOK E p l e R s m args below meth c α0 nL nc0 ns0 res pc (kTo (pc + 1)) (oStoreA i) := by
  intro fs r h
  obtain ⟨L, S, hsx⟩ := fs
  unfold oStoreA at h
  split at h
  · rename_i hS
    cases h
    simp only at hS
    subst hS
    refine ⟨Nat.le_refl _, Nat.le_refl _, fun _ _ k2 => ?_⟩
    intro α H locs ls lv st hp hR hV hL hl hs h1 h2
    obtain ⟨a, st, rfl, ha, h3⟩ := kvS_ref hs
    exact lv_astore_n C.1 C.2.1 hd hk hl hn rfl fun ls' hl' => k2 α H locs ls' _ _ hp hR hV (kvL_mk (kv_ref ha) (kvL_filter _ (kf1_cat i) hL)) hl' h3 h1 h2
  · cases h
theorem ok_astore {i : Nat} (C : kCx E XX σ zs p l e R s m args below meth c α0 cc nL nc0 ns0 res own ws) (hd : decode cc pc = .ok (.astore i, 2)) (hn : i < nL) : kOK E p l e R s m args below meth c α0 nL nc0 ns0 res pc (kTo (pc + 2)) (oStoreA i) := by
  intro fs r h
  obtain ⟨L, S, hsx⟩ := fs
  unfold oStoreA at h
  split at h
  · rename_i hS
    cases h
    simp only at hS
    subst hS
    refine ⟨Nat.le_refl _, Nat.le_refl _, fun _ _ k2 => ?_⟩
    intro α H locs ls lv st hp hR hV hL hl hs h1 h2
    obtain ⟨a, st, rfl, ha, h3⟩ := kvS_ref hs
    exact lv_astore C.1 C.2.1 hd hl hn rfl fun ls' hl' => k2 α H locs ls' _ _ hp hR hV (kvL_mk (kv_ref ha) (kvL_filter _ (kf1_cat i) hL)) hl' h3 h1 h2
  · cases h
def oStoreN (i : Nat) : kOp := fun fs => match fs.2.1 with
  | .null :: S => some (.inl (0, ((i, .null) :: fs.1.filter (kf1 i), S, fs.2.2)))
  | _ => none
theorem ok_astoreNn {k : Fin 4} {i : Nat} (C : kCx E XX σ zs p l e R s m args below meth c α0 cc nL nc0 ns0 res own ws) (hd : decode cc pc = .ok (.astore_n k, 1)) (hk : (k : Nat) = i) (hn : i < nL) : kOK E p l e R s m args below meth c α0 nL nc0 ns0 res pc (kTo (pc + 1)) (oStoreN i) := by
  intro fs r h
  obtain ⟨L, S, hsx⟩ := fs
  unfold oStoreN at h
  split at h
  · rename_i hS
    cases h
    simp only at hS
    subst hS
    refine ⟨Nat.le_refl _, Nat.le_refl _, fun _ _ k2 => ?_⟩
    intro α H locs ls lv st hp hR hV hL hl hs h1 h2
    obtain ⟨st, rfl, h3⟩ := kvS_null hs
    exact lv_astore_nN C.1 C.2.1 hd hk hl hn rfl fun ls' hl' => k2 α H locs ls' _ _ hp hR hV (kvL_mk (rfl) (kvL_filter _ (kf1_cat i) hL)) hl' h3 h1 h2
  · cases h
theorem ok_astoreN {i : Nat} (C : kCx E XX σ zs p l e R s m args below meth c α0 cc nL nc0 ns0 res own ws) (hd : decode cc pc = .ok (.astore i, 2)) (hn : i < nL) : kOK E p l e R s m args below meth c α0 nL nc0 ns0 res pc (kTo (pc + 2)) (oStoreN i) := by
  intro fs r h
  obtain ⟨L, S, hsx⟩ := fs
  unfold oStoreN at h
  split at h
  · rename_i hS
    cases h
    simp only at hS
    subst hS
    refine ⟨Nat.le_refl _, Nat.le_refl _, fun _ _ k2 => ?_⟩
    intro α H locs ls lv st hp hR hV hL hl hs h1 h2
    obtain ⟨st, rfl, h3⟩ := kvS_null hs
    exact lv_astoreN C.1 C.2.1 hd hl hn rfl fun ls' hl' => k2 α H locs ls' _ _ hp hR hV (kvL_mk (rfl) (kvL_filter _ (kf1_cat i) hL)) hl' h3 h1 h2
  · cases h
def oStoreR (i : Nat) : kOp := fun fs => match fs.2.1 with
  | .ref x :: S => some (.inl (0, ((i, .ref x) :: fs.1.filter (kf1 i), S, fs.2.2)))
  | .null :: S => some (.inl (0, ((i, .null) :: fs.1.filter (kf1 i), S, fs.2.2)))
  | _ => none
theorem oStoreR_or {i : Nat} {fs : kFS} {r : (Nat × kFS) ⊕ kRes} (h : oStoreR i fs = some r) : oStoreA i fs = some r ∨ oStoreN i fs = some r := by
  unfold oStoreR at h
  split at h
  · rename_i hx
    exact Or.inl (by unfold oStoreA; rw [hx]; exact h)
  · rename_i hx
    exact Or.inr (by unfold oStoreN; rw [hx]; exact h)
  · cases h
theorem ok_astoreRn {k : Fin 4} {i : Nat} (C : kCx E XX σ zs p l e R s m args below meth c α0 cc nL nc0 ns0 res own ws) (hd : decode cc pc = .ok (.astore_n k, 1)) (hk : (k : Nat) = i) (hn : i < nL) : kOK E p l e R s m args below meth c α0 nL nc0 ns0 res pc (kTo (pc + 1)) (oStoreR i) := by
  intro fs r h
  rcases oStoreR_or h with h1 | h1
  · exact ok_astoren C hd hk hn fs r h1
  · exact ok_astoreNn C hd hk hn fs r h1
theorem ok_astoreR {i : Nat} (C : kCx E XX σ zs p l e R s m args below meth c α0 cc nL nc0 ns0 res own ws) (hd : decode cc pc = .ok (.astore i, 2)) (hn : i < nL) : kOK E p l e R s m args below meth c α0 nL nc0 ns0 res pc (kTo (pc + 2)) (oStoreR i) := by
  intro fs r h
  rcases oStoreR_or h with h1 | h1
  · exact ok_astore C hd hn fs r h1
  · exact ok_astoreN C hd hn fs r h1
def oIinc (i : Nat) (d : Int32) : kOp := fun fs => match kget fs.1 i with
  | some (.int x) => some (.inl (0, ((i, .int (x + d)) :: fs.1.filter (kf1 i), fs.2.1, fs.2.2)))
  | _ => none
theorem ok_iinc {i : Nat} {n : Int} {d : Int32} (C : kCx E XX σ zs p l e R s m args below meth c α0 cc nL nc0 ns0 res own ws) (hd : decode cc pc = .ok (.iinc i n, 3)) (hdn : Int32.ofInt n = d) (hn : i < nL) : kOK E p l e R s m args below meth c α0 nL nc0 ns0 res pc (kTo (pc + 3)) (oIinc i d) := by
  intro fs r h
  unfold oIinc at h
  split at h
  · rename_i x hx
    cases h
    refine ⟨Nat.le_refl _, Nat.le_refl _, fun _ _ k2 => ?_⟩
    intro α H locs ls lv st hp hR hV hL hl hs h1 h2
    obtain ⟨w, hw, hmem⟩ := kget_spec hx hL
    cases hw
    obtain ⟨k, hk⟩ := List.getElem?_of_mem hmem
    exact lv_iinc C.1 C.2.1 hd hl hk (by rw [hdn]) hn rfl fun ls' hl' => k2 α H locs ls' _ _ hp hR hV (kvL_mk rfl (kvL_filter _ (kf1_cat i) hL)) hl' hs h1 h2
  · cases h
/-- the end of a block: a test of the top int -/
def tIf (f : Int32 → Bool) (b1 b2 : Nat) : kOp := fun fs => match fs.2.1 with
  | .int x :: S => some (.inl (bif f x then b1 else b2, (fs.1, S, fs.2.2)))
  | _ => none
def tCmp (f : Int32 → Int32 → Bool) (b1 b2 : Nat) : kOp := fun fs => match fs.2.1 with
  | .int y :: .int x :: S => some (.inl (bif f x y then b1 else b2, (fs.1, S, fs.2.2)))
  | _ => none
theorem ok_if_eq {off : Int} {tgt b1 b2 : Nat} {pcs : Nat → Nat} (C : kCx E XX σ zs p l e R s m args below meth c α0 cc nL nc0 ns0 res own ws) (hd : decode cc pc = .ok (.ifCond .eq off, 3)) (ht : (pc : Int) + off = (tgt : Int)) (hb1 : pcs b1 = tgt) (hb2 : pcs b2 = pc + 3) : kOK E p l e R s m args below meth c α0 nL nc0 ns0 res pc pcs (tIf (fun x => decide (x = 0)) b1 b2) := by
  intro fs r h
  obtain ⟨L, S, hsx⟩ := fs
  unfold tIf at h
  split at h
  · rename_i hS
    cases h
    simp only at hS
    subst hS
    refine ⟨Nat.le_refl _, Nat.le_refl _, fun _ _ k2 => ?_⟩
    intro α H locs ls lv st hp hR hV hL hl hs h1 h2
    obtain ⟨st, rfl, hg⟩ := kvS_int hs
    refine lv_if_eq C.1 C.2.1 hd ht (fun hc => ?_) (fun hc => ?_)
    · have k3 := k2 α H locs ls lv st hp hR hV hL hl hg h1 h2
      simp only [hc, decide_true, decide_false, cond_true, cond_false, Bool.not_true, Bool.not_false, not_true, not_false_eq_true, hb1] at k3
      exact k3
    · have k3 := k2 α H locs ls lv st hp hR hV hL hl hg h1 h2
      simp only [hc, decide_true, decide_false, cond_true, cond_false, Bool.not_true, Bool.not_false, not_true, not_false_eq_true, hb2] at k3
      exact k3
  · cases h
theorem ok_icmp_eq {off : Int} {tgt b1 b2 : Nat} {pcs : Nat → Nat} (C : kCx E XX σ zs p l e R s m args below meth c α0 cc nL nc0 ns0 res own ws) (hd : decode cc pc = .ok (.if_icmp .eq off, 3)) (ht : (pc : Int) + off = (tgt : Int)) (hb1 : pcs b1 = tgt) (hb2 : pcs b2 = pc + 3) : kOK E p l e R s m args below meth c α0 nL nc0 ns0 res pc pcs (tCmp (fun x y => decide (x = y)) b1 b2) := by
  intro fs r h
  obtain ⟨L, S, hsx⟩ := fs
  unfold tCmp at h
  split at h
  · rename_i hS
    cases h
    simp only at hS
    subst hS
    refine ⟨Nat.le_refl _, Nat.le_refl _, fun _ _ k2 => ?_⟩
    intro α H locs ls lv st hp hR hV hL hl hs h1 h2
    obtain ⟨st1, rfl, hg1⟩ := kvS_int hs
    obtain ⟨st, rfl, hg⟩ := kvS_int hg1
    refine lv_icmp_eq C.1 C.2.1 hd ht (fun hc => ?_) (fun hc => ?_)
    · have k3 := k2 α H locs ls lv st hp hR hV hL hl hg h1 h2
      simp only [hc, decide_true, decide_false, cond_true, cond_false, Bool.not_true, Bool.not_false, not_true, not_false_eq_true, hb1] at k3
      exact k3
    · have k3 := k2 α H locs ls lv st hp hR hV hL hl hg h1 h2
      simp only [hc, decide_true, decide_false, cond_true, cond_false, Bool.not_true, Bool.not_false, not_true, not_false_eq_true, hb2] at k3
      exact k3
  · cases h
theorem ok_if_ne {off : Int} {tgt b1 b2 : Nat} {pcs : Nat → Nat} (C : kCx E XX σ zs p l e R s m args below meth c α0 cc nL nc0 ns0 res own ws) (hd : decode cc pc = .ok (.ifCond .ne off, 3)) (ht : (pc : Int) + off = (tgt : Int)) (hb1 : pcs b1 = tgt) (hb2 : pcs b2 = pc + 3) : kOK E p l e R s m args below meth c α0 nL nc0 ns0 res pc pcs (tIf (fun x => !decide (x = 0)) b1 b2) := by
  intro fs r h
  obtain ⟨L, S, hsx⟩ := fs
  unfold tIf at h
  split at h
  · rename_i hS
    cases h
    simp only at hS
    subst hS
    refine ⟨Nat.le_refl _, Nat.le_refl _, fun _ _ k2 => ?_⟩
    intro α H locs ls lv st hp hR hV hL hl hs h1 h2
    obtain ⟨st, rfl, hg⟩ := kvS_int hs
    refine lv_if_ne C.1 C.2.1 hd ht (fun hc => ?_) (fun hc => ?_)
    · have k3 := k2 α H locs ls lv st hp hR hV hL hl hg h1 h2
      simp only [hc, decide_true, decide_false, cond_true, cond_false, Bool.not_true, Bool.not_false, not_true, not_false_eq_true, hb1] at k3
      exact k3
    · have k3 := k2 α H locs ls lv st hp hR hV hL hl hg h1 h2
      simp only [hc, decide_true, decide_false, cond_true, cond_false, Bool.not_true, Bool.not_false, not_true, not_false_eq_true, hb2] at k3
      exact k3
  · cases h
theorem ok_icmp_ne {off : Int} {tgt b1 b2 : Nat} {pcs : Nat → Nat} (C : kCx E XX σ zs p l e R s m args below meth c α0 cc nL nc0 ns0 res own ws) (hd : decode cc pc = .ok (.if_icmp .ne off, 3)) (ht : (pc : Int) + off = (tgt : Int)) (hb1 : pcs b1 = tgt) (hb2 : pcs b2 = pc + 3) : kOK E p l e R s m args below meth c α0 nL nc0 ns0 res pc pcs (tCmp (fun x y => !decide (x = y)) b1 b2) := by
  intro fs r h
  obtain ⟨L, S, hsx⟩ := fs
  unfold tCmp at h
  split at h
  · rename_i hS
    cases h
    simp only at hS
    subst hS
    refine ⟨Nat.le_refl _, Nat.le_refl _, fun _ _ k2 => ?_⟩
    intro α H locs ls lv st hp hR hV hL hl hs h1 h2
    obtain ⟨st1, rfl, hg1⟩ := kvS_int hs
    obtain ⟨st, rfl, hg⟩ := kvS_int hg1
    refine lv_icmp_ne C.1 C.2.1 hd ht (fun hc => ?_) (fun hc => ?_)
    · have k3 := k2 α H locs ls lv st hp hR hV hL hl hg h1 h2
      simp only [hc, decide_true, decide_false, cond_true, cond_false, Bool.not_true, Bool.not_false, not_true, not_false_eq_true, hb1] at k3
      exact k3
    · have k3 := k2 α H locs ls lv st hp hR hV hL hl hg h1 h2
      simp only [hc, decide_true, decide_false, cond_true, cond_false, Bool.not_true, Bool.not_false, not_true, not_false_eq_true, hb2] at k3
      exact k3
  · cases h
theorem ok_if_lt {off : Int} {tgt b1 b2 : Nat} {pcs : Nat → Nat} (C : kCx E XX σ zs p l e R s m args below meth c α0 cc nL nc0 ns0 res own ws) (hd : decode cc pc = .ok (.ifCond .lt off, 3)) (ht : (pc : Int) + off = (tgt : Int)) (hb1 : pcs b1 = tgt) (hb2 : pcs b2 = pc + 3) : kOK E p l e R s m args below meth c α0 nL nc0 ns0 res pc pcs (tIf (fun x => decide (x < 0)) b1 b2) := by
  intro fs r h
  obtain ⟨L, S, hsx⟩ := fs
  unfold tIf at h
  split at h
  · rename_i hS
    cases h
    simp only at hS
    subst hS
    refine ⟨Nat.le_refl _, Nat.le_refl _, fun _ _ k2 => ?_⟩
    intro α H locs ls lv st hp hR hV hL hl hs h1 h2
    obtain ⟨st, rfl, hg⟩ := kvS_int hs
    refine lv_if_lt C.1 C.2.1 hd ht (fun hc => ?_) (fun hc => ?_)
    · have k3 := k2 α H locs ls lv st hp hR hV hL hl hg h1 h2
      simp only [hc, decide_true, decide_false, cond_true, cond_false, Bool.not_true, Bool.not_false, not_true, not_false_eq_true, hb1] at k3
      exact k3
    · have k3 := k2 α H locs ls lv st hp hR hV hL hl hg h1 h2
      simp only [hc, decide_true, decide_false, cond_true, cond_false, Bool.not_true, Bool.not_false, not_true, not_false_eq_true, hb2] at k3
      exact k3
  · cases h
theorem ok_icmp_lt {off : Int} {tgt b1 b2 : Nat} {pcs : Nat → Nat} (C : kCx E XX σ zs p l e R s m args below meth c α0 cc nL nc0 ns0 res own ws) (hd : decode cc pc = .ok (.if_icmp .lt off, 3)) (ht : (pc : Int) + off = (tgt : Int)) (hb1 : pcs b1 = tgt) (hb2 : pcs b2 = pc + 3) : kOK E p l e R s m args below meth c α0 nL nc0 ns0 res pc pcs (tCmp (fun x y => decide (x < y)) b1 b2) := by
  intro fs r h
  obtain ⟨L, S, hsx⟩ := fs
  unfold tCmp at h
  split at h
  · rename_i hS
    cases h
    simp only at hS
    subst hS
    refine ⟨Nat.le_refl _, Nat.le_refl _, fun _ _ k2 => ?_⟩
    intro α H locs ls lv st hp hR hV hL hl hs h1 h2
    obtain ⟨st1, rfl, hg1⟩ := kvS_int hs
    obtain ⟨st, rfl, hg⟩ := kvS_int hg1
    refine lv_icmp_lt C.1 C.2.1 hd ht (fun hc => ?_) (fun hc => ?_)
    · have k3 := k2 α H locs ls lv st hp hR hV hL hl hg h1 h2
      simp only [hc, decide_true, decide_false, cond_true, cond_false, Bool.not_true, Bool.not_false, not_true, not_false_eq_true, hb1] at k3
      exact k3
    · have k3 := k2 α H locs ls lv st hp hR hV hL hl hg h1 h2
      simp only [hc, decide_true, decide_false, cond_true, cond_false, Bool.not_true, Bool.not_false, not_true, not_false_eq_true, hb2] at k3
      exact k3
  · cases h
theorem ok_if_ge {off : Int} {tgt b1 b2 : Nat} {pcs : Nat → Nat} (C : kCx E XX σ zs p l e R s m args below meth c α0 cc nL nc0 ns0 res own ws) (hd : decode cc pc = .ok (.ifCond .ge off, 3)) (ht : (pc : Int) + off = (tgt : Int)) (hb1 : pcs b1 = tgt) (hb2 : pcs b2 = pc + 3) : kOK E p l e R s m args below meth c α0 nL nc0 ns0 res pc pcs (tIf (fun x => decide (0 ≤ x)) b1 b2) := by
  intro fs r h
  obtain ⟨L, S, hsx⟩ := fs
  unfold tIf at h
  split at h
  · rename_i hS
    cases h
    simp only at hS
    subst hS
    refine ⟨Nat.le_refl _, Nat.le_refl _, fun _ _ k2 => ?_⟩
    intro α H locs ls lv st hp hR hV hL hl hs h1 h2
    obtain ⟨st, rfl, hg⟩ := kvS_int hs
    refine lv_if_ge C.1 C.2.1 hd ht (fun hc => ?_) (fun hc => ?_)
    · have k3 := k2 α H locs ls lv st hp hR hV hL hl hg h1 h2
      simp only [hc, decide_true, decide_false, cond_true, cond_false, Bool.not_true, Bool.not_false, not_true, not_false_eq_true, hb1] at k3
      exact k3
    · have k3 := k2 α H locs ls lv st hp hR hV hL hl hg h1 h2
      simp only [hc, decide_true, decide_false, cond_true, cond_false, Bool.not_true, Bool.not_false, not_true, not_false_eq_true, hb2] at k3
      exact k3
  · cases h
theorem ok_icmp_ge {off : Int} {tgt b1 b2 : Nat} {pcs : Nat → Nat} (C : kCx E XX σ zs p l e R s m args below meth c α0 cc nL nc0 ns0 res own ws) (hd : decode cc pc = .ok (.if_icmp .ge off, 3)) (ht : (pc : Int) + off = (tgt : Int)) (hb1 : pcs b1 = tgt) (hb2 : pcs b2 = pc + 3) : kOK E p l e R s m args below meth c α0 nL nc0 ns0 res pc pcs (tCmp (fun x y => decide (y ≤ x)) b1 b2) := by
  intro fs r h
  obtain ⟨L, S, hsx⟩ := fs
  unfold tCmp at h
  split at h
  · rename_i hS
    cases h
    simp only at hS
    subst hS
    refine ⟨Nat.le_refl _, Nat.le_refl _, fun _ _ k2 => ?_⟩
    intro α H locs ls lv st hp hR hV hL hl hs h1 h2
    obtain ⟨st1, rfl, hg1⟩ := kvS_int hs
    obtain ⟨st, rfl, hg⟩ := kvS_int hg1
    refine lv_icmp_ge C.1 C.2.1 hd ht (fun hc => ?_) (fun hc => ?_)
    · have k3 := k2 α H locs ls lv st hp hR hV hL hl hg h1 h2
      simp only [hc, decide_true, decide_false, cond_true, cond_false, Bool.not_true, Bool.not_false, not_true, not_false_eq_true, hb1] at k3
      exact k3
    · have k3 := k2 α H locs ls lv st hp hR hV hL hl hg h1 h2
      simp only [hc, decide_true, decide_false, cond_true, cond_false, Bool.not_true, Bool.not_false, not_true, not_false_eq_true, hb2] at k3
      exact k3
  · cases h
theorem ok_if_gt {off : Int} {tgt b1 b2 : Nat} {pcs : Nat → Nat} (C : kCx E XX σ zs p l e R s m args below meth c α0 cc nL nc0 ns0 res own ws) (hd : decode cc pc = .ok (.ifCond .gt off, 3)) (ht : (pc : Int) + off = (tgt : Int)) (hb1 : pcs b1 = tgt) (hb2 : pcs b2 = pc + 3) : kOK E p l e R s m args below meth c α0 nL nc0 ns0 res pc pcs (tIf (fun x => decide (0 < x)) b1 b2) := by
  intro fs r h
  obtain ⟨L, S, hsx⟩ := fs
  unfold tIf at h
  split at h
  · rename_i hS
    cases h
    simp only at hS
    subst hS
    refine ⟨Nat.le_refl _, Nat.le_refl _, fun _ _ k2 => ?_⟩
    intro α H locs ls lv st hp hR hV hL hl hs h1 h2
    obtain ⟨st, rfl, hg⟩ := kvS_int hs
    refine lv_if_gt C.1 C.2.1 hd ht (fun hc => ?_) (fun hc => ?_)
    · have k3 := k2 α H locs ls lv st hp hR hV hL hl hg h1 h2
      simp only [hc, decide_true, decide_false, cond_true, cond_false, Bool.not_true, Bool.not_false, not_true, not_false_eq_true, hb1] at k3
      exact k3
    · have k3 := k2 α H locs ls lv st hp hR hV hL hl hg h1 h2
      simp only [hc, decide_true, decide_false, cond_true, cond_false, Bool.not_true, Bool.not_false, not_true, not_false_eq_true, hb2] at k3
      exact k3
  · cases h
theorem ok_icmp_gt {off : Int} {tgt b1 b2 : Nat} {pcs : Nat → Nat} (C : kCx E XX σ zs p l e R s m args below meth c α0 cc nL nc0 ns0 res own ws) (hd : decode cc pc = .ok (.if_icmp .gt off, 3)) (ht : (pc : Int) + off = (tgt : Int)) (hb1 : pcs b1 = tgt) (hb2 : pcs b2 = pc + 3) : kOK E p l e R s m args below meth c α0 nL nc0 ns0 res pc pcs (tCmp (fun x y => decide (y < x)) b1 b2) := by
  intro fs r h
  obtain ⟨L, S, hsx⟩ := fs
  unfold tCmp at h
  split at h
  · rename_i hS
    cases h
    simp only at hS
    subst hS
    refine ⟨Nat.le_refl _, Nat.le_refl _, fun _ _ k2 => ?_⟩
    intro α H locs ls lv st hp hR hV hL hl hs h1 h2
    obtain ⟨st1, rfl, hg1⟩ := kvS_int hs
    obtain ⟨st, rfl, hg⟩ := kvS_int hg1
    refine lv_icmp_gt C.1 C.2.1 hd ht (fun hc => ?_) (fun hc => ?_)
    · have k3 := k2 α H locs ls lv st hp hR hV hL hl hg h1 h2
      simp only [hc, decide_true, decide_false, cond_true, cond_false, Bool.not_true, Bool.not_false, not_true, not_false_eq_true, hb1] at k3
      exact k3
    · have k3 := k2 α H locs ls lv st hp hR hV hL hl hg h1 h2
      simp only [hc, decide_true, decide_false, cond_true, cond_false, Bool.not_true, Bool.not_false, not_true, not_false_eq_true, hb2] at k3
      exact k3
  · cases h
theorem ok_if_le {off : Int} {tgt b1 b2 : Nat} {pcs : Nat → Nat} (C : kCx E XX σ zs p l e R s m args below meth c α0 cc nL nc0 ns0 res own ws) (hd : decode cc pc = .ok (.ifCond .le off, 3)) (ht : (pc : Int) + off = (tgt : Int)) (hb1 : pcs b1 = tgt) (hb2 : pcs b2 = pc + 3) : kOK E p l e R s m args below meth c α0 nL nc0 ns0 res pc pcs (tIf (fun x => decide (x ≤ 0)) b1 b2) := by
  intro fs r h
  obtain ⟨L, S, hsx⟩ := fs
  unfold tIf at h
  split at h
  · rename_i hS
    cases h
    simp only at hS
    subst hS
    refine ⟨Nat.le_refl _, Nat.le_refl _, fun _ _ k2 => ?_⟩
    intro α H locs ls lv st hp hR hV hL hl hs h1 h2
    obtain ⟨st, rfl, hg⟩ := kvS_int hs
    refine lv_if_le C.1 C.2.1 hd ht (fun hc => ?_) (fun hc => ?_)
    · have k3 := k2 α H locs ls lv st hp hR hV hL hl hg h1 h2
      simp only [hc, decide_true, decide_false, cond_true, cond_false, Bool.not_true, Bool.not_false, not_true, not_false_eq_true, hb1] at k3
      exact k3
    · have k3 := k2 α H locs ls lv st hp hR hV hL hl hg h1 h2
      simp only [hc, decide_true, decide_false, cond_true, cond_false, Bool.not_true, Bool.not_false, not_true, not_false_eq_true, hb2] at k3
      exact k3
  · cases h
theorem ok_icmp_le {off : Int} {tgt b1 b2 : Nat} {pcs : Nat → Nat} (C : kCx E XX σ zs p l e R s m args below meth c α0 cc nL nc0 ns0 res own ws) (hd : decode cc pc = .ok (.if_icmp .le off, 3)) (ht : (pc : Int) + off = (tgt : Int)) (hb1 : pcs b1 = tgt) (hb2 : pcs b2 = pc + 3) : kOK E p l e R s m args below meth c α0 nL nc0 ns0 res pc pcs (tCmp (fun x y => decide (x ≤ y)) b1 b2) := by
  intro fs r h
  obtain ⟨L, S, hsx⟩ := fs
  unfold tCmp at h
  split at h
  · rename_i hS
    cases h
    simp only at hS
    subst hS
    refine ⟨Nat.le_refl _, Nat.le_refl _, fun _ _ k2 => ?_⟩
    intro α H locs ls lv st hp hR hV hL hl hs h1 h2
    obtain ⟨st1, rfl, hg1⟩ := kvS_int hs
    obtain ⟨st, rfl, hg⟩ := kvS_int hg1
    refine lv_icmp_le C.1 C.2.1 hd ht (fun hc => ?_) (fun hc => ?_)
    · have k3 := k2 α H locs ls lv st hp hR hV hL hl hg h1 h2
      simp only [hc, decide_true, decide_false, cond_true, cond_false, Bool.not_true, Bool.not_false, not_true, not_false_eq_true, hb1] at k3
      exact k3
    · have k3 := k2 α H locs ls lv st hp hR hV hL hl hg h1 h2
      simp only [hc, decide_true, decide_false, cond_true, cond_false, Bool.not_true, Bool.not_false, not_true, not_false_eq_true, hb2] at k3
      exact k3
  · cases h
def tGo (b : Nat) : kOp := fun fs => some (.inl (b, fs))
theorem ok_goto {off : Int} {tgt b : Nat} {pcs : Nat → Nat} (C : kCx E XX σ zs p l e R s m args below meth c α0 cc nL nc0 ns0 res own ws) (hd : decode cc pc = .ok (.goto off, 3)) (ht : (pc : Int) + off = (tgt : Int)) (hb : pcs b = tgt) : kOK E p l e R s m args below meth c α0 nL nc0 ns0 res pc pcs (tGo b) := by
  intro fs r h
  cases h
  refine ⟨Nat.le_refl _, Nat.le_refl _, fun _ _ k2 => ?_⟩
  intro α H locs ls lv st hp hR hV hL hl hs h1 h2
  have k3 := k2 α H locs ls lv st hp hR hV hL hl hs h1 h2
  simp only [hb] at k3
  exact lv_goto C.1 C.2.1 hd ht k3
/-- the block ends where the next begins -/
theorem ok_fall {b : Nat} {pcs : Nat → Nat} (hb : pcs b = pc) : kOK E p l e R s m args below meth c α0 nL nc0 ns0 res pc pcs (tGo b) := by
  intro fs r h
  cases h
  refine ⟨Nat.le_refl _, Nat.le_refl _, fun _ _ k2 => ?_⟩
  intro α H locs ls lv st hp hR hV hL hl hs h1 h2
  have k3 := k2 α H locs ls lv st hp hR hV hL hl hs h1 h2
  simp only [hb] at k3
  exact k3
def tNull (b1 b2 : Nat) : kOp := fun fs => match fs.2.1 with
  | .null :: S => some (.inl (b1, (fs.1, S, fs.2.2)))
  | .ref _ :: S => some (.inl (b2, (fs.1, S, fs.2.2)))
  | _ => none
theorem ok_ifnull {off : Int} {tgt b1 b2 : Nat} {pcs : Nat → Nat} (C : kCx E XX σ zs p l e R s m args below meth c α0 cc nL nc0 ns0 res own ws) (hd : decode cc pc = .ok (.ifnull off, 3)) (ht : (pc : Int) + off = (tgt : Int)) (hb1 : pcs b1 = tgt) (hb2 : pcs b2 = pc + 3) : kOK E p l e R s m args below meth c α0 nL nc0 ns0 res pc pcs (tNull b1 b2) := by
  intro fs r h
  obtain ⟨L, S, hsx⟩ := fs
  unfold tNull at h
  split at h
  · rename_i hS
    cases h
    simp only at hS
    subst hS
    refine ⟨Nat.le_refl _, Nat.le_refl _, fun _ _ k2 => ?_⟩
    intro α H locs ls lv st hp hR hV hL hl hs h1 h2
    obtain ⟨st, rfl, hg⟩ := kvS_null hs
    have k3 := k2 α H locs ls lv st hp hR hV hL hl hg h1 h2
    simp only [hb1] at k3
    exact lv_ifnullN C.1 C.2.1 hd ht k3
  · rename_i hS
    cases h
    simp only at hS
    subst hS
    refine ⟨Nat.le_refl _, Nat.le_refl _, fun _ _ k2 => ?_⟩
    intro α H locs ls lv st hp hR hV hL hl hs h1 h2
    obtain ⟨a, st, rfl, ha, hg⟩ := kvS_ref hs
    have k3 := k2 α H locs ls lv st hp hR hV hL hl hg h1 h2
    simp only [hb2] at k3
    exact lv_ifnull C.1 C.2.1 hd k3
  · cases h
theorem ok_ifnonnull {off : Int} {tgt b1 b2 : Nat} {pcs : Nat → Nat} (C : kCx E XX σ zs p l e R s m args below meth c α0 cc nL nc0 ns0 res own ws) (hd : decode cc pc = .ok (.ifnonnull off, 3)) (ht : (pc : Int) + off = (tgt : Int)) (hb1 : pcs b1 = tgt) (hb2 : pcs b2 = pc + 3) : kOK E p l e R s m args below meth c α0 nL nc0 ns0 res pc pcs (tNull b2 b1) := by
  intro fs r h
  obtain ⟨L, S, hsx⟩ := fs
  unfold tNull at h
  split at h
  · rename_i hS
    cases h
    simp only at hS
    subst hS
    refine ⟨Nat.le_refl _, Nat.le_refl _, fun _ _ k2 => ?_⟩
    intro α H locs ls lv st hp hR hV hL hl hs h1 h2
    obtain ⟨st, rfl, hg⟩ := kvS_null hs
    have k3 := k2 α H locs ls lv st hp hR hV hL hl hg h1 h2
    simp only [hb2] at k3
    exact lv_ifnonnullN C.1 C.2.1 hd k3
  · rename_i hS
    cases h
    simp only at hS
    subst hS
    refine ⟨Nat.le_refl _, Nat.le_refl _, fun _ _ k2 => ?_⟩
    intro α H locs ls lv st hp hR hV hL hl hs h1 h2
    obtain ⟨a, st, rfl, ha, hg⟩ := kvS_ref hs
    have k3 := k2 α H locs ls lv st hp hR hV hL hl hg h1 h2
    simp only [hb1] at k3
    exact lv_ifnonnull C.1 C.2.1 hd ht k3
  · cases h
/-- a switch by a table -/
def tTab (lo : Int) (bs : List Nat) (bd : Nat) : kOp := fun fs => match fs.2.1 with
  | .int x :: S => some (.inl (bif decide (x.toInt < lo) then bd else (bs[(x.toInt - lo).toNat]?).getD bd, (fs.1, S, fs.2.2)))
  | _ => none
theorem ok_table {dflt lo hi : Int} {offs : Array Int} {len : Nat} {bs : List Nat} {bd td : Nat} {pcs : Nat → Nat} (C : kCx E XX σ zs p l e R s m args below meth c α0 cc nL nc0 ns0 res own ws) (hd : decode cc pc = .ok (.tableswitch dflt lo hi offs, len)) (hhi : hi = lo + bs.length - 1) (ho : offs.toList.map (fun o => (pc : Int) + o) = bs.map (fun b => ((pcs b : Nat) : Int))) (hdf : (pc : Int) + dflt = (td : Int)) (hbd : pcs bd = td) : kOK E p l e R s m args below meth c α0 nL nc0 ns0 res pc pcs (tTab lo bs bd) := by
  intro fs r h
  obtain ⟨L, S, hsx⟩ := fs
  unfold tTab at h
  split at h
  · rename_i x r hS
    cases h
    simp only at hS
    subst hS
    refine ⟨Nat.le_refl _, Nat.le_refl _, fun _ _ k2 => ?_⟩
    intro α H locs ls lv st hp hR hV hL hl hs h1 h2
    obtain ⟨st, rfl, hg⟩ := kvS_int hs
    have k3 := k2 α H locs ls lv st hp hR hV hL hl hg h1 h2
    by_cases c1 : x.toInt < lo
    · simp only [c1, decide_true, cond_true, hbd] at k3
      exact lv_tableOut C.1 C.2.1 hd (Or.inl c1) hdf k3
    · simp only [c1, decide_false, cond_false] at k3
      by_cases c2 : hi < x.toInt
      · have hn : bs[(x.toInt - lo).toNat]? = none := by
          rw [List.getElem?_eq_none_iff]; omega
        rw [hn] at k3
        simp only [Option.getD_none, hbd] at k3
        exact lv_tableOut C.1 C.2.1 hd (Or.inr c2) hdf k3
      · have hlt : (x.toInt - lo).toNat < bs.length := by omega
        have hlen : offs.toList.length = bs.length := by
          have := congrArg List.length ho
          simpa using this
        have hlt2 : (x.toInt - lo).toNat < offs.toList.length := by omega
        have e1 : bs[(x.toInt - lo).toNat]? = some (bs[(x.toInt - lo).toNat]'hlt) := List.getElem?_eq_getElem hlt
        have e2 : offs[(x.toInt - lo).toNat]? = some (offs.toList[(x.toInt - lo).toNat]'hlt2) := by
          rw [← Array.getElem?_toList]; exact List.getElem?_eq_getElem hlt2
        have e3 := congrArg (fun l => l[(x.toInt - lo).toNat]?) ho
        simp only [List.getElem?_map, e1, List.getElem?_eq_getElem hlt2, Option.map_some, Option.some.injEq] at e3
        rw [e1] at k3
        simp only [Option.getD_some] at k3
        exact lv_tableIn C.1 C.2.1 hd c1 c2 e2 e3 k3
  · cases h
theorem k_end {α : List Nat} {vo wo : Option Value} {h : List kCel} {H : Heap} {locs : List Loc} (hp : α0 <+: α) (hR : kRep E s α h H) (hV : va_S (fun q => kb E ≤ q) s.heap H locs) (hv : kvO α vo = some wo) {ce sl : Nat} (t : State) (ht : t.heap = H) (hW : s.WarmedH t.vm) : kQc E α0 (.inl vo, (h, ce, sl)) args s (.returned wo) t :=
  ⟨⟨α, vo, wo, hp, rfl, rfl, hv, by rw [ht]; exact hR.moved hW.alike⟩, hV.F ht⟩
def tIret : kOp := fun fs => match fs.2.1 with
  | [.int v] => some (.inr (.inl (some (.int v)), fs.2.2))
  | _ => none
theorem ok_ireturn {pcs : Nat → Nat} (C : kCx E XX σ zs p l e R s m args below meth c α0 cc nL nc0 ns0 res own ws) (hr : meth.sig.returnType = some .int) (hd : decode cc pc = .ok (.ireturn, 1)) : kOK E p l e R s m args below meth c α0 nL nc0 ns0 res pc pcs tIret := by
  intro fs r h
  obtain ⟨L, S, hsx⟩ := fs
  obtain ⟨hh, hc, hn⟩ := hsx
  unfold tIret at h
  split at h
  · rename_i v hS
    simp only at hS
    subst hS
    cases h
    refine ⟨Nat.le_refl _, Nat.le_refl _, fun hq => ?_⟩
    subst hq
    intro α H locs ls lv st hp hR hV hL hl hs h1 h2
    obtain ⟨st, rfl, hx⟩ := kvS_int hs
    cases hx
    refine vx_ret ?_
    exact W.iret C.1 C.2.1 hr (k_end hp hR hV rfl) hV.2.2 hd (hlocks := C.2.2.2.2.2.1)
  · cases h
def tLret : kOp := fun fs => match fs.2.1 with
  | [.long v] => some (.inr (.inl (some (.long v)), fs.2.2))
  | _ => none
theorem ok_lreturn {pcs : Nat → Nat} (C : kCx E XX σ zs p l e R s m args below meth c α0 cc nL nc0 ns0 res own ws) (hr : meth.sig.returnType = some .long) (hd : decode cc pc = .ok (.lreturn, 1)) : kOK E p l e R s m args below meth c α0 nL nc0 ns0 res pc pcs tLret := by
  intro fs r h
  obtain ⟨L, S, hsx⟩ := fs
  obtain ⟨hh, hc, hn⟩ := hsx
  unfold tLret at h
  split at h
  · rename_i v hS
    simp only at hS
    subst hS
    cases h
    refine ⟨Nat.le_refl _, Nat.le_refl _, fun hq => ?_⟩
    subst hq
    intro α H locs ls lv st hp hR hV hL hl hs h1 h2
    obtain ⟨st, rfl, hx⟩ := kvS_long hs
    cases hx
    refine vx_ret ?_
    exact W.lret C.1 C.2.1 hr (k_end hp hR hV rfl) hV.2.2 hd (hlocks := C.2.2.2.2.2.1)
  · cases h
def tDret : kOp := fun fs => match fs.2.1 with
  | [.double v] => some (.inr (.inl (some (.double v)), fs.2.2))
  | _ => none
theorem ok_dreturn {pcs : Nat → Nat} (C : kCx E XX σ zs p l e R s m args below meth c α0 cc nL nc0 ns0 res own ws) (hr : meth.sig.returnType = some .double) (hd : decode cc pc = .ok (.dreturn, 1)) : kOK E p l e R s m args below meth c α0 nL nc0 ns0 res pc pcs tDret := by
  intro fs r h
  obtain ⟨L, S, hsx⟩ := fs
  obtain ⟨hh, hc, hn⟩ := hsx
  unfold tDret at h
  split at h
  · rename_i v hS
    simp only at hS
    subst hS
    cases h
    refine ⟨Nat.le_refl _, Nat.le_refl _, fun hq => ?_⟩
    subst hq
    intro α H locs ls lv st hp hR hV hL hl hs h1 h2
    obtain ⟨st, rfl, hx⟩ := kvS_double hs
    cases hx
    refine vx_ret ?_
    exact W.dret C.1 C.2.1 hr (k_end hp hR hV rfl) hV.2.2 hd (hlocks := C.2.2.2.2.2.1)
  · cases h
def tZret : kOp := fun fs => match fs.2.1 with
  | [.int v] => bif v == 0 || v == 1 then some (.inr (.inl (some (.int v)), fs.2.2)) else none
  | _ => none
theorem ok_zreturn {pcs : Nat → Nat} (C : kCx E XX σ zs p l e R s m args below meth c α0 cc nL nc0 ns0 res own ws) (hr : meth.sig.returnType = some .boolean) (hd : decode cc pc = .ok (.ireturn, 1)) : kOK E p l e R s m args below meth c α0 nL nc0 ns0 res pc pcs tZret := by
  intro fs r h
  obtain ⟨L, S, hsx⟩ := fs
  obtain ⟨hh, hc, hn⟩ := hsx
  unfold tZret at h
  split at h
  · rename_i v hS
    simp only at hS
    subst hS
    cases hg : (v == 0 || v == 1) with
    | false => rw [hg] at h; cases h
    | true =>
    rw [hg] at h
    cases h
    refine ⟨Nat.le_refl _, Nat.le_refl _, fun hq => ?_⟩
    subst hq
    intro α H locs ls lv st hp hR hV hL hl hs h1 h2
    obtain ⟨st, rfl, hx⟩ := kvS_int hs
    cases hx
    refine vx_ret ?_
    exact W.zret C.1 C.2.1 hr (by simp only [Bool.or_eq_true, beq_iff_eq] at hg; rcases hg with rfl | rfl <;> rfl) (k_end hp hR hV rfl) hV.2.2 hd (hlocks := C.2.2.2.2.2.1)
  · cases h
def tVret : kOp := fun fs => match fs.2.1 with
  | [] => some (.inr (.inl none, fs.2.2))
  | _ => none
theorem ok_return {pcs : Nat → Nat} (C : kCx E XX σ zs p l e R s m args below meth c α0 cc nL nc0 ns0 res own ws) (hr : meth.sig.returnType = none) (hd : decode cc pc = .ok (.return_, 1)) : kOK E p l e R s m args below meth c α0 nL nc0 ns0 res pc pcs tVret := by
  intro fs r h
  obtain ⟨L, S, hsx⟩ := fs
  obtain ⟨hh, hc, hn⟩ := hsx
  unfold tVret at h
  split at h
  · rename_i hS
    simp only at hS
    subst hS
    cases h
    refine ⟨Nat.le_refl _, Nat.le_refl _, fun hq => ?_⟩
    subst hq
    intro α H locs ls lv st hp hR hV hL hl hs h1 h2
    cases hs
    refine vx_ret ?_
    exact W.vret C.1 C.2.1 hr (k_end hp hR hV rfl) hV.2.2 hd (hlocks := C.2.2.2.2.2.1)
  · cases h
def tAret : kOp := fun fs => match fs.2.1 with
  | [.ref v] => some (.inr (.inl (some (.ref v)), fs.2.2))
  | [.null] => some (.inr (.inl (some .null), fs.2.2))
  | _ => none
theorem ok_areturn {rt : FieldType} {pcs : Nat → Nat} (C : kCx E XX σ zs p l e R s m args below meth c α0 cc nL nc0 ns0 res own ws) (hr : meth.sig.returnType = some rt) (hrt : (∃ n, rt = .object n) ∨ ∃ t, rt = .array t) (hd : decode cc pc = .ok (.areturn, 1)) : kOK E p l e R s m args below meth c α0 nL nc0 ns0 res pc pcs tAret := by
  intro fs r h
  obtain ⟨L, S, hsx⟩ := fs
  obtain ⟨hh, hc, hn⟩ := hsx
  unfold tAret at h
  split at h
  · rename_i v hS
    simp only at hS
    subst hS
    cases h
    refine ⟨Nat.le_refl _, Nat.le_refl _, fun hq => ?_⟩
    subst hq
    intro α H locs ls lv st hp hR hV hL hl hs h1 h2
    obtain ⟨a, st, rfl, ha, hx⟩ := kvS_ref hs
    cases hx
    refine vx_ret ?_
    exact W.aret C.1 C.2.1 hr hrt (Or.inr ⟨a, rfl⟩) (k_end hp hR hV (by simp [kvO, kv_ref ha])) hV.2.2 hd (hlocks := C.2.2.2.2.2.1)
  · rename_i hS
    simp only at hS
    subst hS
    cases h
    refine ⟨Nat.le_refl _, Nat.le_refl _, fun hq => ?_⟩
    subst hq
    intro α H locs ls lv st hp hR hV hL hl hs h1 h2
    obtain ⟨st, rfl, hx⟩ := kvS_null hs
    cases hx
    refine vx_ret ?_
    exact W.aret C.1 C.2.1 hr hrt (Or.inl rfl) (k_end hp hR hV rfl) hV.2.2 hd (hlocks := C.2.2.2.2.2.1)
  · cases h
end KLOC
end
section
/-! ===== fields, arrays, new ===== -/
def kcell (n : Nat) (h : List kCel) (a : Nat) : Option kCel := bif Nat.ble n a then h[a - n]? else none
def kidx {τ : Type} (t : List τ) (i : Int32) : Option τ := bif decide (i < 0) then none else t[i.toNatClampNeg]?
theorem kcell_spec {n : Nat} {h : List kCel} {a : Nat} {q : kCel} (hq : kcell n h a = some q) : n ≤ a ∧ h[a - n]? = some q := by
  unfold kcell at hq
  cases hb : Nat.ble n a with
  | false => rw [hb] at hq; cases hq
  | true => rw [hb] at hq; exact ⟨Nat.le_of_ble_eq_true hb, hq⟩
theorem kidx_spec {τ : Type} {t : List τ} {i : Int32} {x : τ} (h : kidx t i = some x) : vp_in i t.length ∧ t[i.toNatClampNeg]? = some x := by
  unfold kidx at h
  by_cases hi : i < 0
  · simp [hi] at h
  · simp only [hi, decide_false, cond_false] at h
    have := (List.getElem?_eq_some_iff.mp h).1
    exact ⟨fun q => by rcases q with q | q; exact hi q; omega, h⟩
def kfit (ty : FieldType) (v : Value) : Bool := match ty, v with
  | .int, .int _ => true
  | .boolean, .int x => x == 0 || x == 1
  | .long, .long _ => true
  | .double, .double _ => true
  | .object _, .null => true
  | .object _, .ref _ => true
  | .array _, .null => true
  | .array _, .ref _ => true
  | _, _ => false
theorem kfit_ok {α : List Nat} {ty : FieldType} {v w : Value} (h : kfit ty v = true) (hv : kv α v = some w) : narrow ty w = w ∧ fits ty w = true := by
  unfold kfit at h
  split at h
  · cases hv; exact ⟨rfl, rfl⟩
  · cases hv
    simp only [Bool.or_eq_true, beq_iff_eq] at h
    rcases h with rfl | rfl <;> exact ⟨rfl, rfl⟩
  · cases hv; exact ⟨rfl, rfl⟩
  · cases hv; exact ⟨rfl, rfl⟩
  · cases hv; exact ⟨rfl, rfl⟩
  · obtain ⟨a, -, rfl⟩ := kv_refI hv; exact ⟨rfl, rfl⟩
  · cases hv; exact ⟨rfl, rfl⟩
  · obtain ⟨a, -, rfl⟩ := kv_refI hv; exact ⟨rfl, rfl⟩
  · cases h
section KHEAP
variable {p : Program} {l : Launch} {e : Env} {R : Room} {s : State} {m : MethodId} {args : Array Value} {below : List Frame} {meth : Method} {c : Code}
variable {E : kE} {XX : State → Prop} {σ α0 : List Nat} {cc : ByteArray} {nL nc0 ns0 : Nat} {res : kRes} {pc pc' : Nat} {own : String} {ws : List Cond} {zs : List (String × String × Nat)}
/-- the apartness of a class's slots -/
theorem k_apart {Cn : String} {T : u_T} {N ci : Nat} (C : kCx E XX σ zs p l e R s m args below meth c α0 cc nL nc0 ns0 res own ws) (hin : ∀ w ∈ u_ws Cn T N, w ∈ ws) (ty : Nat → FieldType) (hty : ∀ k, k < N → parseFieldDescriptor (T k).2.2.1 = some (ty k)) (hnm : ∀ a, a < N → ∀ b, b < N → a ≠ b → (T a).2.1 ≠ (T b).2.1) (hc : (kcl E)[ci]? = some (Cn, T, N)) : ∀ x y, x < N → y < N → x ≠ y → kdI E ci x ≠ kdI E ci y := by
  have hts := C.2.2.2.2.1
  have hK := C.2.2.2.2.2.2.1.2.1
  intro x y hx hy hne
  obtain ⟨hS, -⟩ := hK ci _ hc
  obtain ⟨_, _, _, fa, hia, ea⟩ := hS x hx
  obtain ⟨_, _, _, fb, hib, eb⟩ := hS y hy
  rw [← ea, ← eb]
  refine u_apart (u_lays hts hin hx) (u_lays hts hin hy) hia hib ?_
  rw [(State.fieldFound?_type hia (hty x hx)).1, (State.fieldFound?_type hib (hty y hy)).1]
  exact hnm x hx y hy hne
theorem k_classlt (C : kCx E XX σ zs p l e R s m args below meth c α0 cc nL nc0 ns0 res own ws) {ci : Nat} {r : vw_C} (hc : (kcl E)[ci]? = some r) : ci < 100 := by
  have h1 := C.2.2.2.2.2.2.1.1.1
  have h2 := (List.getElem?_eq_some_iff.mp hc).1
  omega
def oGet (n ci k : Nat) : kOp := fun fs => match fs.2.1 with
  | .ref a :: S => match kcell n fs.2.2.1 a with
    | some q => bif Nat.beq q.1 ci then (match q.2[k]? with
      | some v => some (.inl (0, (fs.1, v :: S, fs.2.2)))
      | none => none) else none
    | none => none
  | _ => none
theorem ok_get {n ci k ix : Nat} {ref Cn : String} {T : u_T} {N : Nat} (C : kCx E XX σ zs p l e R s m args below meth c α0 cc nL nc0 ns0 res own ws) (hn : kn E = n) (hin : ∀ w ∈ u_ws Cn T N, w ∈ ws) (hc : (kcl E)[ci]? = some (Cn, T, N)) (hk : k < N) (hlink : Cond.fieldLink own ix ref (T k).2.1 (T k).2.2.1 ∈ ws) (hsame : ∀ x, s.fieldFound? (T k).1 (T k).2.1 (T k).2.2.1 = some x → s.fieldFound? ref (T k).2.1 (T k).2.2.1 = some x) (hd : decode cc pc = .ok (.getfield ix, 3)) : kOK E p l e R s m args below meth c α0 nL nc0 ns0 res pc (kTo (pc + 3)) (oGet n ci k) := by
  intro fs r h
  obtain ⟨L, S0, hh, nc, ns⟩ := fs
  unfold oGet at h
  split at h
  · rename_i a S hS
    simp only at hS
    subst hS
    split at h
    · rename_i q hq
      cases hb : Nat.beq q.1 ci with
      | false => rw [hb] at h; cases h
      | true =>
      rw [hb] at h
      simp only [cond_true] at h
      split at h
      · rename_i v hv
        cases h
        refine ⟨Nat.le_refl _, Nat.le_refl _, fun _ _ k2 => ?_⟩
        intro α H locs ls lv st hp hR hV hL hl hs h1 h2
        obtain ⟨a1, st, rfl, ha, hx⟩ := kvS_ref hs
        obtain ⟨g1, g2⟩ := kcell_spec hq
        subst hn
        obtain ⟨-, cell, q1, q3, q4⟩ := hR.at g1 g2 ha
        have hci : q.1 = ci := Nat.eq_of_beq_eq_true hb
        rcases q4 with ⟨r, e1, e2, e3, e4⟩ | ⟨e1, -⟩
        · rw [hci] at e1 e2 e4
          have hr : r = (Cn, T, N) := Option.some.inj (e1.symm.trans hc)
          subst hr
          obtain ⟨hSl, hfc, kC, hkC, hkind⟩ := C.2.2.2.2.2.2.1.2.1 ci _ hc
          obtain ⟨cf, kf, fi, f, hi, hsl⟩ := hSl k hk
          obtain ⟨w, w1, w2⟩ := e4 k v hv
          refine W.getf C.1 C.2.1 C.2.2.2.1 (C.2.2.2.2.1 _ hlink) (hsame _ hi) (u_facts hfc hkC (u_lays C.2.2.2.2.1 hin hk) hi).1 q1 (by rw [q3]; exact fun h => by cases h) (v := w) (by rw [hsl]; exact w2) rfl rfl hd ?_
          exact k2 α H locs ls lv _ hp hR hV hL hl (kvS_mk w1 hx) h1 h2
        · rw [hci] at e1
          exact absurd (k_classlt C hc) (by omega)
      · cases h
    · cases h
  · cases h
def oPut (n ci k : Nat) (ty : FieldType) : kOp := fun fs => match fs.2.1 with
  | v :: .ref a :: S => match kcell n fs.2.2.1 a with
    | some q => bif Nat.beq q.1 ci && (Nat.blt k q.2.length && kfit ty v) then some (.inl (0, (fs.1, S, (fs.2.2.1.set (a - n) (q.1, q.2.set k v), fs.2.2.2)))) else none
    | none => none
  | _ => none
/-- a cell with one field changed -/
theorem k_field {α : List Nat} {H1 : Heap} {a : Nat} {q : kCel} {r : vw_C} {cell : Cell} {k : Nat} {v w : Value} {ci : Nat} (hci : q.1 = ci) (e1 : (kcl E)[ci]? = some r) (hap : ∀ x y, x < r.2.2 → y < r.2.2 → x ≠ y → kdI E ci x ≠ kdI E ci y) (q3 : cell.vm = .none) (e2 : cell.cls = kdC E ci) (e3 : q.2.length = r.2.2) (e4 : ∀ (j : Nat) (v : Value), q.2[j]? = some v → ∃ w, kv α v = some w ∧ cell.slots[kdI E ci j]? = some w) (hk : k < r.2.2) (hv : kv α v = some w) (hH : H1[a]? = some (cell.setSlot (kdI E ci k) w)) : kAt E s α H1 a (q.1, q.2.set k v) := by
  subst hci
  have hV : ∀ j, j < r.2.2 → cell.slots[kdI E q.1 j]? = some ((cell.slots[kdI E q.1 j]?).getD .null) := fun j hj => by
    obtain ⟨w9, -, h9⟩ := e4 j _ (List.getElem?_eq_getElem (by omega))
    rw [h9]; rfl
  have h5 := t_set hV hap hk w
  refine ⟨_, hH, q3, Or.inl ⟨r, e1, e2, by simpa using e3, fun j x hj => ?_⟩⟩
  have hjl : j < r.2.2 := by
    have := (List.getElem?_eq_some_iff.mp hj).1
    simp at this; omega
  by_cases hjk : j = k
  · subst hjk
    rw [List.getElem?_set_self (by omega)] at hj
    cases hj
    exact ⟨w, hv, by rw [h5 j hjl]; simp [updV]⟩
  · rw [List.getElem?_set_ne (Ne.symm hjk)] at hj
    obtain ⟨w9, g1, g2⟩ := e4 j x hj
    refine ⟨w9, g1, ?_⟩
    rw [h5 j hjl]
    simp [updV, hjk, g2]
theorem ok_put {n ci k ix : Nat} {ref Cn : String} {T : u_T} {N : Nat} {ty : FieldType} (C : kCx E XX σ zs p l e R s m args below meth c α0 cc nL nc0 ns0 res own ws) (hn : kn E = n) (hin : ∀ w ∈ u_ws Cn T N, w ∈ ws) (ty0 : Nat → FieldType) (hty : ∀ k, k < N → parseFieldDescriptor (T k).2.2.1 = some (ty0 k)) (hnm : ∀ a, a < N → ∀ b, b < N → a ≠ b → (T a).2.1 ≠ (T b).2.1) (hc : (kcl E)[ci]? = some (Cn, T, N)) (hk : k < N) (hlink : Cond.fieldLink own ix ref (T k).2.1 (T k).2.2.1 ∈ ws) (hsame : ∀ x, s.fieldFound? (T k).1 (T k).2.1 (T k).2.2.1 = some x → s.fieldFound? ref (T k).2.1 (T k).2.2.1 = some x) (hfin : (T k).2.2.2 = false ∨ ((T k).2.2.2 = true ∧ meth.name = "<init>" ∧ (T k).1 = own)) (ht : ty0 k = ty) (hd : decode cc pc = .ok (.putfield ix, 3)) : kOK E p l e R s m args below meth c α0 nL nc0 ns0 res pc (kTo (pc + 3)) (oPut n ci k ty) := by
  intro fs r h
  obtain ⟨L, S0, hh, nc, ns⟩ := fs
  unfold oPut at h
  split at h
  · rename_i v a S hS
    simp only at hS
    subst hS
    split at h
    · rename_i q hq
      cases hb : (Nat.beq q.1 ci && (Nat.blt k q.2.length && kfit ty v)) with
      | false => rw [hb] at h; cases h
      | true =>
      rw [hb] at h
      simp only [Bool.and_eq_true] at hb
      obtain ⟨hb1, hb2, hb3⟩ := hb
      cases h
      refine ⟨Nat.le_refl _, Nat.le_refl _, fun _ _ k2 => ?_⟩
      intro α H locs ls lv st hp hR hV hL hl hs h1 h2
      obtain ⟨w, st1, rfl, hw, hs1⟩ := kvS_cons hs
      obtain ⟨a1, st, rfl, ha, hx⟩ := kvS_ref hs1
      obtain ⟨g1, g2⟩ := kcell_spec hq
      subst hn
      obtain ⟨ha0, cell, q1, q3, q4⟩ := hR.at g1 g2 ha
      have hci : q.1 = ci := Nat.eq_of_beq_eq_true hb1
      rcases q4 with ⟨r, e1, e2, e3, e4⟩ | ⟨e1, -⟩
      · rw [hci] at e1 e2 e4
        have hr : r = (Cn, T, N) := Option.some.inj (e1.symm.trans hc)
        subst hr
        have hap := k_apart C hin ty0 hty hnm hc
        obtain ⟨hSl, hfc, kC, hkC, hkind⟩ := C.2.2.2.2.2.2.1.2.1 ci _ hc
        obtain ⟨cf, kf, fi, f, hi, hsl⟩ := hSl k hk
        obtain ⟨f1, f2⟩ := kfit_ok hb3 hw
        have hts := C.2.2.2.2.1
        have hst := (u_facts hfc hkC (u_lays hts hin hk) hi).1
        have hlay := hts _ (hin _ (u_in_lay hk))
        unfold u_lay at hlay
        have hsz : f.slot < cell.slots.size := by
          obtain ⟨w9, -, h9⟩ := e4 k _ (List.getElem?_eq_getElem (Nat.lt_of_lt_of_eq hk e3.symm))
          rw [hsl]; exact k2_hasslot h9
        have fin : ∀ H' : Heap, H'[a1]? = some (cell.setSlot f.slot w) → H'.size = H.size → (∀ q, q ≠ a1 → H'[q]? = H[q]?) → W p l e R s m args below meth c H' (locs ++ [⟨a1, f.slot⟩]) (nc - nc0) (ns - ns0) (kQ E below args s α0 nc0 ns0 res) { F0 m pc ls (w :: .ref a1 :: st) with pc := pc + 3, stack := st } := by
          intro H' e5 e6 e7
          rw [hsl] at e5
          refine k2 α H' _ ls lv st hp (hR.put g1 g2 ha (k_field hci hc hap q3 e2 e3 e4 hk hw e5) e7) (hV.put e6 e7 ha0) hL hl hx h1 h2
        rcases hfin with hf | ⟨hf, hf2, hf3⟩
        · rw [if_neg (by rw [hf]; decide)] at hlay
          have h6 := u_store hfc hkC hkind hlay hi (hty k hk) (by rw [ht]; exact f1) (by rw [ht]; exact f2)
          exact W.putK C.1 C.2.1 (f := f) ⟨C.2.2.2.1, hts _ hlink, ⟨_, _, _, hsame _ hi⟩, hst⟩ (by rw [e2]; exact h6) q1 q3 hsz rfl rfl hd fin
        · rw [if_pos hf] at hlay
          have hcf : m.cls = cf := by
            obtain ⟨_, _, c', _, _, _, -, -, hf', -, -, -, hown2, -⟩ := Cond.laysFinal_spec hlay
            have e8 : c' = cf := by have := hi.symm.trans hf'; simp at this; exact this.1.symm
            rw [hf3] at hown2
            rw [← e8]; exact Option.some.inj (C.2.2.2.1.symm.trans hown2)
          have h6 := u_fits hfc hkC hkind (Or.inr hlay) hi (hty k hk) (by rw [ht]; exact f1) (by rw [ht]; exact f2)
          exact W.putFinK C.1 C.2.1 C.2.2.2.1 (hts _ hlink) (hsame _ hi) hst hcf hf2 (by rw [e2]; exact h6) q1 q3 hsz rfl rfl hd fin
      · rw [hci] at e1
        exact absurd (k_classlt C hc) (by omega)
    · cases h
  · cases h
/-- statics that hold a table of ints -/
def oGetS (k : Nat) : kOp := fun fs => some (.inl (0, (fs.1, .ref k :: fs.2.1, fs.2.2)))
theorem ok_gets {k ix : Nat} {Cn nm : String} (C : kCx E XX σ zs p l e R s m args below meth c α0 cc nL nc0 ns0 res own ws) (hz : (Cn, nm, k) ∈ zs) (hlink : Cond.fieldLink own ix Cn nm "[I" ∈ ws) (hd : decode cc pc = .ok (.getstatic ix, 3)) : kOK E p l e R s m args below meth c α0 nL nc0 ns0 res pc (kTo (pc + 3)) (oGetS k) := by
  intro fs r h
  cases h
  refine ⟨Nat.le_refl _, Nat.le_refl _, fun _ _ k2 => ?_⟩
  intro α H locs ls lv st hp hR hV hL hl hs h1 h2
  obtain ⟨a, ha, hZ⟩ := C.2.2.2.2.2.2.1.2.2.2.1 _ hz
  have ha2 : α[k]? = some a := k_pre ha (List.IsPrefix.trans C.2.2.2.2.2.2.2.2.1 hp)
  exact va_gets C.1 C.2.1 hZ hV C.2.2.2.1 (C.2.2.2.2.1 _ hlink) (fun _ h => h) hd (k2 α H locs ls lv _ hp hR hV hL hl (kvS_mk (kv_ref ha2) hs) h1 h2)
def oIald (tb : List (List Int32)) : kOp := fun fs => match fs.2.1 with
  | .int i :: .ref a :: S => match tb[a]? with
    | some t => (match kidx t i with
      | some x => some (.inl (0, (fs.1, .int x :: S, fs.2.2)))
      | none => none)
    | none => (match kcell tb.length fs.2.2.1 a with
      | some q => bif Nat.beq q.1 100 then (match kidx q.2 i with
        | some (.int x) => some (.inl (0, (fs.1, .int x :: S, fs.2.2)))
        | _ => none) else none
      | none => none)
  | _ => none
theorem k_arr {tag : Nat} (hlt : 100 ≤ tag) {α : List Nat} {H : Heap} {a : Nat} {q : kCel} (C : kCx E XX σ zs p l e R s m args below meth c α0 cc nL nc0 ns0 res own ws) (hq : q.1 = tag) (h : kAt E s α H a q) : ∃ cell : Cell, H[a]? = some cell ∧ cell.vm = .none ∧ kAr s cell (kTy tag) ∧ cell.slots.size = q.2.length ∧ ∀ (j : Nat) (v : Value), q.2[j]? = some v → ∃ w, kv α v = some w ∧ cell.slots[j]? = some w := by
  obtain ⟨cell, q1, q3, q4⟩ := h
  rw [hq] at q4
  rcases q4 with ⟨r, e1, -⟩ | ⟨-, e2, e3, e4⟩
  · exact absurd (k_classlt C e1) (by omega)
  · exact ⟨cell, q1, q3, e2, e3, e4⟩
theorem ok_iaload {tb : List (List Int32)} (C : kCx E XX σ zs p l e R s m args below meth c α0 cc nL nc0 ns0 res own ws) (htb : ktb E = tb) (hd : decode cc pc = .ok (.iaload, 1)) : kOK E p l e R s m args below meth c α0 nL nc0 ns0 res pc (kTo (pc + 1)) (oIald tb) := by
  intro fs r h
  obtain ⟨L, S0, hh, nc, ns⟩ := fs
  unfold oIald at h
  split at h
  · rename_i i a S hS
    simp only at hS
    subst hS
    split at h
    · rename_i t ht
      split at h
      · rename_i x hx
        cases h
        refine ⟨Nat.le_refl _, Nat.le_refl _, fun _ _ k2 => ?_⟩
        intro α H locs ls lv st hp hR hV hL hl hs h1 h2
        obtain ⟨st1, rfl, hs1⟩ := kvS_int hs
        obtain ⟨a1, st, rfl, ha, hs2⟩ := kvS_ref hs1
        obtain ⟨i1, i2⟩ := kidx_spec hx
        subst htb
        have hal : a < kn E := (List.getElem?_eq_some_iff.mp ht).1
        have hsl : σ[a]? = some a1 := by
          have h9 : a < σ.length := Nat.lt_of_lt_of_eq hal C.2.2.2.2.2.2.1.1.2.1.symm
          have h10 := k_pre (List.getElem?_eq_getElem h9) (List.IsPrefix.trans C.2.2.2.2.2.2.2.2.1 hp)
          rw [ha] at h10
          rw [List.getElem?_eq_getElem h9, ← h10]
        have hT := C.2.2.2.2.2.2.1.2.2.1 a a1 t hsl ht
        refine va_ti C.1 C.2.1 hT hV i1 (v := .int x) ?_ hd (k2 α H locs ls lv _ hp hR hV hL hl (kvS_mk rfl hs2) h1 h2)
        simp [List.getD, i2]
      · cases h
    · split at h
      · rename_i q hq
        cases hb : Nat.beq q.1 100 with
        | false => rw [hb] at h; cases h
        | true =>
        rw [hb] at h
        simp only [cond_true] at h
        split at h
        · rename_i x hx
          cases h
          refine ⟨Nat.le_refl _, Nat.le_refl _, fun _ _ k2 => ?_⟩
          intro α H locs ls lv st hp hR hV hL hl hs h1 h2
          obtain ⟨st1, rfl, hs1⟩ := kvS_int hs
          obtain ⟨a1, st, rfl, ha, hs2⟩ := kvS_ref hs1
          obtain ⟨i1, i2⟩ := kidx_spec hx
          subst htb
          obtain ⟨g1, g2⟩ := kcell_spec hq
          obtain ⟨ha0, hat⟩ := hR.at (show kn E ≤ a from g1) g2 ha
          obtain ⟨cell, q1, q3, q4, q5, q6⟩ := k_arr (tag := 100) (Nat.le_refl _) C (Nat.eq_of_beq_eq_true hb) hat
          obtain ⟨w, w1, w2⟩ := q6 _ _ i2
          cases w1
          refine W.iald C.1 C.2.1 q1 (q4.is q3) (by rw [q3]; exact fun h => by cases h) (by rw [q5]; exact i1) w2 rfl rfl hd ?_
          exact k2 α H locs ls lv _ hp hR hV hL hl (kvS_mk rfl hs2) h1 h2
        · cases h
      · cases h
  · cases h
def oLald (n : Nat) : kOp := fun fs => match fs.2.1 with
  | .int i :: .ref a :: S => (match kcell n fs.2.2.1 a with
      | some q => bif Nat.beq q.1 101 then (match kidx q.2 i with
        | some (.long x) => some (.inl (0, (fs.1, .long x :: S, fs.2.2)))
        | _ => none) else none
      | none => none)
  | _ => none
theorem ok_laload {n : Nat} (C : kCx E XX σ zs p l e R s m args below meth c α0 cc nL nc0 ns0 res own ws) (hn : kn E = n) (hd : decode cc pc = .ok (.laload, 1)) : kOK E p l e R s m args below meth c α0 nL nc0 ns0 res pc (kTo (pc + 1)) (oLald n) := by
  intro fs r h
  obtain ⟨L, S0, hh, nc, ns⟩ := fs
  unfold oLald at h
  split at h
  · rename_i i a S hS
    simp only at hS
    subst hS
    split at h
    · rename_i q hq
      cases hb : Nat.beq q.1 101 with
      | false => rw [hb] at h; cases h
      | true =>
      rw [hb] at h
      simp only [cond_true] at h
      split at h
      · rename_i x hx
        cases h
        refine ⟨Nat.le_refl _, Nat.le_refl _, fun _ _ k2 => ?_⟩
        intro α H locs ls lv st hp hR hV hL hl hs h1 h2
        obtain ⟨st1, rfl, hs1⟩ := kvS_int hs
        obtain ⟨a1, st, rfl, ha, hs2⟩ := kvS_ref hs1
        obtain ⟨i1, i2⟩ := kidx_spec hx
        subst hn
        obtain ⟨g1, g2⟩ := kcell_spec hq
        obtain ⟨ha0, hat⟩ := hR.at g1 g2 ha
        obtain ⟨cell, q1, q3, q4, q5, q6⟩ := k_arr (tag := 101) (by decide) C (Nat.eq_of_beq_eq_true hb) hat
        obtain ⟨w, w1, w2⟩ := q6 _ _ i2
        cases w1
        refine W.lald C.1 C.2.1 q1 (q4.is q3) (by rw [q3]; exact fun h => by cases h) (by rw [q5]; exact i1) w2 rfl rfl hd ?_
        exact k2 α H locs ls lv _ hp hR hV hL hl (kvS_mk rfl hs2) h1 h2
      · cases h
    · cases h
  · cases h
def oDald (n : Nat) : kOp := fun fs => match fs.2.1 with
  | .int i :: .ref a :: S => (match kcell n fs.2.2.1 a with
      | some q => bif Nat.beq q.1 102 then (match kidx q.2 i with
        | some (.double x) => some (.inl (0, (fs.1, .double x :: S, fs.2.2)))
        | _ => none) else none
      | none => none)
  | _ => none
theorem ok_daload {n : Nat} (C : kCx E XX σ zs p l e R s m args below meth c α0 cc nL nc0 ns0 res own ws) (hn : kn E = n) (hd : decode cc pc = .ok (.daload, 1)) : kOK E p l e R s m args below meth c α0 nL nc0 ns0 res pc (kTo (pc + 1)) (oDald n) := by
  intro fs r h
  obtain ⟨L, S0, hh, nc, ns⟩ := fs
  unfold oDald at h
  split at h
  · rename_i i a S hS
    simp only at hS
    subst hS
    split at h
    · rename_i q hq
      cases hb : Nat.beq q.1 102 with
      | false => rw [hb] at h; cases h
      | true =>
      rw [hb] at h
      simp only [cond_true] at h
      split at h
      · rename_i x hx
        cases h
        refine ⟨Nat.le_refl _, Nat.le_refl _, fun _ _ k2 => ?_⟩
        intro α H locs ls lv st hp hR hV hL hl hs h1 h2
        obtain ⟨st1, rfl, hs1⟩ := kvS_int hs
        obtain ⟨a1, st, rfl, ha, hs2⟩ := kvS_ref hs1
        obtain ⟨i1, i2⟩ := kidx_spec hx
        subst hn
        obtain ⟨g1, g2⟩ := kcell_spec hq
        obtain ⟨ha0, hat⟩ := hR.at g1 g2 ha
        obtain ⟨cell, q1, q3, q4, q5, q6⟩ := k_arr (tag := 102) (by decide) C (Nat.eq_of_beq_eq_true hb) hat
        obtain ⟨w, w1, w2⟩ := q6 _ _ i2
        cases w1
        refine W.dald C.1 C.2.1 q1 (q4.is q3) (by rw [q3]; exact fun h => by cases h) (by rw [q5]; exact i1) w2 rfl rfl hd ?_
        exact k2 α H locs ls lv _ hp hR hV hL hl (kvS_mk rfl hs2) h1 h2
      · cases h
    · cases h
  · cases h
def oZald (n : Nat) : kOp := fun fs => match fs.2.1 with
  | .int i :: .ref a :: S => (match kcell n fs.2.2.1 a with
      | some q => bif Nat.beq q.1 103 then (match kidx q.2 i with
        | some (.int x) => some (.inl (0, (fs.1, .int x :: S, fs.2.2)))
        | _ => none) else none
      | none => none)
  | _ => none
theorem ok_baload {n : Nat} (C : kCx E XX σ zs p l e R s m args below meth c α0 cc nL nc0 ns0 res own ws) (hn : kn E = n) (hd : decode cc pc = .ok (.baload, 1)) : kOK E p l e R s m args below meth c α0 nL nc0 ns0 res pc (kTo (pc + 1)) (oZald n) := by
  intro fs r h
  obtain ⟨L, S0, hh, nc, ns⟩ := fs
  unfold oZald at h
  split at h
  · rename_i i a S hS
    simp only at hS
    subst hS
    split at h
    · rename_i q hq
      cases hb : Nat.beq q.1 103 with
      | false => rw [hb] at h; cases h
      | true =>
      rw [hb] at h
      simp only [cond_true] at h
      split at h
      · rename_i x hx
        cases h
        refine ⟨Nat.le_refl _, Nat.le_refl _, fun _ _ k2 => ?_⟩
        intro α H locs ls lv st hp hR hV hL hl hs h1 h2
        obtain ⟨st1, rfl, hs1⟩ := kvS_int hs
        obtain ⟨a1, st, rfl, ha, hs2⟩ := kvS_ref hs1
        obtain ⟨i1, i2⟩ := kidx_spec hx
        subst hn
        obtain ⟨g1, g2⟩ := kcell_spec hq
        obtain ⟨ha0, hat⟩ := hR.at g1 g2 ha
        obtain ⟨cell, q1, q3, q4, q5, q6⟩ := k_arr (tag := 103) (by decide) C (Nat.eq_of_beq_eq_true hb) hat
        obtain ⟨w, w1, w2⟩ := q6 _ _ i2
        cases w1
        refine W.zald C.1 C.2.1 q1 (q4.is q3) (by rw [q3]; exact fun h => by cases h) (by rw [q5]; exact i1) w2 rfl rfl hd ?_
        exact k2 α H locs ls lv _ hp hR hV hL hl (kvS_mk rfl hs2) h1 h2
      · cases h
    · cases h
  · cases h
/-- an array with one place changed -/
theorem k_elem {α : List Nat} {H1 : Heap} {a j : Nat} {q : kCel} {cell : Cell} {v w : Value} (h100 : 100 ≤ q.1) (q3 : cell.vm = .none) (q4 : kAr s cell (kTy q.1)) (q5 : cell.slots.size = q.2.length) (q6 : ∀ (j : Nat) (v : Value), q.2[j]? = some v → ∃ w, kv α v = some w ∧ cell.slots[j]? = some w) (hj : j < q.2.length) (hv : kv α v = some w) (hH : H1[a]? = some (cell.setSlot j w)) : kAt E s α H1 a (q.1, q.2.set j v) := by
  refine ⟨_, hH, q3, Or.inr ⟨h100, q4, ?_, fun i x hi => ?_⟩⟩
  · show (cell.slots.setIfInBounds j w).size = _
    simp [q5]
  · show ∃ w9, _ ∧ (cell.slots.setIfInBounds j w)[i]? = _
    by_cases hij : i = j
    · subst hij
      rw [List.getElem?_set_self hj] at hi
      cases hi
      exact ⟨w, hv, by rw [Array.getElem?_setIfInBounds_self_of_lt (by omega)]⟩
    · rw [List.getElem?_set_ne (Ne.symm hij)] at hi
      obtain ⟨w9, g1, g2⟩ := q6 i x hi
      exact ⟨w9, g1, by rw [Array.getElem?_setIfInBounds_ne (Ne.symm hij)]; exact g2⟩
def oIast (n : Nat) : kOp := fun fs => match fs.2.1 with
  | .int x :: .int i :: .ref a :: S => (match kcell n fs.2.2.1 a with
      | some q => bif Nat.beq q.1 100 then (match kidx q.2 i with
        | some _ => some (.inl (0, (fs.1, S, (fs.2.2.1.set (a - n) (q.1, q.2.set i.toNatClampNeg (.int x)), fs.2.2.2))))
        | none => none) else none
      | none => none)
  | _ => none
theorem ok_iastore {n : Nat} (C : kCx E XX σ zs p l e R s m args below meth c α0 cc nL nc0 ns0 res own ws) (hn : kn E = n) (hd : decode cc pc = .ok (.iastore, 1)) : kOK E p l e R s m args below meth c α0 nL nc0 ns0 res pc (kTo (pc + 1)) (oIast n) := by
  intro fs r h
  obtain ⟨L, S0, hh, nc, ns⟩ := fs
  unfold oIast at h
  split at h
  · rename_i x i a S hS
    simp only at hS
    subst hS
    split at h
    · rename_i q hq
      cases hb : (Nat.beq q.1 100) with
      | false => rw [hb] at h; cases h
      | true =>
      rw [hb] at h
      
      simp only [cond_true] at h
      split at h
      · rename_i y hx
        cases h
        refine ⟨Nat.le_refl _, Nat.le_refl _, fun _ _ k2 => ?_⟩
        intro α H locs ls lv st hp hR hV hL hl hs h1 h2
        obtain ⟨st0, rfl, hs0⟩ := kvS_int hs
        obtain ⟨st1, rfl, hs1⟩ := kvS_int hs0
        obtain ⟨a1, st, rfl, ha, hs2⟩ := kvS_ref hs1
        obtain ⟨i1, i2⟩ := kidx_spec hx
        subst hn
        obtain ⟨g1, g2⟩ := kcell_spec hq
        obtain ⟨ha0, hat⟩ := hR.at g1 g2 ha
        have hq1 : q.1 = 100 := Nat.eq_of_beq_eq_true hb
        obtain ⟨cell, q1, q3, q4, q5, q6⟩ := k_arr (tag := 100) (by decide) C hq1 hat
        have hil := (List.getElem?_eq_some_iff.mp i2).1
        refine W.iast C.1 C.2.1 q1 (q4.is q3) (by rw [q3]; exact fun h => by cases h) (by rw [q5]; exact i1) rfl rfl hd fun H' e5 e6 e7 => ?_
        
        exact k2 α H' _ ls lv st hp (hR.put g1 g2 ha (k_elem (by omega) q3 (by rw [hq1]; exact q4) q5 q6 hil rfl e5) e7) (hV.put e6 e7 ha0) hL hl hs2 h1 h2
      · cases h
    · cases h
  · cases h
def oLast (n : Nat) : kOp := fun fs => match fs.2.1 with
  | .long x :: .int i :: .ref a :: S => (match kcell n fs.2.2.1 a with
      | some q => bif Nat.beq q.1 101 then (match kidx q.2 i with
        | some _ => some (.inl (0, (fs.1, S, (fs.2.2.1.set (a - n) (q.1, q.2.set i.toNatClampNeg (.long x)), fs.2.2.2))))
        | none => none) else none
      | none => none)
  | _ => none
theorem ok_lastore {n : Nat} (C : kCx E XX σ zs p l e R s m args below meth c α0 cc nL nc0 ns0 res own ws) (hn : kn E = n) (hd : decode cc pc = .ok (.lastore, 1)) : kOK E p l e R s m args below meth c α0 nL nc0 ns0 res pc (kTo (pc + 1)) (oLast n) := by
  intro fs r h
  obtain ⟨L, S0, hh, nc, ns⟩ := fs
  unfold oLast at h
  split at h
  · rename_i x i a S hS
    simp only at hS
    subst hS
    split at h
    · rename_i q hq
      cases hb : (Nat.beq q.1 101) with
      | false => rw [hb] at h; cases h
      | true =>
      rw [hb] at h
      
      simp only [cond_true] at h
      split at h
      · rename_i y hx
        cases h
        refine ⟨Nat.le_refl _, Nat.le_refl _, fun _ _ k2 => ?_⟩
        intro α H locs ls lv st hp hR hV hL hl hs h1 h2
        obtain ⟨st0, rfl, hs0⟩ := kvS_long hs
        obtain ⟨st1, rfl, hs1⟩ := kvS_int hs0
        obtain ⟨a1, st, rfl, ha, hs2⟩ := kvS_ref hs1
        obtain ⟨i1, i2⟩ := kidx_spec hx
        subst hn
        obtain ⟨g1, g2⟩ := kcell_spec hq
        obtain ⟨ha0, hat⟩ := hR.at g1 g2 ha
        have hq1 : q.1 = 101 := Nat.eq_of_beq_eq_true hb
        obtain ⟨cell, q1, q3, q4, q5, q6⟩ := k_arr (tag := 101) (by decide) C hq1 hat
        have hil := (List.getElem?_eq_some_iff.mp i2).1
        refine W.last C.1 C.2.1 q1 (q4.is q3) (by rw [q3]; exact fun h => by cases h) (by rw [q5]; exact i1) rfl rfl hd fun H' e5 e6 e7 => ?_
        
        exact k2 α H' _ ls lv st hp (hR.put g1 g2 ha (k_elem (by omega) q3 (by rw [hq1]; exact q4) q5 q6 hil rfl e5) e7) (hV.put e6 e7 ha0) hL hl hs2 h1 h2
      · cases h
    · cases h
  · cases h
def oDast (n : Nat) : kOp := fun fs => match fs.2.1 with
  | .double x :: .int i :: .ref a :: S => (match kcell n fs.2.2.1 a with
      | some q => bif Nat.beq q.1 102 then (match kidx q.2 i with
        | some _ => some (.inl (0, (fs.1, S, (fs.2.2.1.set (a - n) (q.1, q.2.set i.toNatClampNeg (.double x)), fs.2.2.2))))
        | none => none) else none
      | none => none)
  | _ => none
theorem ok_dastore {n : Nat} (C : kCx E XX σ zs p l e R s m args below meth c α0 cc nL nc0 ns0 res own ws) (hn : kn E = n) (hd : decode cc pc = .ok (.dastore, 1)) : kOK E p l e R s m args below meth c α0 nL nc0 ns0 res pc (kTo (pc + 1)) (oDast n) := by
  intro fs r h
  obtain ⟨L, S0, hh, nc, ns⟩ := fs
  unfold oDast at h
  split at h
  · rename_i x i a S hS
    simp only at hS
    subst hS
    split at h
    · rename_i q hq
      cases hb : (Nat.beq q.1 102) with
      | false => rw [hb] at h; cases h
      | true =>
      rw [hb] at h
      
      simp only [cond_true] at h
      split at h
      · rename_i y hx
        cases h
        refine ⟨Nat.le_refl _, Nat.le_refl _, fun _ _ k2 => ?_⟩
        intro α H locs ls lv st hp hR hV hL hl hs h1 h2
        obtain ⟨st0, rfl, hs0⟩ := kvS_double hs
        obtain ⟨st1, rfl, hs1⟩ := kvS_int hs0
        obtain ⟨a1, st, rfl, ha, hs2⟩ := kvS_ref hs1
        obtain ⟨i1, i2⟩ := kidx_spec hx
        subst hn
        obtain ⟨g1, g2⟩ := kcell_spec hq
        obtain ⟨ha0, hat⟩ := hR.at g1 g2 ha
        have hq1 : q.1 = 102 := Nat.eq_of_beq_eq_true hb
        obtain ⟨cell, q1, q3, q4, q5, q6⟩ := k_arr (tag := 102) (by decide) C hq1 hat
        have hil := (List.getElem?_eq_some_iff.mp i2).1
        refine W.dast C.1 C.2.1 q1 (q4.is q3) (by rw [q3]; exact fun h => by cases h) (by rw [q5]; exact i1) rfl rfl hd fun H' e5 e6 e7 => ?_
        
        exact k2 α H' _ ls lv st hp (hR.put g1 g2 ha (k_elem (by omega) q3 (by rw [hq1]; exact q4) q5 q6 hil rfl e5) e7) (hV.put e6 e7 ha0) hL hl hs2 h1 h2
      · cases h
    · cases h
  · cases h
def oZast (n : Nat) : kOp := fun fs => match fs.2.1 with
  | .int x :: .int i :: .ref a :: S => (match kcell n fs.2.2.1 a with
      | some q => bif Nat.beq q.1 103 && (x == 0 || x == 1) then (match kidx q.2 i with
        | some _ => some (.inl (0, (fs.1, S, (fs.2.2.1.set (a - n) (q.1, q.2.set i.toNatClampNeg (.int x)), fs.2.2.2))))
        | none => none) else none
      | none => none)
  | _ => none
theorem ok_bastore {n : Nat} (C : kCx E XX σ zs p l e R s m args below meth c α0 cc nL nc0 ns0 res own ws) (hn : kn E = n) (hd : decode cc pc = .ok (.bastore, 1)) : kOK E p l e R s m args below meth c α0 nL nc0 ns0 res pc (kTo (pc + 1)) (oZast n) := by
  intro fs r h
  obtain ⟨L, S0, hh, nc, ns⟩ := fs
  unfold oZast at h
  split at h
  · rename_i x i a S hS
    simp only at hS
    subst hS
    split at h
    · rename_i q hq
      cases hb : (Nat.beq q.1 103 && (x == 0 || x == 1)) with
      | false => rw [hb] at h; cases h
      | true =>
      rw [hb] at h
      simp only [Bool.and_eq_true, Bool.or_eq_true, beq_iff_eq] at hb
      simp only [cond_true] at h
      split at h
      · rename_i y hx
        cases h
        refine ⟨Nat.le_refl _, Nat.le_refl _, fun _ _ k2 => ?_⟩
        intro α H locs ls lv st hp hR hV hL hl hs h1 h2
        obtain ⟨st0, rfl, hs0⟩ := kvS_int hs
        obtain ⟨st1, rfl, hs1⟩ := kvS_int hs0
        obtain ⟨a1, st, rfl, ha, hs2⟩ := kvS_ref hs1
        obtain ⟨i1, i2⟩ := kidx_spec hx
        subst hn
        obtain ⟨g1, g2⟩ := kcell_spec hq
        obtain ⟨ha0, hat⟩ := hR.at g1 g2 ha
        have hq1 : q.1 = 103 := Nat.eq_of_beq_eq_true hb.1
        obtain ⟨cell, q1, q3, q4, q5, q6⟩ := k_arr (tag := 103) (by decide) C hq1 hat
        have hil := (List.getElem?_eq_some_iff.mp i2).1
        refine W.zast C.1 C.2.1 q1 (q4.is q3) (by rw [q3]; exact fun h => by cases h) (by rw [q5]; exact i1) rfl rfl hd fun H' e5 e6 e7 => ?_
        rw [show narrow .boolean (.int x) = .int x by rcases hb.2 with rfl | rfl <;> rfl] at e5
        exact k2 α H' _ ls lv st hp (hR.put g1 g2 ha (k_elem (by omega) q3 (by rw [hq1]; exact q4) q5 q6 hil rfl e5) e7) (hV.put e6 e7 ha0) hL hl hs2 h1 h2
      · cases h
    · cases h
  · cases h
def oAlen (tb : List (List Int32)) : kOp := fun fs => match fs.2.1 with
  | .ref a :: S => match tb[a]? with
    | some t => some (.inl (0, (fs.1, .int (Int32.ofNat t.length) :: S, fs.2.2)))
    | none => (match kcell tb.length fs.2.2.1 a with
      | some q => bif Nat.ble 100 q.1 then some (.inl (0, (fs.1, .int (Int32.ofNat q.2.length) :: S, fs.2.2))) else none
      | none => none)
  | _ => none
theorem ok_alen {tb : List (List Int32)} (C : kCx E XX σ zs p l e R s m args below meth c α0 cc nL nc0 ns0 res own ws) (htb : ktb E = tb) (hd : decode cc pc = .ok (.arraylength, 1)) : kOK E p l e R s m args below meth c α0 nL nc0 ns0 res pc (kTo (pc + 1)) (oAlen tb) := by
  intro fs r h
  obtain ⟨L, S0, hh, nc, ns⟩ := fs
  unfold oAlen at h
  split at h
  · rename_i a S hS
    simp only at hS
    subst hS
    split at h
    · rename_i t ht
      cases h
      refine ⟨Nat.le_refl _, Nat.le_refl _, fun _ _ k2 => ?_⟩
      intro α H locs ls lv st hp hR hV hL hl hs h1 h2
      obtain ⟨a1, st, rfl, ha, hs2⟩ := kvS_ref hs
      subst htb
      have hsl : σ[a]? = some a1 := by
        have h8 := (List.getElem?_eq_some_iff.mp ht).1
        have h9 : a < σ.length := Nat.lt_of_lt_of_eq h8 C.2.2.2.2.2.2.1.1.2.1.symm
        have h10 := k_pre (List.getElem?_eq_getElem h9) (List.IsPrefix.trans C.2.2.2.2.2.2.2.2.1 hp)
        rw [ha] at h10
        rw [List.getElem?_eq_getElem h9, ← h10]
      have hT := C.2.2.2.2.2.2.1.2.2.1 a a1 t hsl ht
      exact va_tlen C.1 C.2.1 hT hV rfl hd (k2 α H locs ls lv _ hp hR hV hL hl (kvS_mk rfl hs2) h1 h2)
    · split at h
      · rename_i q hq
        cases hb : Nat.ble 100 q.1 with
        | false => rw [hb] at h; cases h
        | true =>
        rw [hb] at h
        cases h
        refine ⟨Nat.le_refl _, Nat.le_refl _, fun _ _ k2 => ?_⟩
        intro α H locs ls lv st hp hR hV hL hl hs h1 h2
        obtain ⟨a1, st, rfl, ha, hs2⟩ := kvS_ref hs
        subst htb
        obtain ⟨g1, g2⟩ := kcell_spec hq
        obtain ⟨ha0, hat⟩ := hR.at (show kn E ≤ a from g1) g2 ha
        obtain ⟨cell, q1, q3, q4, q5, q6⟩ := k_arr (tag := q.1) (Nat.le_of_ble_eq_true hb) C rfl hat
        refine W.alen (n := Int32.ofNat q.2.length) C.1 C.2.1 q1 (q4.is q3) (by rw [q5]) rfl rfl hd ?_
        exact k2 α H locs ls lv _ hp hR hV hL hl (kvS_mk rfl hs2) h1 h2
      · cases h
  · cases h
def kdef : Nat → Value := fun t => match t with
  | 100 => .int 0
  | 101 => .long 0
  | 102 => .double 0
  | 103 => .int 0
  | _ => .null
def oNewa (n tag : Nat) : kOp := fun fs => match fs.2.1 with
  | .int i :: S => bif decide (i < 0) || Nat.blt 1000000 i.toNatClampNeg then none else some (.inl (0, (fs.1, .ref (n + fs.2.2.1.length) :: S, (fs.2.2.1 ++ [(tag, List.replicate i.toNatClampNeg (kdef tag))], fs.2.2.2.1 + 1, fs.2.2.2.2 + i.toNatClampNeg))))
  | _ => none
theorem k_cv {U : State} {α : List Nat} {v : Value} (h : v = .int 0 ∨ v = .long 0 ∨ v = .double 0 ∨ v = .null) : kv α v = some v := by
  rcases h with rfl | rfl | rfl | rfl <;> rfl
theorem kdef_cv {α : List Nat} (t : Nat) : kv α (kdef t) = some (kdef t) := by
  unfold kdef
  split <;> rfl
theorem ok_newa {n tag : Nat} {atype : ArrayType} (C : kCx E XX σ zs p l e R s m args below meth c α0 cc nL nc0 ns0 res own ws) (hn : kn E = n) (h100 : 100 ≤ tag) (hty : newarray.typeOf atype = kTy tag) (hdv : defaultValue (kTy tag) = kdef tag) (hcb : componentBytes (kTy tag) ≤ 8) (hno : ∀ Cn, kTy tag ≠ .object Cn) (hw : Cond.arrayClass (kTy tag) ∈ ws) (hd : decode cc pc = .ok (.newarray atype, 2)) : kOK E p l e R s m args below meth c α0 nL nc0 ns0 res pc (kTo (pc + 2)) (oNewa n tag) := by
  intro fs r h
  obtain ⟨L, S0, hh, nc, ns⟩ := fs
  unfold oNewa at h
  split at h
  · rename_i i S hS
    simp only at hS
    subst hS
    cases hb : (decide (i < 0) || Nat.blt 1000000 i.toNatClampNeg) with
    | true => rw [hb] at h; cases h
    | false =>
    rw [hb] at h
    cases h
    simp only [Bool.or_eq_false_iff, decide_eq_false_iff_not] at hb
    have hle : i.toNatClampNeg ≤ 1000000 := by
      have h9 := hb.2
      unfold Nat.blt at h9
      have := Nat.not_le_of_not_ble_eq_true (by rw [h9]; decide)
      omega
    refine ⟨Nat.le_succ _, Nat.le_add_right _ _, fun b1 b2 k2 => ?_⟩
    intro α H locs ls lv st hp hR hV hL hl hs h1 h2
    dsimp only at b1 b2 h1 h2
    obtain ⟨st, rfl, hs2⟩ := kvS_int hs
    subst hn
    have hRc := C.2.2.2.2.2.2.2.2.2.2.1
    have hRs := C.2.2.2.2.2.2.2.2.2.2.2.1
    have hc1 : nc - nc0 + 1 ≤ R.cells := by rw [hRc]; omega
    have hc2 : ns - ns0 + i.toNatClampNeg ≤ R.slots := by rw [hRs]; omega
    refine W.newa C.1 C.2.1 (by rw [hty]; exact C.2.2.2.2.1 _ hw) rfl hd rfl hb.1 (by rw [hty]; calc
        _ ≤ 1000000 * 8 := Nat.mul_le_mul hle hcb
        _ ≤ _ := by decide) hc1 hc2 fun cA kA comp f1 f2 f3 => ?_
    generalize hH1 : H.push ({ cls := cA, slots := Array.replicate i.toNatClampNeg (defaultValue (newarray.typeOf atype)), vm := .none } : Cell) = H1
    have z1 : H1.size = H.size + 1 := by rw [← hH1, Array.size_push]
    have e1 : H1[H.size]? = some ({ cls := cA, slots := Array.replicate i.toNatClampNeg (defaultValue (newarray.typeOf atype)), vm := .none } : Cell) := by rw [← hH1, Array.getElem?_push_size]
    have o1 : ∀ q : Nat, q < H.size → H1[q]? = H[q]? := fun q hq => by rw [← hH1, Array.getElem?_push, if_neg (Nat.ne_of_lt hq)]
    have hbH : kb E ≤ H.size := Nat.le_trans C.2.2.2.2.2.2.1.1.2.2 hV.1
    have hat : kAt E s (α ++ [H.size]) H1 H.size (tag, List.replicate i.toNatClampNeg (kdef tag)) := by
      refine ⟨_, e1, rfl, Or.inr ⟨h100, ⟨kA, comp, f2, by rw [f3, hty], fun Cn hCn => absurd hCn (hno Cn)⟩, by simp, fun j v hj => ?_⟩⟩
      obtain ⟨hjl, hje⟩ := List.getElem?_eq_some_iff.mp hj
      simp at hjl hje
      subst hje
      refine ⟨kdef tag, kdef_cv tag, ?_⟩
      show (Array.replicate i.toNatClampNeg (defaultValue (newarray.typeOf atype)))[j]? = _
      rw [hty, hdv]
      simp [hjl]
    have hpp := List.prefix_append α [H.size]
    have k3 := k2 (α ++ [H.size]) H1 locs ls lv (.ref H.size :: st) (List.IsPrefix.trans hp hpp) (hR.push (Nat.le_refl _) hbH hat o1 hR.lt) ⟨by rw [z1]; exact Nat.le_succ_of_le hV.1, fun x g1 g2 => (o1 x (Nat.lt_of_lt_of_le g1 hV.1)).trans (hV.2.1 x g1 g2), hV.2.2⟩ (kvL_mono hpp hL) hl (kvS_mk (kv_ref (by
      show (α ++ [H.size])[kn E + hh.length]? = _
      rw [show kn E + hh.length = α.length by have := hR.1; dsimp only at this; omega, List.getElem?_append_right (Nat.le_refl _), Nat.sub_self]; rfl)) (kvS_mono hpp hs2)) (by dsimp only; omega) (by dsimp only; omega)
    dsimp only at k3 ⊢
    rw [show nc - nc0 + 1 = nc + 1 - nc0 by omega, show ns - ns0 + i.toNatClampNeg = ns + i.toNatClampNeg - ns0 by omega]
    exact k3
  · cases h
end KHEAP
end
section
/-! ===== references in arrays, new objects, throws, calls ===== -/
/-- many cells more -/
theorem kRep.pushs {E : kE} {U : State} {α : List Nat} {h cs : List kCel} {H H1 : Heap} (hr : kRep E U α h H) (hb : kb E ≤ H.size) (hn : ∀ (i : Nat) (c : kCel), cs[i]? = some c → kAt E U (α ++ (List.range cs.length).map (fun i => H.size + i)) H1 (H.size + i) c) (oq : ∀ q, q < H.size → H1[q]? = H[q]?) : kRep E U (α ++ (List.range cs.length).map (fun i => H.size + i)) (h ++ cs) H1 := by
  have hlen := hr.1
  have hlt := hr.lt
  have hβ : ∀ i, i < cs.length → ((List.range cs.length).map (fun i => H.size + i))[i]? = some (H.size + i) := fun i hi => by
    rw [List.getElem?_map, List.getElem?_range hi]; rfl
  have key : ∀ i x, kn E ≤ i → (α ++ (List.range cs.length).map (fun i => H.size + i))[i]? = some x → (α[i]? = some x ∧ x < H.size) ∨ (α.length ≤ i ∧ x = H.size + (i - α.length)) := by
    intro i x hi h1
    by_cases l : i < α.length
    · rw [List.getElem?_append_left l] at h1
      exact Or.inl ⟨h1, hlt i x hi h1⟩
    · rw [List.getElem?_append_right (by omega)] at h1
      have z : i - α.length < ((List.range cs.length).map (fun i => H.size + i)).length := (List.getElem?_eq_some_iff.mp h1).1
      simp only [List.length_map, List.length_range] at z
      rw [hβ _ z] at h1
      exact Or.inr ⟨by omega, (Option.some.inj h1).symm⟩
  refine ⟨by simp [hlen]; omega, fun i j x hi hj h1 h2 => ?_, fun k d hk => ?_⟩
  · rcases key i x hi h1 with ⟨g1, g2⟩ | ⟨g1, g2⟩ <;> rcases key j x hj h2 with ⟨f1, f2⟩ | ⟨f1, f2⟩
    · exact hr.2.1 i j x hi hj g1 f1
    · omega
    · omega
    · omega
  · by_cases l : k < h.length
    · rw [List.getElem?_append_left l] at hk
      obtain ⟨x, h1, h2, h3⟩ := hr.2.2 k d hk
      exact ⟨x, k_pre h1 (List.prefix_append _ _), h2, h3.kept (List.prefix_append _ _) (oq x h3.lt)⟩
    · rw [List.getElem?_append_right (by omega)] at hk
      have z : k - h.length < cs.length := (List.getElem?_eq_some_iff.mp hk).1
      refine ⟨H.size + (k - h.length), ?_, by omega, hn _ _ hk⟩
      rw [List.getElem?_append_right (by omega), show kn E + k - α.length = k - h.length by omega]
      exact hβ _ z
theorem vr_outer' (c : ClassId) (N h0 : Nat) : ∀ i : Nat, (Jvm.Free.Multi.outerC c N h0 i).vm = .none ∧ (Jvm.Free.Multi.outerC c N h0 i).slots.size = N ∧ ∀ j, j < N → (Jvm.Free.Multi.outerC c N h0 i).slots[j]? = some (if j < i then .ref (h0 + 1 + j) else .null)
  | 0 => ⟨rfl, by simp [Jvm.Free.Multi.outerC], fun j hj => by simp [Jvm.Free.Multi.outerC, hj]⟩
  | i + 1 => by
    obtain ⟨h1, h2, h3⟩ := vr_outer' c N h0 i
    refine ⟨h1, ?_, fun j hj => ?_⟩
    · show ((Jvm.Free.Multi.outerC c N h0 i).slots.setIfInBounds i _).size = N
      simp [h2]
    · show ((Jvm.Free.Multi.outerC c N h0 i).slots.setIfInBounds i _)[j]? = _
      by_cases e : j = i
      · subst e
        rw [Array.getElem?_setIfInBounds_self_of_lt (by omega)]
        simp
      · rw [Array.getElem?_setIfInBounds_ne (Ne.symm e), h3 j hj]
        by_cases h : j < i
        · simp [h, Nat.lt_succ_of_lt h]
        · simp [h, show ¬ j < i + 1 by omega]
def va_AOA (ty : FieldType) (U : State) : Prop := (Cond.arrayOver (.array ty)).before #[] U = true
theorem va_AOA.use {ty : FieldType} {A : Array Value} {U : State} (h : va_AOA ty U) : (Cond.arrayOver (.array ty)).before A U = true := h
theorem kTy_ref {t : Nat} (h : 104 ≤ t) : (kTy t).isReference = true := by
  unfold kTy
  split <;> first | rfl | omega
section KREF
variable {p : Program} {l : Launch} {e : Env} {R : Room} {s : State} {m : MethodId} {args : Array Value} {below : List Frame} {meth : Method} {c : Code}
variable {E : kE} {XX : State → Prop} {σ α0 : List Nat} {cc : ByteArray} {nL nc0 ns0 : Nat} {res : kRes} {pc pc' : Nat} {own : String} {ws : List Cond} {zs : List (String × String × Nat)}
def oAald (n : Nat) : kOp := fun fs => match fs.2.1 with
  | .int i :: .ref a :: S => (match kcell n fs.2.2.1 a with
      | some q => bif Nat.ble 104 q.1 then (match kidx q.2 i with
        | some v => some (.inl (0, (fs.1, v :: S, fs.2.2)))
        | none => none) else none
      | none => none)
  | _ => none
theorem ok_aaload {n : Nat} (C : kCx E XX σ zs p l e R s m args below meth c α0 cc nL nc0 ns0 res own ws) (hn : kn E = n) (hd : decode cc pc = .ok (.aaload, 1)) : kOK E p l e R s m args below meth c α0 nL nc0 ns0 res pc (kTo (pc + 1)) (oAald n) := by
  intro fs r h
  obtain ⟨L, S0, hh, nc, ns⟩ := fs
  unfold oAald at h
  split at h
  · rename_i i a S hS
    simp only at hS
    subst hS
    split at h
    · rename_i q hq
      cases hb : Nat.ble 104 q.1 with
      | false => rw [hb] at h; cases h
      | true =>
      rw [hb] at h
      simp only [cond_true] at h
      split at h
      · rename_i x hx
        cases h
        refine ⟨Nat.le_refl _, Nat.le_refl _, fun _ _ k2 => ?_⟩
        intro α H locs ls lv st hp hR hV hL hl hs h1 h2
        obtain ⟨st1, rfl, hs1⟩ := kvS_int hs
        obtain ⟨a1, st, rfl, ha, hs2⟩ := kvS_ref hs1
        obtain ⟨i1, i2⟩ := kidx_spec hx
        subst hn
        obtain ⟨g1, g2⟩ := kcell_spec hq
        obtain ⟨ha0, hat⟩ := hR.at g1 g2 ha
        have h104 := Nat.le_of_ble_eq_true hb
        obtain ⟨cell, q1, q3, q4, q5, q6⟩ := k_arr (tag := q.1) (by omega) C rfl hat
        obtain ⟨w, w1, w2⟩ := q6 _ _ i2
        refine W.aald C.1 C.2.1 q1 (q4.is q3) (kTy_ref h104) (by rw [q3]; exact fun h => by cases h) (by rw [q5]; exact i1) w2 rfl rfl hd ?_
        exact k2 α H locs ls lv _ hp hR hV hL hl (kvS_mk w1 hs2) h1 h2
      · cases h
    · cases h
  · cases h
/-- a reference to an object of the class ci into an array whose tag is t -/
def oAast (n t ci : Nat) : kOp := fun fs => match fs.2.1 with
  | .ref v :: .int i :: .ref a :: S => (match kcell n fs.2.2.1 a, kcell n fs.2.2.1 v with
      | some q, some u => bif Nat.beq q.1 t && Nat.beq u.1 ci then (match kidx q.2 i with
        | some _ => some (.inl (0, (fs.1, S, (fs.2.2.1.set (a - n) (q.1, q.2.set i.toNatClampNeg (.ref v)), fs.2.2.2))))
        | none => none) else none
      | _, _ => none)
  | _ => none
theorem ok_aastore {n t ci : Nat} {r0 : vw_C} {Cn : String} (C : kCx E XX σ zs p l e R s m args below meth c α0 cc nL nc0 ns0 res own ws) (hn : kn E = n) (h100 : 100 ≤ t) (hty : kTy t = .object Cn) (hc : (kcl E)[ci]? = some r0) (hasg : ∀ comp, s.vm.findClass Cn = some comp → s.vm.assignable (kdC E ci) comp = true) (hd : decode cc pc = .ok (.aastore, 1)) : kOK E p l e R s m args below meth c α0 nL nc0 ns0 res pc (kTo (pc + 1)) (oAast n t ci) := by
  intro fs r h
  obtain ⟨L, S0, hh, nc, ns⟩ := fs
  unfold oAast at h
  split at h
  · rename_i v i a S hS
    simp only at hS
    subst hS
    split at h
    · rename_i q u hq hu
      cases hb : (Nat.beq q.1 t && Nat.beq u.1 ci) with
      | false => rw [hb] at h; cases h
      | true =>
      rw [hb] at h
      simp only [Bool.and_eq_true] at hb
      simp only [cond_true] at h
      split at h
      · rename_i y hx
        cases h
        refine ⟨Nat.le_refl _, Nat.le_refl _, fun _ _ k2 => ?_⟩
        intro α H locs ls lv st hp hR hV hL hl hs h1 h2
        obtain ⟨v1, st0, rfl, hv, hs0⟩ := kvS_ref hs
        obtain ⟨st1, rfl, hs1⟩ := kvS_int hs0
        obtain ⟨a1, st, rfl, ha, hs2⟩ := kvS_ref hs1
        obtain ⟨i1, i2⟩ := kidx_spec hx
        subst hn
        obtain ⟨g1, g2⟩ := kcell_spec hq
        obtain ⟨f1, f2⟩ := kcell_spec hu
        obtain ⟨ha0, hat⟩ := hR.at g1 g2 ha
        obtain ⟨hv0, hvt⟩ := hR.at f1 f2 hv
        have hq1 : q.1 = t := Nat.eq_of_beq_eq_true hb.1
        have hu1 : u.1 = ci := Nat.eq_of_beq_eq_true hb.2
        obtain ⟨cell, q1, q3, q4, q5, q6⟩ := k_arr h100 C hq1 hat
        obtain ⟨cv, u1, u3, u4⟩ := hvt
        rw [hu1] at u4
        have hil := (List.getElem?_eq_some_iff.mp i2).1
        rcases u4 with ⟨rr, e1, e2, e3, e4⟩ | ⟨e1, -⟩
        · obtain ⟨kA, comp, z1, z2, z3⟩ := q4
          have hfc := z3 Cn hty
          obtain ⟨kcomp, hkc, -⟩ := Vm.findClass_spec hfc
          obtain ⟨-, -, kV, hkV, -⟩ := C.2.2.2.2.2.2.1.2.1 ci _ hc
          refine W.aast C.1 C.2.1 q1 (fun q h => by rw [q3] at h; cases h) (by rw [q3]; exact fun h => by cases h) z1 z2 (by rw [hty]; rfl) hkc ⟨fun z => i1 (Or.inl z), by rw [q5]; exact hil⟩ u1 (fun q h => by rw [u3] at h; cases h) (by rw [e2]; exact hkV) (by rw [e2]; exact hasg comp hfc) rfl rfl hd fun H' e5 e6 e7 => ?_
          exact k2 α H' _ ls lv st hp (hR.put g1 g2 ha (k_elem (by omega) q3 (by rw [hq1]; exact ⟨kA, comp, z1, z2, z3⟩) q5 q6 hil (kv_ref hv) e5) e7) (hV.put e6 e7 ha0) hL hl hs2 h1 h2
        · exact absurd (k_classlt C hc) (by omega)
      · cases h
    · cases h
  · cases h
def oNewq (n tag : Nat) : kOp := oNewa n tag
theorem ok_newq {n tag ix : Nat} {Cn : String} (C : kCx E XX σ zs p l e R s m args below meth c α0 cc nL nc0 ns0 res own ws) (hn : kn E = n) (h100 : 104 ≤ tag) (hty : kTy tag = .object Cn) (hw : Cond.classLink own ix Cn ∈ ws) (hov : va_AO Cn s) (hd : decode cc pc = .ok (.anewarray ix, 3)) : kOK E p l e R s m args below meth c α0 nL nc0 ns0 res pc (kTo (pc + 3)) (oNewq n tag) := by
  intro fs r h
  obtain ⟨L, S0, hh, nc, ns⟩ := fs
  unfold oNewq oNewa at h
  split at h
  · rename_i i S hS
    simp only at hS
    subst hS
    cases hb : (decide (i < 0) || Nat.blt 1000000 i.toNatClampNeg) with
    | true => rw [hb] at h; cases h
    | false =>
    rw [hb] at h
    cases h
    simp only [Bool.or_eq_false_iff, decide_eq_false_iff_not] at hb
    have hle : i.toNatClampNeg ≤ 1000000 := by
      have h9 := hb.2
      unfold Nat.blt at h9
      have := Nat.not_le_of_not_ble_eq_true (by rw [h9]; decide)
      omega
    refine ⟨Nat.le_succ _, Nat.le_add_right _ _, fun b1 b2 k2 => ?_⟩
    intro α H locs ls lv st hp hR hV hL hl hs h1 h2
    dsimp only at b1 b2 h1 h2
    obtain ⟨st, rfl, hs2⟩ := kvS_int hs
    subst hn
    have hRc := C.2.2.2.2.2.2.2.2.2.2.1
    have hRs := C.2.2.2.2.2.2.2.2.2.2.2.1
    have hc1 : nc - nc0 + 1 ≤ R.cells := by rw [hRc]; omega
    have hc2 : ns - ns0 + i.toNatClampNeg ≤ R.slots := by rw [hRs]; omega
    refine W.anew C.1 C.2.1 C.2.2.2.1 (C.2.2.2.2.1 _ hw) (va_AO.use hov) rfl hd rfl hb.1 (by omega) hc1 hc2 fun cA kA comp f1 f2 f3 f4 => ?_
    generalize hH1 : H.push ({ cls := cA, slots := Array.replicate i.toNatClampNeg .null, vm := .none } : Cell) = H1
    have z1 : H1.size = H.size + 1 := by rw [← hH1, Array.size_push]
    have e1 : H1[H.size]? = some ({ cls := cA, slots := Array.replicate i.toNatClampNeg .null, vm := .none } : Cell) := by rw [← hH1, Array.getElem?_push_size]
    have o1 : ∀ q : Nat, q < H.size → H1[q]? = H[q]? := fun q hq => by rw [← hH1, Array.getElem?_push, if_neg (Nat.ne_of_lt hq)]
    have hbH : kb E ≤ H.size := Nat.le_trans C.2.2.2.2.2.2.1.1.2.2 hV.1
    have hdn : kdef tag = .null := by
      unfold kdef
      split <;> first | rfl | omega
    have hat : kAt E s (α ++ [H.size]) H1 H.size (tag, List.replicate i.toNatClampNeg (kdef tag)) := by
      refine ⟨_, e1, rfl, Or.inr ⟨(show 100 ≤ tag by omega), ⟨kA, comp, f2, by rw [f3, hty], fun Dn hDn => ?_⟩, by simp, fun j v hj => ?_⟩⟩
      · rw [show (tag, List.replicate i.toNatClampNeg (kdef tag)).1 = tag from rfl, hty] at hDn
        cases hDn
        exact f4
      · obtain ⟨hjl, hje⟩ := List.getElem?_eq_some_iff.mp hj
        simp at hjl hje
        subst hje
        refine ⟨kdef tag, kdef_cv tag, ?_⟩
        show (Array.replicate i.toNatClampNeg Value.null)[j]? = _
        rw [hdn]
        simp [hjl]
    have hpp := List.prefix_append α [H.size]
    have k3 := k2 (α ++ [H.size]) H1 locs ls lv (.ref H.size :: st) (List.IsPrefix.trans hp hpp) (hR.push (Nat.le_refl _) hbH hat o1 hR.lt) ⟨by rw [z1]; exact Nat.le_succ_of_le hV.1, fun x g1 g2 => (o1 x (Nat.lt_of_lt_of_le g1 hV.1)).trans (hV.2.1 x g1 g2), hV.2.2⟩ (kvL_mono hpp hL) hl (kvS_mk (kv_ref (by
      show (α ++ [H.size])[kn E + hh.length]? = _
      rw [show kn E + hh.length = α.length by have := hR.1; dsimp only at this; omega, List.getElem?_append_right (Nat.le_refl _), Nat.sub_self]; rfl)) (kvS_mono hpp hs2)) (by dsimp only; omega) (by dsimp only; omega)
    dsimp only at k3 ⊢
    rw [show nc - nc0 + 1 = nc + 1 - nc0 by omega, show ns - ns0 + i.toNatClampNeg = ns + i.toNatClampNeg - ns0 by omega]
    exact k3
  · cases h
/-- new int[n][k] -/
def oMna (n : Nat) : kOp := fun fs => match fs.2.1 with
  | .int k :: .int i :: S => bif decide (i < 0) || (decide (k < 0) || (Nat.blt 1000 i.toNatClampNeg || Nat.blt 1000 k.toNatClampNeg)) then none else
      some (.inl (0, (fs.1, .ref (n + fs.2.2.1.length) :: S, (fs.2.2.1 ++ ((104, (List.range i.toNatClampNeg).map (fun j => Value.ref (n + fs.2.2.1.length + 1 + j))) :: List.replicate i.toNatClampNeg (100, List.replicate k.toNatClampNeg (.int 0))), fs.2.2.2.1 + 1 + i.toNatClampNeg, fs.2.2.2.2 + i.toNatClampNeg + i.toNatClampNeg * k.toNatClampNeg))))
  | _ => none
theorem k_mna {ix : Nat} (C : kCx E XX σ zs p l e R s m args below meth c α0 cc nL nc0 ns0 res own ws) (hw : Cond.classLink own ix ("[" ++ (FieldType.array .int).toString) ∈ ws) (hov : va_AOA .int s) (hwa : Cond.arrayClass .int ∈ ws) (hd : decode cc pc = .ok (.multianewarray ix 2, 4)) {i k : Int32} {H : Heap} {locs : List Loc} {cells slots : Nat} {ls : Array Slot} {st : List Value} {Q : State → Prop} (hi : ¬ i < 0) (hk : ¬ k < 0) (hi2 : i.toNatClampNeg ≤ 1000) (hk2 : k.toNatClampNeg ≤ 1000) (hc1 : cells + (1 + i.toNatClampNeg) ≤ R.cells) (hc2 : slots + (i.toNatClampNeg + i.toNatClampNeg * k.toNatClampNeg) ≤ R.slots)
    (kk : ∀ (H1 : Heap) (co cy : Cell), H1.size = H.size + 1 + i.toNatClampNeg → (∀ q, q < H.size → H1[q]? = H[q]?) → H1[H.size]? = some co → co.vm = .none → kAr s co (.array .int) → co.slots.size = i.toNatClampNeg → (∀ j, j < i.toNatClampNeg → co.slots[j]? = some (.ref (H.size + 1 + j))) → (∀ j, j < i.toNatClampNeg → H1[H.size + 1 + j]? = some cy) → cy.vm = .none → kAr s cy .int → cy.slots = Array.replicate k.toNatClampNeg (.int 0) →
      W p l e R s m args below meth c H1 locs (cells + 1 + i.toNatClampNeg) (slots + i.toNatClampNeg + i.toNatClampNeg * k.toNatClampNeg) Q (F0 m (pc + 4) ls (.ref H.size :: st))) : W p l e R s m args below meth c H locs cells slots Q (F0 m pc ls (.int k :: .int i :: st)) := by
  intro T hT Xs
  obtain ⟨vm₁, cA, cy, -, fA, fC, hO, hI, X', step⟩ := Xs.multianewarray2F C.1 C.2.2.2.1 (C.2.2.2.2.1 _ hw) (va_AOA.use hov) (C.2.2.2.2.1 _ hwa) (g := F0 m pc ls (.int k :: .int i :: st)) rfl (by rw [C.2.1]; exact hd) rfl hi hk (by omega) (by show k.toNatClampNeg * 4 ≤ _; omega) (by omega) rfl rfl hc1 hc2
  generalize hF : Jvm.Free.Multi.fill (T.setVm vm₁) cA cy i.toNatClampNeg k.toNatClampNeg (defaultValue .int) i.toNatClampNeg = F at X' step
  have hTh : (T.setVm vm₁).heap = H := hT
  obtain ⟨f1, f2, -, -⟩ := Jvm.Free.Multi.fill_facts (T.setVm vm₁) cA cy i.toNatClampNeg k.toNatClampNeg (defaultValue .int) i.toNatClampNeg
  rw [hF, hTh] at f1 f2
  have hold : ∀ x : Nat, x < H.size → F.heap[x]? = H[x]? := fun x hx => by
    have := Jvm.Free.Multi.fill_old (T.setVm vm₁) cA cy i.toNatClampNeg k.toNatClampNeg (defaultValue .int) (a := x) (by rw [hTh]; exact hx) i.toNatClampNeg
    rw [hF, hTh] at this
    exact this
  have hrow : ∀ j : Nat, j < i.toNatClampNeg → F.heap[H.size + 1 + j]? = some (Jvm.Free.Multi.innerC cy k.toNatClampNeg (defaultValue .int)) := fun j hj => by
    have := Jvm.Free.Multi.fill_inner (T.setVm vm₁) cA cy i.toNatClampNeg k.toNatClampNeg (defaultValue .int) i.toNatClampNeg j hj
    rw [hF, hTh] at this
    exact this
  have hout := vr_outer' cA i.toNatClampNeg H.size i.toNatClampNeg
  obtain ⟨o1, o2, o3⟩ := hout
  obtain ⟨-, kO, hkO, cmO, hkkO⟩ := (hO i.toNatClampNeg H.size i.toNatClampNeg).1
  obtain ⟨-, kI, hkI, cmI, hkkI⟩ := (hI k.toNatClampNeg (defaultValue .int)).1
  obtain ⟨t, a1, b1⟩ := kk F.heap _ _ (by rw [f1]) hold f2 o1 ⟨kO, cmO, hkO, hkkO, fun Cn h => by cases h⟩ o2 (fun j hj => by rw [o3 j hj, if_pos hj]) hrow rfl ⟨kI, cmI, hkI, hkkI, fun Cn h => by cases h⟩ rfl F rfl X'
  refine ⟨t, step t ?_, b1⟩
  rw [show T.heap.size = H.size by rw [hT]]
  exact a1
theorem ok_mna {n ix : Nat} (C : kCx E XX σ zs p l e R s m args below meth c α0 cc nL nc0 ns0 res own ws) (hn : kn E = n) (hw : Cond.classLink own ix ("[" ++ (FieldType.array .int).toString) ∈ ws) (hov : va_AOA .int s) (hwa : Cond.arrayClass .int ∈ ws) (hd : decode cc pc = .ok (.multianewarray ix 2, 4)) : kOK E p l e R s m args below meth c α0 nL nc0 ns0 res pc (kTo (pc + 4)) (oMna n) := by
  intro fs r h
  obtain ⟨L, S0, hh, nc, ns⟩ := fs
  unfold oMna at h
  split at h
  · rename_i k i S hS
    simp only at hS
    subst hS
    cases hb : (decide (i < 0) || (decide (k < 0) || (Nat.blt 1000 i.toNatClampNeg || Nat.blt 1000 k.toNatClampNeg))) with
    | true => rw [hb] at h; cases h
    | false =>
    rw [hb] at h
    cases h
    simp only [Bool.or_eq_false_iff, decide_eq_false_iff_not] at hb
    obtain ⟨hi, hk, hi2, hk2⟩ := hb
    have hi3 : i.toNatClampNeg ≤ 1000 := by
      unfold Nat.blt at hi2
      have := Nat.not_le_of_not_ble_eq_true (by rw [hi2]; decide)
      omega
    have hk3 : k.toNatClampNeg ≤ 1000 := by
      unfold Nat.blt at hk2
      have := Nat.not_le_of_not_ble_eq_true (by rw [hk2]; decide)
      omega
    refine ⟨by dsimp only; omega, by dsimp only; omega, fun b1 b2 k2 => ?_⟩
    intro α H locs ls lv st hp hR hV hL hl hs h1 h2
    dsimp only at b1 b2 h1 h2
    obtain ⟨st1, rfl, hs1⟩ := kvS_int hs
    obtain ⟨st, rfl, hs2⟩ := kvS_int hs1
    subst hn
    have hRc := C.2.2.2.2.2.2.2.2.2.2.1
    have hRs := C.2.2.2.2.2.2.2.2.2.2.2.1
    have hc1 : nc - nc0 + (1 + i.toNatClampNeg) ≤ R.cells := by rw [hRc]; omega
    have hc2 : ns - ns0 + (i.toNatClampNeg + i.toNatClampNeg * k.toNatClampNeg) ≤ R.slots := by rw [hRs]; omega
    refine k_mna C hw hov hwa hd hi hk hi3 hk3 hc1 hc2 fun H1 co cy z1 o1 e1 e2 e3 e4 e5 d1 d2 d3 d4 => ?_
    have hbH : kb E ≤ H.size := Nat.le_trans C.2.2.2.2.2.2.1.1.2.2 hV.1
    have hal : α.length = kn E + hh.length := hR.1
    generalize hcs : ((104, (List.range i.toNatClampNeg).map (fun j => Value.ref (kn E + hh.length + 1 + j))) :: List.replicate i.toNatClampNeg (100, List.replicate k.toNatClampNeg (.int 0)) : List kCel) = cs at k2
    have hcl : cs.length = i.toNatClampNeg + 1 := by rw [← hcs]; simp
    have hβ : ∀ j, j < cs.length → (α ++ (List.range cs.length).map (fun i => H.size + i))[kn E + hh.length + j]? = some (H.size + j) := fun j hj => by
      rw [List.getElem?_append_right (by omega), show kn E + hh.length + j - α.length = j by omega, List.getElem?_map, List.getElem?_range hj]; rfl
    have hn9 : ∀ (j : Nat) (q : kCel), cs[j]? = some q → kAt E s (α ++ (List.range cs.length).map (fun i => H.size + i)) H1 (H.size + j) q := by
      intro j q hj
      have hjl := (List.getElem?_eq_some_iff.mp hj).1
      rw [← hcs] at hj
      cases j with
      | zero =>
        cases hj
        refine ⟨co, e1, e2, Or.inr ⟨(show 100 ≤ 104 by decide), e3, by simp [e4], fun j v hv => ?_⟩⟩
        obtain ⟨g1, g2⟩ := List.getElem?_eq_some_iff.mp hv
        simp at g1 g2
        subst g2
        refine ⟨_, kv_ref (a := H.size + 1 + j) ?_, e5 j g1⟩
        have := hβ (1 + j) (by omega)
        rw [show kn E + hh.length + 1 + j = kn E + hh.length + (1 + j) by omega, this]
        congr 1
        omega
      | succ j =>
        rw [List.getElem?_cons_succ] at hj
        obtain ⟨g1, g2⟩ := List.getElem?_eq_some_iff.mp hj
        simp at g1 g2
        subst g2
        refine ⟨cy, by have := d1 j g1; rwa [show H.size + 1 + j = H.size + (j + 1) by omega] at this, d2, Or.inr ⟨(show 100 ≤ 100 by decide), d3, by simp [d4], fun j v hv => ?_⟩⟩
        obtain ⟨f1, f2⟩ := List.getElem?_eq_some_iff.mp hv
        simp at f1 f2
        subst f2
        refine ⟨.int 0, rfl, ?_⟩
        rw [d4]
        simp [f1]
    have hpp := List.prefix_append α ((List.range cs.length).map (fun i => H.size + i))
    have k3 := k2 (α ++ (List.range cs.length).map (fun i => H.size + i)) H1 locs ls lv (.ref H.size :: st) (List.IsPrefix.trans hp hpp) (hR.pushs hbH hn9 o1) ⟨by rw [z1]; have := hV.1; omega, fun x g1 g2 => (o1 x (Nat.lt_of_lt_of_le g1 hV.1)).trans (hV.2.1 x g1 g2), hV.2.2⟩ (kvL_mono hpp hL) hl (kvS_mk (kv_ref (by
      have := hβ 0 (by omega)
      exact this)) (kvS_mono hpp hs2)) (by dsimp only; omega) (by dsimp only; omega)
    dsimp only at k3 ⊢
    rw [show nc - nc0 + 1 + i.toNatClampNeg = nc + 1 + i.toNatClampNeg - nc0 by omega, show ns - ns0 + i.toNatClampNeg + i.toNatClampNeg * k.toNatClampNeg = ns + i.toNatClampNeg + i.toNatClampNeg * k.toNatClampNeg - ns0 by omega]
    exact k3
  · cases h
/-- new C -/
def oNew (n ci N : Nat) (ds : List Value) : kOp := fun fs => some (.inl (0, (fs.1, .ref (n + fs.2.2.1.length) :: fs.2.1, (fs.2.2.1 ++ [(ci, ds)], fs.2.2.2.1 + 1, fs.2.2.2.2 + N))))
theorem ok_new {n ci N ix : Nat} {Cn : String} {T : u_T} {ds : List Value} (C : kCx E XX σ zs p l e R s m args below meth c α0 cc nL nc0 ns0 res own ws) (hn : kn E = n) (hin : ∀ w ∈ u_ws Cn T N, w ∈ ws) (ty : Nat → FieldType) (hty : ∀ k, k < N → parseFieldDescriptor (T k).2.2.1 = some (ty k)) (hc : (kcl E)[ci]? = some (Cn, T, N)) (h1 : Cond.classLink own ix Cn ∈ ws) (h2 : Cond.instantiable Cn N ∈ ws) (h3 : Cond.initialized Cn ∈ ws) (hds : ds = (List.range N).map fun k => defaultValue (ty k)) (hd : decode cc pc = .ok (.new ix, 3)) : kOK E p l e R s m args below meth c α0 nL nc0 ns0 res pc (kTo (pc + 3)) (oNew n ci N ds) := by
  intro fs r h
  obtain ⟨L, S, hh, nc, ns⟩ := fs
  cases h
  refine ⟨Nat.le_succ _, Nat.le_add_right _ _, fun b1 b2 k2 => ?_⟩
  intro α H locs ls lv st hp hR hV hL hl hs g1 g2
  dsimp only at b1 b2 g1 g2
  subst hn
  have hRc := C.2.2.2.2.2.2.2.2.2.2.1
  have hRs := C.2.2.2.2.2.2.2.2.2.2.2.1
  have hc1 : nc - nc0 + 1 ≤ R.cells := by rw [hRc]; omega
  have hc2 : ns - ns0 + N ≤ R.slots := by rw [hRs]; omega
  have hts := C.2.2.2.2.1
  have hKn := C.2.2.2.2.2.2.1.2.1 ci _ hc
  refine W.newcK C.1 C.2.1 C.2.2.2.1 (hts _ h1) (hts _ h2) (hts _ h3) rfl hd hc1 hc2 hKn.2.1 rfl fun H1 kC hkC e1 z1 o1 => ?_
  have hbH : kb E ≤ H.size := Nat.le_trans C.2.2.2.2.2.2.1.1.2.2 hV.1
  have hB := u_born ty hts hin hKn hkC e1 hty
  have hat : kAt E s (α ++ [H.size]) H1 H.size (ci, ds) := by
    obtain ⟨cell, b1, b2, b3, b4⟩ := hB
    refine ⟨cell, b1, b3, Or.inl ⟨_, hc, b2, by rw [hds]; simp, fun j v hj => ?_⟩⟩
    rw [hds] at hj
    obtain ⟨f1, f2⟩ := List.getElem?_eq_some_iff.mp hj
    simp at f1 f2
    subst f2
    exact ⟨defaultValue (ty j), by cases ty j <;> rfl, b4 j f1⟩
  have hpp := List.prefix_append α [H.size]
  have k3 := k2 (α ++ [H.size]) H1 locs ls lv (.ref H.size :: st) (List.IsPrefix.trans hp hpp) (hR.push (Nat.le_refl _) hbH hat o1 hR.lt) ⟨by rw [z1]; exact Nat.le_succ_of_le hV.1, fun x g1 g2 => (o1 x (Nat.lt_of_lt_of_le g1 hV.1)).trans (hV.2.1 x g1 g2), hV.2.2⟩ (kvL_mono hpp hL) hl (kvS_mk (kv_ref (by
    show (α ++ [H.size])[kn E + hh.length]? = _
    rw [show kn E + hh.length = α.length by have := hR.1; dsimp only at this; omega, List.getElem?_append_right (Nat.le_refl _), Nat.sub_self]; rfl)) (kvS_mono hpp hs)) (by dsimp only; omega) (by dsimp only; omega)
  dsimp only at k3 ⊢
  rw [show nc - nc0 + 1 = nc + 1 - nc0 by omega, show ns - ns0 + N = ns + N - ns0 by omega]
  exact k3
/-- Object.<init> -/
def oObj : kOp := fun fs => match fs.2.1 with
  | .ref _ :: S => bif Nat.ble S.length 4 then some (.inl (0, (fs.1, S, fs.2.2))) else none
  | _ => none
theorem ok_obj {ix : Nat} (C : kCx E XX σ zs p l e R s m args below meth c α0 cc nL nc0 ns0 res own ws) (h1 : Cond.methodLink own ix Lib.objectInit ∈ ws) (h2 : Cond.instanceMethod Lib.objectInit ∈ ws) (h3 : Cond.code Lib.objectInit ⟨#[0xb1]⟩ 1 none ∈ ws) (hd : decode cc pc = .ok (.invokespecial ix, 3)) : kOK E p l e R s m args below meth c α0 nL nc0 ns0 res pc (kTo (pc + 3)) oObj := by
  intro fs r h
  obtain ⟨L, S0, hh, nc, ns⟩ := fs
  unfold oObj at h
  split at h
  · rename_i a S hS
    simp only at hS
    subst hS
    cases hb : Nat.ble S.length 4 with
    | false => rw [hb] at h; cases h
    | true =>
    rw [hb] at h
    cases h
    refine ⟨Nat.le_refl _, Nat.le_refl _, fun b1 b2 k2 => ?_⟩
    intro α H locs ls lv st hp hR hV hL hl hs g1 g2
    obtain ⟨a1, st, rfl, ha, hs2⟩ := kvS_ref hs
    have hts := C.2.2.2.2.1
    have hf := C.2.2.2.2.2.2.2.2.2.2.2.2.1
    have hlo := C.2.2.2.2.2.2.2.2.2.2.2.2.2
    have h4 := Nat.le_of_ble_eq_true hb
    have h5 := kvS_cats hs2
    refine W.objInit C.1 C.2.1 C.2.2.2.1 (hts _ h1) (hts _ h2) (hts _ h3) rfl (by rw [C.2.2.1]; exact hl.1) rfl hd (by omega) ?_ ?_
    · show 2 * 0 + _ + 12 ≤ _
      omega
    · exact k2 α H locs ls lv st hp hR hV hL hl hs2 g1 g2
  · cases h
/-- a cast to a class that the object's class is known to be of -/
def oCast (n ci : Nat) : kOp := fun fs => match fs.2.1 with
  | .ref a :: S => (match kcell n fs.2.2.1 a with
    | some q => bif Nat.beq q.1 ci then some (.inl (0, fs)) else none
    | none => none)
  | .null :: S => some (.inl (0, fs))
  | _ => none
theorem ok_cast {n ci ix : Nat} {Cn : String} {r0 : vw_C} (C : kCx E XX σ zs p l e R s m args below meth c α0 cc nL nc0 ns0 res own ws) (hn : kn E = n) (hc : (kcl E)[ci]? = some r0) (hw : Cond.classLink own ix Cn ∈ ws) (hx : va_Nw (.castable r0.1 Cn) s) (hd : decode cc pc = .ok (.checkcast ix, 3)) : kOK E p l e R s m args below meth c α0 nL nc0 ns0 res pc (kTo (pc + 3)) (oCast n ci) := by
  intro fs r h
  obtain ⟨L, S0, hh, nc, ns⟩ := fs
  unfold oCast at h
  split at h
  · rename_i a S hS
    simp only at hS
    subst hS
    split at h
    · rename_i q hq
      cases hb : Nat.beq q.1 ci with
      | false => rw [hb] at h; cases h
      | true =>
      rw [hb] at h
      cases h
      refine ⟨Nat.le_refl _, Nat.le_refl _, fun b1 b2 k2 => ?_⟩
      intro α H locs ls lv st hp hR hV hL hl hs g1 g2
      have hs0 := hs
      obtain ⟨a1, st, rfl, ha, hs2⟩ := kvS_ref hs
      subst hn
      obtain ⟨f1, f2⟩ := kcell_spec hq
      obtain ⟨ha0, cell, q1, q3, q4⟩ := hR.at f1 f2 ha
      rw [Nat.eq_of_beq_eq_true hb] at q4
      rcases q4 with ⟨rr, e1, e2, e3, e4⟩ | ⟨e1, -⟩
      · have hKn := C.2.2.2.2.2.2.1.2.1 ci _ hc
        exact va_castY C.1 C.2.1 C.2.2.2.1 (C.2.2.2.2.1 _ hw) hx ⟨cell, q1, by rw [q3]; rfl, by rw [e2]; exact hKn.2.1⟩ hd (k2 α H locs ls lv _ hp hR hV hL hl hs0 g1 g2)
      · exact absurd (k_classlt C hc) (by omega)
    · cases h
  · rename_i S hS
    simp only at hS
    subst hS
    cases h
    refine ⟨Nat.le_refl _, Nat.le_refl _, fun b1 b2 k2 => ?_⟩
    intro α H locs ls lv st hp hR hV hL hl hs g1 g2
    have hs0 := hs
    obtain ⟨st, rfl, hs2⟩ := kvS_null hs
    exact lv_castN C.1 C.2.1 hd (k2 α H locs ls lv _ hp hR hV hL hl hs0 g1 g2)
  · cases h
/-- throw new X(text) -/
def tThrow (k : Nat) : kOp := fun fs => bif Nat.ble fs.2.1.length 4 then some (.inr (.inr k, (fs.2.2.1, fs.2.2.2.1 + 1, fs.2.2.2.2 + 6))) else none
theorem ok_throw {k ik is ic sa : Nat} {text : String} {names : List String} {pcs : Nat → Nat} (C : kCx E XX σ zs p l e R s m args below meth c α0 cc nL nc0 ns0 res own ws) (hcls : Bundle.fit (kEx k) = true) (hnames : ∀ n ∈ names, Bundle.fit n = true) (hnl : names.length ≤ 3) (hk : Cond.classLink own ik (kEx k) ∈ ws) (hini : Cond.initialized (kEx k) ∈ ws) (hstr : vk_R own is text sa s) (hat : ∀ w ∈ vx_atS own ic (kEx k) names, w.before args s = true) (hgood : ∀ w ∈ Cond.classLink own ik (kEx k) :: Cond.initialized (kEx k) :: vx_atS own ic (kEx k) names, vx_ot w = true)
    (hU : vx_Zq Bundle.tN "UNASSIGNED_STACK" Bundle.steD (fun q => kb E ≤ q) s s.heap) (hN : vx_Zq Bundle.tN "SUPPRESSED_SENTINEL" Bundle.listD (fun q => kb E ≤ q) s s.heap)
    (d0 : decode cc pc = .ok (.new ik, 3)) (d3 : decode cc (pc + 3) = .ok (.dup, 1)) (d4 : decode cc (pc + 4) = .ok (.ldc is, 2)) (d6 : decode cc (pc + 6) = .ok (.invokespecial ic, 3)) (d9 : decode cc (pc + 9) = .ok (.athrow, 1)) (hout : ∀ x ∈ c.exceptionTable.toList, False) : kOK E p l e R s m args below meth c α0 nL nc0 ns0 res pc pcs (tThrow k) := by
  intro fs r h
  obtain ⟨L, S0, hh, nc, ns⟩ := fs
  unfold tThrow at h
  cases hb : Nat.ble S0.length 4 with
  | false => rw [hb] at h; cases h
  | true =>
  rw [hb] at h
  cases h
  refine ⟨Nat.le_succ _, Nat.le_add_right _ _, fun hq => ?_⟩
  subst hq
  intro α H locs ls lv st hp hR hV hL hl hs g1 g2
  dsimp only at g1 g2
  have hts := C.2.2.2.2.1
  have hRc := C.2.2.2.2.2.2.2.2.2.2.1
  have hRs := C.2.2.2.2.2.2.2.2.2.2.2.1
  have hf := C.2.2.2.2.2.2.2.2.2.2.2.2.1
  have hlo := C.2.2.2.2.2.2.2.2.2.2.2.2.2
  dsimp only at hRc hRs
  have h4 := Nat.le_of_ble_eq_true hb
  have h5 := kvS_cats hs
  dsimp only at h5
  have hc1 : nc - nc0 + 1 ≤ R.cells := by rw [hRc]; omega
  have hc2 : ns - ns0 + 6 ≤ R.slots := by rw [hRs]; omega
  exact vx_throwS C.1 C.2.1 C.2.2.2.2.2.2.2.2.2.1 C.2.2.2.1 hcls hnames (hts _ hk) (hts _ hini) hstr hat hgood hU hN hV (by rw [C.2.2.1]; exact hl.1) d0 d3 d4 d6 d9 (fun x hx => (hout x hx).elim) (by omega) (by omega) hc1 hc2 C.2.2.2.2.2.1
    (fun t hvm hz hq => ⟨⟨α, k, hp, rfl, rfl, (show kRep E t α hh t.heap from ⟨hR.1, hR.2.1, fun j d hj => by
      obtain ⟨x, y1, y2, y3⟩ := hR.2.2 j d hj
      exact ⟨x, y1, y2, (y3.kept (List.prefix_refl _) (hq x y3.lt)).moved hvm⟩⟩)⟩, ⟨Nat.le_trans hV.1 hz, fun q q1 q2 => (hq q (Nat.lt_of_lt_of_le q1 hV.1)).trans (hV.2.1 q q1 q2)⟩⟩)
    hV.2.2 (by dsimp only; omega) (by dsimp only; omega)
end KREF
end
section
/-! ===== calls; blocks; runs; the whole machine of methods, and that it is right ===== -/
abbrev kCall : Type := Nat → List Value → kHS → Option kRes
def oCall (cl : kCall) (mi n : Nat) : kOp := fun fs => bif Nat.ble n fs.2.1.length && Nat.ble (ksz (fs.2.1.drop n)) 8 then (match cl mi (fs.2.1.take n).reverse fs.2.2 with
  | some (.inl vo, hs) => some (.inl (0, (fs.1, vo.toList ++ fs.2.1.drop n, hs)))
  | some (.inr k, hs) => some (.inr (.inr k, hs))
  | none => none) else none
/-- a call of a method of an object: its class is looked at -/
def oCallV (cl : kCall) (mi n ci nS : Nat) : kOp := fun fs => match (fs.2.1.drop n) with
  | .ref a :: _ => (match kcell nS fs.2.2.1 a with
    | some q => bif Nat.beq q.1 ci then oCall cl mi (n + 1) fs else none
    | none => none)
  | _ => none
/-- a constructor's call: n arguments behind the object -/
def oCallI (cl : kCall) (mi n : Nat) : kOp := fun fs => match (fs.2.1.drop n) with
  | .ref _ :: _ => oCall cl mi (n + 1) fs
  | _ => none
def kPc (E : kE) (XX : State → Prop) (σ : List Nat) (zs : List (String × String × Nat)) (α0 : List Nat) (args : List Value) (hs : kHS) : Array Value → State → Prop := fun a U => (∃ av, kvS α0 args = some av ∧ a = av.toArray) ∧ kRep E U α0 hs.1 U.heap ∧ kKK E XX σ zs U ∧ σ <+: α0
/-- the contract of a method for these arguments and this heap: the result res -/
def kMet (E : kE) (XX : State → Prop) (σ : List Nat) (zs : List (String × String × Nat)) (l : Launch) (y : MethodName) (ws : List Cond) (d : Nat) (args : List Value) (hs : kHS) (res : kRes) : Prop :=
  hs.2.1 ≤ res.2.2.1 ∧ hs.2.2 ≤ res.2.2.2 ∧ ∀ α0 : List Nat, vx_Met l y ws ({ frames := d + 8, cells := res.2.2.1 - hs.2.1, slots := res.2.2.2 - hs.2.2, locals := 40 * d + 150 }) (kPc E XX σ zs α0 args hs) (kQc E α0 res) (kXc E α0 res) (res.2.2.1 - hs.2.1) (res.2.2.2 - hs.2.2) (fun q => kb E ≤ q)
theorem kPc_blind {E : kE} {XX : State → Prop} {σ : List Nat} {zs : List (String × String × Nat)} {α0 : List Nat} {args : List Value} {hs : kHS} (hst : kStab (kb E) XX) : FrameBlind (kPc E XX σ zs α0 args hs) := by
  intro a U g mk h
  obtain ⟨h1, h2, h3, h4⟩ := h
  exact ⟨h1, kRep.moved (u := U) (U := U.calling g mk a) (Vm.Alike.refl U.vm) h2, kKK.moved (U := U.calling g mk a) hst h3 (State.WarmedH.refl U) (Nat.le_refl _) (fun q _ => rfl), h4⟩
def kSnd (E : kE) (XX : State → Prop) (σ : List Nat) (zs : List (String × String × Nat)) (l : Launch) (Y : Nat → MethodName) (WS : Nat → List Cond) (d : Nat) (cl : kCall) : Prop := ∀ (mi : Nat) (args : List Value) (hs : kHS) (r : kRes), cl mi args hs = some r → kMet E XX σ zs l (Y mi) (WS mi) d args hs r
section KCALL
variable {p : Program} {l : Launch} {e : Env} {R : Room} {s : State} {m : MethodId} {args : Array Value} {below : List Frame} {meth : Method} {c : Code}
variable {E : kE} {XX : State → Prop} {σ α0 : List Nat} {cc : ByteArray} {nL nc0 ns0 : Nat} {res : kRes} {pc pc' : Nat} {own : String} {ws : List Cond} {zs : List (String × String × Nat)}
theorem k_run {α : List Nat} {H : Heap} {locs : List Loc} {cells slots mc ms : Nat} {ls : Array Slot} {st0 rest : List Value} {res1 : kRes} {av : Array Value} {Q : State → Prop} (hr : vx_Run p l e R s m args below meth c H locs cells slots mc ms (F0 m pc ls st0) rest (kQc E α res1 av) (kXc E α res1) (fun q => kb E ≤ q)) (hV : va_S (fun q => kb E ≤ q) s.heap H locs)
    (kx : ∀ (α' : List Nat) (k : Nat) (ce : Cell) (q9 : Addr) (H1 : Heap) (locs1 : List Loc), α <+: α' → res1.1 = .inr k → kRep E s α' res1.2.1 H1 → va_S (fun q => kb E ≤ q) s.heap H1 locs1 → H1[q9]? = some ce → ce.vm = .none → s.vm.findClass (kEx k) = some ce.cls → vx_W p l e R s m args below meth c H1 locs1 (cells + mc) (slots + ms) Q (F0 m pc ls rest) q9)
    (kk : ∀ (α' : List Nat) (vo wo : Option Value) (H1 : Heap) (locs1 : List Loc), α <+: α' → res1.1 = .inl vo → kvO α' vo = some wo → kRep E s α' res1.2.1 H1 → va_S (fun q => kb E ≤ q) s.heap H1 locs1 → W p l e R s m args below meth c H1 locs1 (cells + mc) (slots + ms) Q (F0 m (pc + 3) ls (wo.toList ++ rest))) : W p l e R s m args below meth c H locs cells slots Q (F0 m pc ls st0) := by
  intro T hT X
  rcases hr T hT X with ⟨v, st₀, t, T', L, h0, X', hL, e1, e2, ⟨⟨α', vo, wo, hp, hv, ho, hc, hRt⟩, hF⟩, st⟩ | ⟨q, st₀, t, T', L, Ex, ce, h0, X', hL, e1, e2, ⟨⟨α', k, hp, hk, hE, hRt⟩, hF⟩, hce, hcv, hcl, st⟩
  · cases ho
    obtain ⟨k1, k2, k3⟩ := vx_keep h0 e1 hV (fun _ _ h => h) (fun _ h => h) hL hF
    have hal : s.vm.Alike t.vm := by rw [← e2]; exact X'.warmed.alike
    have hR2 : kRep E s α' res1.2.1 T'.heap := by rw [e1]; exact hRt.moved hal.symm
    obtain ⟨t2, a1, b1⟩ := kk α' vo v T'.heap (locs ++ L) hp hv hc hR2 k3 T' rfl X'
    exact ⟨t2, st t2 a1, b1⟩
  · obtain ⟨k1, k2, k3⟩ := vx_keep h0 e1 hV (fun _ _ h => h) (fun _ h => h) hL hF
    have hal : s.vm.Alike t.vm := by rw [← e2]; exact X'.warmed.alike
    have hR2 : kRep E s α' res1.2.1 T'.heap := by rw [e1]; exact hRt.moved hal.symm
    obtain ⟨t2, a1, b1⟩ := kx α' k ce q T'.heap (locs ++ L) hp hk hR2 k3 (by rw [e1]; exact hce) hcv (by rw [hE]; exact hcl) T' rfl X'
    exact ⟨t2, st.trans a1, b1⟩
/-- what a call of the method gives the machine -/
def kRuns (E : kE) (p : Program) (l : Launch) (e : Env) (R : Room) (s : State) (m : MethodId) (args : Array Value) (below : List Frame) (meth : Method) (c : Code) (α0 : List Nat) (nL pc n : Nat) (args1 : List Value) (hs : kHS) (r : kRes) : Prop :=
  (hs.2.1 ≤ r.2.2.1 ∧ hs.2.2 ≤ r.2.2.2) ∧ ∀ (α : List Nat) (H : Heap) (locs : List Loc) (ls : Array Slot) (av rest : List Value) (cells slots : Nat), α0 <+: α → kRep E s α hs.1 H → va_S (fun q => kb E ≤ q) s.heap H locs → kvS α args1 = some av → args1.length = n → ls.size = nL → (rest.map fun v => v.category).sum ≤ 8 → cells + (r.2.2.1 - hs.2.1) ≤ R.cells → slots + (r.2.2.2 - hs.2.2) ≤ R.slots →
    vx_Run p l e R s m args below meth c H locs cells slots (r.2.2.1 - hs.2.1) (r.2.2.2 - hs.2.2) (F0 m pc ls (av.reverse ++ rest)) rest (kQc E α r av.toArray) (kXc E α r) (fun q => kb E ≤ q)
theorem ok_call {cl : kCall} {mi n : Nat} (C : kCx E XX σ zs p l e R s m args below meth c α0 cc nL nc0 ns0 res own ws) (hout : ∀ x ∈ c.exceptionTable.toList, False) {G : kFS → Prop} (hrun : ∀ (fs : kFS) (r : kRes), G fs → cl mi (fs.2.1.take n).reverse fs.2.2 = some r → kRuns E p l e R s m args below meth c α0 nL pc n (fs.2.1.take n).reverse fs.2.2 r) : ∀ (fs : kFS) (r : (Nat × kFS) ⊕ kRes), G fs → oCall cl mi n fs = some r → match r with
    | .inl q => fs.2.2.2.1 ≤ q.2.2.2.2.1 ∧ fs.2.2.2.2 ≤ q.2.2.2.2.2 ∧ (q.2.2.2.2.1 ≤ res.2.2.1 → q.2.2.2.2.2 ≤ res.2.2.2 → kW E p l e R s m args below meth c α0 nL nc0 ns0 (kQ E below args s α0 nc0 ns0 res) (kTo (pc + 3) q.1) q.2 → kW E p l e R s m args below meth c α0 nL nc0 ns0 (kQ E below args s α0 nc0 ns0 res) pc fs)
    | .inr q => fs.2.2.2.1 ≤ q.2.2.1 ∧ fs.2.2.2.2 ≤ q.2.2.2 ∧ (q = res → kW E p l e R s m args below meth c α0 nL nc0 ns0 (kQ E below args s α0 nc0 ns0 res) pc fs) := by
  intro fs r hG h
  obtain ⟨L, S, hs⟩ := fs
  unfold oCall at h
  cases hb : (Nat.ble n S.length && Nat.ble (ksz (S.drop n)) 8) with
  | false => dsimp only at h; rw [hb] at h; cases h
  | true =>
  dsimp only at h
  rw [hb] at h
  simp only [cond_true] at h
  simp only [Bool.and_eq_true] at hb
  have hn1 := Nat.le_of_ble_eq_true hb.1
  have hn2 := Nat.le_of_ble_eq_true hb.2
  have hRc := C.2.2.2.2.2.2.2.2.2.2.1
  have hRs := C.2.2.2.2.2.2.2.2.2.2.2.1
  have split1 : ∀ (α : List Nat) (st : List Value), kvS α S = some st → ∃ x y, st = x ++ y ∧ kvS α (S.take n) = some x ∧ kvS α (S.drop n) = some y ∧ x.length = n ∧ (y.map fun v => v.category).sum ≤ 8 := by
    intro α st hst
    obtain ⟨x, y, e1, e2, e3, e4⟩ := kvS_app (a := S.take n) (b := S.drop n) (by rw [List.take_append_drop]; exact hst)
    refine ⟨x, y, e1, e2, e3, by rw [e4, List.length_take]; omega, ?_⟩
    rw [kvS_ksz e3]
    exact hn2
  split at h
  · rename_i vo hs1 hcl
    cases h
    obtain ⟨⟨m1, m2⟩, hru⟩ := hrun (L, S, hs) _ hG hcl
    dsimp only at m1 m2
    refine ⟨m1, m2, fun b1 b2 k2 => ?_⟩
    intro α H locs ls lv st hp hR hV hL hl hst g1 g2
    dsimp only at b1 b2 g1 g2
    obtain ⟨x, y, rfl, ex, ey, ex2, ey2⟩ := split1 α st hst
    have hsy : (y.map fun v => v.category).sum ≤ 8 := ey2
    have hq := hru α H locs ls x.reverse y (hs.2.1 - nc0) (hs.2.2 - ns0) hp hR hV (kvS_rev ex) (by simp; omega) hl.1 hsy (by dsimp only; rw [hRc]; omega) (by dsimp only; rw [hRs]; omega)
    rw [List.reverse_reverse] at hq
    refine k_run hq hV (fun α' k ce q9 H1 locs1 z1 z2 z3 z4 z5 z6 z7 => by cases z2) (fun α' vo2 wo H1 locs1 z1 z2 z3 z4 z5 => ?_)
    cases z2
    have hst2 : kvS α' (vo.toList ++ S.drop n) = some (wo.toList ++ y) := by
      refine kvS_appM ?_ (kvS_mono z1 ey)
      cases vo with
      | none => cases z3; rfl
      | some v =>
        simp only [kvO, Option.map_eq_some_iff] at z3
        obtain ⟨w9, w1, w2⟩ := z3
        subst w2
        exact kvS_mk w1 rfl
    have k3 := k2 α' H1 locs1 ls lv (wo.toList ++ y) (List.IsPrefix.trans hp z1) z4 z5 (kvL_mono z1 hL) hl hst2 (by dsimp only; omega) (by dsimp only; omega)
    dsimp only at k3 ⊢
    rw [show hs.2.1 - nc0 + (hs1.2.1 - hs.2.1) = hs1.2.1 - nc0 by omega, show hs.2.2 - ns0 + (hs1.2.2 - hs.2.2) = hs1.2.2 - ns0 by omega]
    exact k3
  · rename_i k hs1 hcl
    cases h
    obtain ⟨⟨m1, m2⟩, hru⟩ := hrun (L, S, hs) _ hG hcl
    dsimp only at m1 m2
    refine ⟨m1, m2, fun hq => ?_⟩
    subst hq
    intro α H locs ls lv st hp hR hV hL hl hst g1 g2
    dsimp only at g1 g2 hRc hRs
    obtain ⟨x, y, rfl, ex, ey, ex2, ey2⟩ := split1 α st hst
    have hsy : (y.map fun v => v.category).sum ≤ 8 := ey2
    have hq := hru α H locs ls x.reverse y (hs.2.1 - nc0) (hs.2.2 - ns0) hp hR hV (kvS_rev ex) (by simp; omega) hl.1 hsy (by dsimp only; rw [hRc]; omega) (by dsimp only; rw [hRs]; omega)
    rw [List.reverse_reverse] at hq
    refine k_run hq hV (fun α' k2 ce q9 H1 locs1 z1 z2 z3 z4 z5 z6 z7 => ?_) (fun α' vo2 wo H1 locs1 z1 z2 z3 z4 z5 => by cases z2)
    cases z2
    refine vx_out (fun x hx => (hout x hx).elim) C.2.2.2.2.2.1 z5 z6 z7 (fun t ht hal => ⟨⟨α', k, List.IsPrefix.trans hp z1, rfl, rfl, by rw [ht]; exact z3.moved hal⟩, z4.F ht⟩) z4.2.2 (by dsimp only; omega) (by dsimp only; omega)
  · cases h
/-- PreS for a callee -/
theorem k_pre_s {α : List Nat} {H : Heap} {locs : List Loc} {args1 av : List Value} {hs : kHS} (C : kCx E XX σ zs p l e R s m args below meth c α0 cc nL nc0 ns0 res own ws) (hp : α0 <+: α) (hR : kRep E s α hs.1 H) (hV : va_S (fun q => kb E ≤ q) s.heap H locs) (ha : kvS α args1 = some av) : PreS s H (kPc E XX σ zs α args1 hs) av := by
  refine ⟨kPc_blind C.2.2.2.2.2.2.2.1, fun U hU hW => ⟨⟨av, ha, rfl⟩, by rw [hU]; exact hR.moved hW.alike, kKK.moved C.2.2.2.2.2.2.2.1 C.2.2.2.2.2.2.1 hW (by rw [hU]; exact hV.1) (fun q hq => ?_), List.IsPrefix.trans C.2.2.2.2.2.2.2.2.1 hp⟩⟩
  rw [hU]
  exact hV.2.1 q (Nat.lt_of_lt_of_le hq C.2.2.2.2.2.2.1.1.2.2) (by omega)
theorem ok_callS {cl : kCall} {mi n d maxL ix : Nat} {y : MethodName} {bytes : ByteArray} {ret : Option FieldType} {wy wy' : List Cond} (C : kCx E XX σ zs p l e R s m args below meth c α0 cc nL nc0 ns0 res own ws) (hout : ∀ x ∈ c.exceptionTable.toList, False) (hf : d + 9 ≤ R.frames) (hlo : 40 * d + 190 ≤ R.locals) (hM : ∀ args1 hs r, cl mi args1 hs = some r → kMet E XX σ zs l y wy d args1 hs r) (hw : wy = Cond.code y bytes maxL ret :: wy') (hG : GoodIn ws (va_wsS own ix y wy)) (hml : maxL ≤ 21) (hdn : y.cls ≠ "java/lang/invoke/MethodHandle" ∧ y.cls ≠ "java/lang/invoke/VarHandle" ∧ (parseMethodDescriptor y.desc).map (fun d => d.parameters.length) = some n) (hd : decode cc pc = .ok (.invokestatic ix, 3)) : kOK E p l e R s m args below meth c α0 nL nc0 ns0 res pc (kTo (pc + 3)) (oCall cl mi n) := by
  intro fs r h
  refine ok_call C hout (G := fun _ => True) (fun fs r _ hcl => ?_) fs r trivial h
  obtain ⟨m1, m2, hme⟩ := hM _ _ _ hcl
  refine ⟨⟨m1, m2⟩, fun α H locs ls av rest cells slots hp hR hV ha hn hls hsy hc1 hc2 => ?_⟩
  exact vx_runS (As := av) (rest := rest) ⟨C.1, C.2.1, C.2.2.1, C.2.2.2.1, C.2.2.2.2.1⟩ (hme α) (va_cwS n C.2.2.2.2.1 hG hw rfl rfl hdn ⟨by show d + 8 + 1 ≤ _; omega, by show 8 + (maxL + 11) + (40 * d + 150) ≤ _; omega⟩) (k_pre_s C hp hR hV ha) rfl ((kvS_len ha).trans hn) hls rfl (lv_room hsy) hd ⟨hc1, hc2⟩
/-- a private static method of a nest mate -/
theorem ok_callSN {cl : kCall} {mi n d maxL ix : Nat} {y : MethodName} {bytes : ByteArray} {ret : Option FieldType} {wy wy' : List Cond} {host : String} (C : kCx E XX σ zs p l e R s m args below meth c α0 cc nL nc0 ns0 res own ws) (hout : ∀ x ∈ c.exceptionTable.toList, False) (hf : d + 9 ≤ R.frames) (hlo : 40 * d + 190 ≤ R.locals) (hM : ∀ args1 hs r, cl mi args1 hs = some r → kMet E XX σ zs l y wy d args1 hs r) (hw : wy = Cond.code y bytes maxL ret :: wy') (hG : GoodIn ws wy) (hst : Cond.static y ∈ ws) (hini : Cond.initialized y.cls ∈ ws) (hl : va_Nw (.methodLinkNest own ix y host) s) (hml : maxL ≤ 21) (hdn : y.cls ≠ "java/lang/invoke/MethodHandle" ∧ y.cls ≠ "java/lang/invoke/VarHandle" ∧ (parseMethodDescriptor y.desc).map (fun d => d.parameters.length) = some n) (hd : decode cc pc = .ok (.invokestatic ix, 3)) : kOK E p l e R s m args below meth c α0 nL nc0 ns0 res pc (kTo (pc + 3)) (oCall cl mi n) := by
  intro fs r h
  refine ok_call C hout (G := fun _ => True) (fun fs r _ hcl => ?_) fs r trivial h
  obtain ⟨m1, m2, hme⟩ := hM _ _ _ hcl
  refine ⟨⟨m1, m2⟩, fun α H locs ls av rest cells slots hp hR hV ha hn hls hsy hc1 hc2 => ?_⟩
  exact vx_runSN (As := av) (rest := rest) ⟨C.1, C.2.1, C.2.2.1, C.2.2.2.1, C.2.2.2.2.1⟩ (hme α) ⟨va_cnB n C.2.2.2.2.1 hG hw rfl rfl hl (C.2.2.2.2.1 _ hini) hdn ⟨by show d + 8 + 1 ≤ _; omega, by show 8 + (maxL + 11) + (40 * d + 150) ≤ _; omega⟩, C.2.2.2.2.1 _ hst, trivial⟩ (k_pre_s C hp hR hV ha) rfl ((kvS_len ha).trans hn) hls rfl (lv_room hsy) hd ⟨hc1, hc2⟩
/-- a constructor -/
theorem ok_callI {cl : kCall} {mi n d maxL ix : Nat} {y : MethodName} {bytes : ByteArray} {wy wy' : List Cond} (C : kCx E XX σ zs p l e R s m args below meth c α0 cc nL nc0 ns0 res own ws) (hout : ∀ x ∈ c.exceptionTable.toList, False) (hf : d + 9 ≤ R.frames) (hlo : 40 * d + 190 ≤ R.locals) (hM : ∀ args1 hs r, cl mi args1 hs = some r → kMet E XX σ zs l y wy d args1 hs r) (hw : wy = Cond.code y bytes maxL none :: wy') (hG : GoodIn ws wy) (hini : Cond.initialized y.cls ∈ ws) (hl : Cond.methodLink own ix y ∈ ws) (hin : Cond.instanceMethod y ∈ ws) (hy1 : y.name = "<init>") (hml : maxL ≤ 21) (hdn : y.cls ≠ "java/lang/invoke/MethodHandle" ∧ y.cls ≠ "java/lang/invoke/VarHandle" ∧ (parseMethodDescriptor y.desc).map (fun d => d.parameters.length) = some n) (hd : decode cc pc = .ok (.invokespecial ix, 3)) : kOK E p l e R s m args below meth c α0 nL nc0 ns0 res pc (kTo (pc + 3)) (oCallI cl mi n) := by
  intro fs r h
  unfold oCallI at h
  split at h
  · rename_i a S1 hS
    refine ok_call C hout (G := fun fs => ∃ a S1, fs.2.1.drop n = .ref a :: S1) (fun fs r hg hcl => ?_) fs r ⟨a, S1, hS⟩ h
    obtain ⟨a, S1, hS⟩ := hg
    obtain ⟨m1, m2, hme⟩ := hM _ _ _ hcl
    refine ⟨⟨m1, m2⟩, fun α H locs ls av rest cells slots hp hR hV ha hn hls hsy hc1 hc2 => ?_⟩
    have e0 : (fs.2.1.take (n + 1)).reverse = .ref a :: (fs.2.1.take n).reverse := by
      rw [List.take_add, hS, List.reverse_append]
      rfl
    rw [e0] at ha hn
    obtain ⟨b, av', rfl, hb, hav⟩ := kvS_ref ha
    rw [List.reverse_cons, List.append_assoc]
    exact vx_runI (b := b) (As := av') (rest := rest) ⟨C.1, C.2.1, C.2.2.1, C.2.2.2.1, C.2.2.2.2.1⟩ (hme α) (cwI n C.2.2.2.2.1 hG hw rfl rfl (C.2.2.2.2.1 _ hini) (C.2.2.2.2.1 _ hl) (C.2.2.2.2.1 _ hin) hy1 hdn ⟨by show d + 8 + 1 ≤ _; omega, by show 8 + (maxL + 11) + (40 * d + 150) ≤ _; omega⟩) (by rw [e0]; exact k_pre_s C hp hR hV ha) rfl (by have h1 := kvS_len hav; have h2 : (List.take n fs.2.1).reverse.length + 1 = n + 1 := hn; omega) hls rfl (lv_room hsy) hd ⟨hc1, hc2⟩
  · cases h
/-- a method of an object whose class is the method's -/
theorem ok_callV {cl : kCall} {mi n d maxL ix ci nS : Nat} {y : MethodName} {bytes : ByteArray} {ret : Option FieldType} {wy wy' : List Cond} {r0 : vw_C} (C : kCx E XX σ zs p l e R s m args below meth c α0 cc nL nc0 ns0 res own ws) (hnS : kn E = nS) (hout : ∀ x ∈ c.exceptionTable.toList, False) (hf : d + 9 ≤ R.frames) (hlo : 40 * d + 190 ≤ R.locals) (hM : ∀ args1 hs r, cl mi args1 hs = some r → kMet E XX σ zs l y wy d args1 hs r) (hw : wy = Cond.code y bytes maxL ret :: wy') (hc : (kcl E)[ci]? = some r0) (hG : GoodIn ws (wsV own ix r0.1 y wy)) (hml : maxL ≤ 21) (hdn : y.cls = r0.1 ∧ y.cls ≠ "java/lang/invoke/MethodHandle" ∧ y.cls ≠ "java/lang/invoke/VarHandle" ∧ (parseMethodDescriptor y.desc).map (fun d => d.parameters.length) = some n) (hd : decode cc pc = .ok (.invokevirtual ix, 3)) : kOK E p l e R s m args below meth c α0 nL nc0 ns0 res pc (kTo (pc + 3)) (oCallV cl mi n ci nS) := by
  intro fs r h
  unfold oCallV at h
  split at h
  · rename_i a S1 hS
    split at h
    · rename_i q hq
      cases hb : Nat.beq q.1 ci with
      | false => rw [hb] at h; cases h
      | true =>
      rw [hb] at h
      refine ok_call C hout (G := fun fs => ∃ a S1 q, fs.2.1.drop n = .ref a :: S1 ∧ kcell nS fs.2.2.1 a = some q ∧ q.1 = ci) (fun fs r hg hcl => ?_) fs r ⟨a, S1, q, hS, hq, Nat.eq_of_beq_eq_true hb⟩ h
      obtain ⟨a, S1, q, hS, hq, hqc⟩ := hg
      obtain ⟨m1, m2, hme⟩ := hM _ _ _ hcl
      refine ⟨⟨m1, m2⟩, fun α H locs ls av rest cells slots hp hR hV ha hn hls hsy hc1 hc2 => ?_⟩
      have e0 : (fs.2.1.take (n + 1)).reverse = .ref a :: (fs.2.1.take n).reverse := by
        rw [List.take_add, hS, List.reverse_append]
        rfl
      have hpre := k_pre_s C hp hR hV ha
      rw [e0] at ha hn
      obtain ⟨b, av', rfl, hb, hav⟩ := kvS_ref ha
      rw [List.reverse_cons, List.append_assoc]
      obtain ⟨g1, g2⟩ := kcell_spec hq
      subst hnS
      obtain ⟨hb0, cell, q1, q3, q4⟩ := hR.at g1 g2 hb
      rw [hqc] at q4
      rcases q4 with ⟨rr, e1, e2, e3, e4⟩ | ⟨e1, -⟩
      · have hKn := C.2.2.2.2.2.2.1.2.1 ci _ hc
        exact vx_runV (b := b) (As := av') (rest := rest) ⟨C.1, C.2.1, C.2.2.1, C.2.2.2.1, C.2.2.2.2.1⟩ (hme α) (cwV n C.2.2.2.2.1 hG hw rfl rfl hdn ⟨by show d + 8 + 1 ≤ _; omega, by show 8 + (maxL + 11) + (40 * d + 150) ≤ _; omega⟩) ⟨hpre.1, ⟨cell, q1, by rw [q3]; rfl, by rw [e2]; exact hKn.2.1⟩, hpre.2⟩ rfl (by have h1 := kvS_len hav; have h2 : (List.take n fs.2.1).reverse.length + 1 = n + 1 := hn; omega) hls rfl (lv_room hsy) hd ⟨hc1, hc2⟩
      · exact absurd (k_classlt C hc) (by omega)
    · cases h
  · cases h
end KCALL
end
section
/-! ===== blocks, runs, methods ===== -/
def kseq : List kOp → Nat → kFS → Option ((Nat × kFS) ⊕ kRes)
  | [], b, fs => some (.inl (b, fs))
  | o :: os, _, fs => match o fs with
    | some (.inl q) => kseq os q.1 q.2
    | some (.inr r) => some (.inr r)
    | none => none
def krun (bl : List (List kOp)) : Nat → Nat → kFS → Option kRes
  | 0 => fun _ _ => none
  | n + 1 => fun b fs => match bl[b]? with
    | none => none
    | some ops => match kseq ops 0 fs with
      | some (.inl q) => krun bl n q.1 q.2
      | some (.inr r) => some r
      | none => none
/-- the methods: M gives a method's blocks, ML its places for locals; depth first, F blocks a run at most -/
def kcall (M : kCall → Nat → List (List kOp)) (ML : Nat → Nat) (F : Nat) : Nat → kCall
  | 0 => fun _ _ _ => none
  | d + 1 => fun mi args hs => bif Nat.ble (ksz args) (ML mi) then (match krun (M (kcall M ML F d) mi) F 0 (lv_args 0 args, [], hs) with
    | some r => bif Nat.ble hs.2.1 r.2.2.1 && Nat.ble hs.2.2 r.2.2.2 then some r else none
    | none => none) else none
theorem ksz_sl : ∀ vs : List Value, (lg_sl vs).length = ksz vs
  | [] => rfl
  | v :: vs => by
    have h := ksz_sl vs
    unfold lg_sl at h ⊢
    rw [List.flatMap_cons, List.length_append, h]
    rw [show ksz (v :: vs) = v.category + ksz vs from rfl]
    rcases lv_cat v with h1 | h1 <;> simp [h1]
theorem ksz_cv {α : List Nat} : ∀ {vs ws : List Value}, kvS α vs = some ws → ksz ws = ksz vs
  | [], ws, h => by cases h; rfl
  | v :: vs, ws, h => by
    obtain ⟨w, ws', rfl, h1, h2⟩ := kvS_cons h
    rw [show ksz (v :: vs) = v.category + ksz vs from rfl, show ksz (w :: ws') = w.category + ksz ws' from rfl, kv_cat h1, ksz_cv h2]
theorem kvL_args {α : List Nat} : ∀ {vs ws : List Value} (i : Nat), kvS α vs = some ws → kvL α (lv_args i vs) = some (lv_args i ws)
  | [], ws, i, h => by cases h; rfl
  | v :: vs, ws, i, h => by
    obtain ⟨w, ws', rfl, h1, h2⟩ := kvS_cons h
    unfold lv_args
    rw [kv_cat h1]
    exact kvL_mk h1 (kvL_args _ h2)
section KRUN
variable {p : Program} {l : Launch} {e : Env} {R : Room} {s : State} {m : MethodId} {args : Array Value} {below : List Frame} {meth : Method} {c : Code}
variable {E : kE} {XX : State → Prop} {σ α0 : List Nat} {cc : ByteArray} {nL nc0 ns0 : Nat} {res : kRes} {pc pc' : Nat} {own : String} {ws : List Cond} {zs : List (String × String × Nat)}
def kChain (E : kE) (p : Program) (l : Launch) (e : Env) (R : Room) (s : State) (m : MethodId) (args : Array Value) (below : List Frame) (meth : Method) (c : Code) (α0 : List Nat) (nL nc0 ns0 : Nat) (res : kRes) (pcs : Nat → Nat) : Nat → List kOp → Prop
  | _, [] => False
  | pc, o :: os => (os = [] ∧ kOK E p l e R s m args below meth c α0 nL nc0 ns0 res pc pcs o) ∨ (os ≠ [] ∧ ∃ pc', kOK E p l e R s m args below meth c α0 nL nc0 ns0 res pc (kTo pc') o ∧ kChain E p l e R s m args below meth c α0 nL nc0 ns0 res pcs pc' os)
theorem ch_last {pcs : Nat → Nat} {o : kOp} (h : kOK E p l e R s m args below meth c α0 nL nc0 ns0 res pc pcs o) : kChain E p l e R s m args below meth c α0 nL nc0 ns0 res pcs pc [o] := Or.inl ⟨rfl, h⟩
theorem ch_cons {pcs : Nat → Nat} {o o2 : kOp} {os : List kOp} (h : kOK E p l e R s m args below meth c α0 nL nc0 ns0 res pc (kTo pc') o) (t : kChain E p l e R s m args below meth c α0 nL nc0 ns0 res pcs pc' (o2 :: os)) : kChain E p l e R s m args below meth c α0 nL nc0 ns0 res pcs pc (o :: o2 :: os) := Or.inr ⟨by simp, pc', h, t⟩
theorem chain_ok {pcs : Nat → Nat} : ∀ (os : List kOp) (pc b0 : Nat), kChain E p l e R s m args below meth c α0 nL nc0 ns0 res pcs pc os → kOK E p l e R s m args below meth c α0 nL nc0 ns0 res pc pcs (kseq os b0)
  | [], pc, b0, h => h.elim
  | o :: os, pc, b0, h => by
    intro fs r hr
    unfold kseq at hr
    rcases h with ⟨rfl, h⟩ | ⟨hne, pc', h, ht⟩
    · split at hr
      · rename_i q hq
        unfold kseq at hr
        cases hr
        exact h fs _ hq
      · rename_i q hq
        cases hr
        exact h fs _ hq
      · cases hr
    · split at hr
      · rename_i q hq
        obtain ⟨a1, a2, a3⟩ := h fs _ hq
        have h2 := chain_ok os pc' q.1 ht q.2 r hr
        cases r with
        | inl q2 =>
          obtain ⟨b1, b2, b3⟩ := h2
          exact ⟨Nat.le_trans a1 b1, Nat.le_trans a2 b2, fun c1 c2 k => a3 (Nat.le_trans b1 c1) (Nat.le_trans b2 c2) (b3 c1 c2 k)⟩
        | inr q2 =>
          obtain ⟨b1, b2, b3⟩ := h2
          refine ⟨Nat.le_trans a1 b1, Nat.le_trans a2 b2, fun hq2 => ?_⟩
          subst hq2
          exact a3 b1 b2 (b3 rfl)
      · rename_i q hq
        cases hr
        exact h fs _ hq
      · cases hr
theorem run_ok {pcs : Nat → Nat} {bl : List (List kOp)} (hch : ∀ (b : Nat) (ops : List kOp), bl[b]? = some ops → kChain E p l e R s m args below meth c α0 nL nc0 ns0 res pcs (pcs b) ops) : ∀ (n b : Nat) (fs : kFS), krun bl n b fs = some res → (fs.2.2.2.1 ≤ res.2.2.1 ∧ fs.2.2.2.2 ≤ res.2.2.2) ∧ kW E p l e R s m args below meth c α0 nL nc0 ns0 (kQ E below args s α0 nc0 ns0 res) (pcs b) fs
  | 0, b, fs, h => by cases h
  | n + 1, b, fs, h => by
    unfold krun at h
    split at h
    · cases h
    · rename_i ops hops
      have h1 := chain_ok ops (pcs b) 0 (hch b ops hops)
      split at h
      · rename_i q hq
        obtain ⟨a1, a2, a3⟩ := h1 fs _ hq
        obtain ⟨⟨b1, b2⟩, b3⟩ := run_ok hch n q.1 q.2 h
        exact ⟨⟨Nat.le_trans a1 b1, Nat.le_trans a2 b2⟩, a3 b1 b2 b3⟩
      · rename_i q hq
        cases h
        obtain ⟨a1, a2, a3⟩ := h1 fs _ hq
        exact ⟨⟨a1, a2⟩, a3 rfl⟩
      · cases h
end KRUN
/-- the blocks of a method are right, where the methods that it calls are right one level below -/
def kMOK (E : kE) (XX : State → Prop) (σ : List Nat) (zs : List (String × String × Nat)) (l : Launch) (Y : Nat → MethodName) (WS : Nat → List Cond) (y : MethodName) (ws : List Cond) (cc : ByteArray) (maxL : Nat) (ret : Option FieldType) (bl : kCall → List (List kOp)) : Prop :=
  ∀ (d : Nat) (cl : kCall), kSnd E XX σ zs l Y WS d cl → ∀ (p : Program) (e : Env) (R : Room) (s : State) (m : MethodId) (args : Array Value) (below : List Frame) (meth : Method) (c : Code) (α0 : List Nat) (nc0 ns0 : Nat) (res : kRes), kCx E XX σ zs p l e R s m args below meth c α0 cc maxL nc0 ns0 res y.cls ws → d + 9 ≤ R.frames → 40 * d + 190 ≤ R.locals → meth.sig.returnType = ret → meth.name = y.name → (∀ x ∈ c.exceptionTable.toList, False) →
    ∃ pcs : Nat → Nat, pcs 0 = 0 ∧ ∀ (b : Nat) (ops : List kOp), (bl cl)[b]? = some ops → kChain E p l e R s m args below meth c α0 maxL nc0 ns0 res pcs (pcs b) ops
theorem met_of {E : kE} {XX : State → Prop} {σ : List Nat} {zs : List (String × String × Nat)} {l : Launch} {Y : Nat → MethodName} {WS : Nat → List Cond} {y : MethodName} {ws ws' : List Cond} {cc : ByteArray} {maxL d F : Nat} {ret : Option FieldType} {bl : kCall → List (List kOp)} {cl : kCall} {args1 : List Value} {hs : kHS} {res : kRes} (hst : kStab (kb E) XX) (hfl : l.stackTraces = false) (hy : plainName y.cls = true) (hw : ws = Cond.code y cc maxL ret :: ws') (hm : kMOK E XX σ zs l Y WS y ws cc maxL ret bl) (hS : kSnd E XX σ zs l Y WS d cl) (hz : ksz args1 ≤ maxL) (hr : krun (bl cl) F 0 (lv_args 0 args1, [], hs) = some res) (h1 : hs.2.1 ≤ res.2.2.1) (h2 : hs.2.2 ≤ res.2.2.2) : kMet E XX σ zs l y ws (d + 1) args1 hs res := by
  refine ⟨h1, h2, fun α0 => ?_⟩
  refine vx_ofW (cc := cc) (maxL := maxL) (ret := ret) hy hw ?_
  intro p e s m args below meth c s₁ B hml ht hP
  obtain ⟨⟨av, hav, rfl⟩, hR, hKK, hσ⟩ := hP
  have C : kCx E XX σ zs p l e (headSpec ws ({ frames := d + 1 + 8, cells := res.2.2.1 - hs.2.1, slots := res.2.2.2 - hs.2.2, locals := 40 * (d + 1) + 150 })).room s m av.toArray below meth c α0 cc maxL hs.2.1 hs.2.2 res y.cls ws := ⟨B.exec, B.bytes, hml, findClass_of_methodNamed B.named, atoms_spec (ws := ws) B.pre, B.notSynchronized, hKK, hst, hσ, hfl, rfl, rfl, (by show 8 ≤ d + 1 + 8; omega), (by show 150 ≤ 40 * (d + 1) + 150; omega)⟩
  obtain ⟨pcs, hp0, hch⟩ := hm d cl hS p e _ s m av.toArray below meth c α0 hs.2.1 hs.2.2 res C (by show d + 9 ≤ d + 1 + 8; omega) (by show 40 * d + 190 ≤ 40 * (d + 1) + 150; omega) B.returns (name_of_methodNamed B.named B.method).1 ht
  obtain ⟨-, k⟩ := run_ok hch F 0 _ hr
  have hl := lv_entry av (n := maxL) (by rw [ksz_sl, ksz_cv hav]; exact hz)
  rw [lg_entry_eq]
  have k2 := k α0 s.heap [] _ _ [] (List.prefix_refl _) hR va_S.rf (kvL_args 0 hav) hl rfl (Nat.le_refl _) (Nat.le_refl _)
  dsimp only at k2
  rw [Nat.sub_self, Nat.sub_self, hp0] at k2
  exact k2
/-- all methods at once -/
theorem kcall_ok {E : kE} {XX : State → Prop} {σ : List Nat} {zs : List (String × String × Nat)} {l : Launch} {Y : Nat → MethodName} {WS : Nat → List Cond} {CC : Nat → ByteArray} {ML : Nat → Nat} {RT : Nat → Option FieldType} {M : kCall → Nat → List (List kOp)} {F : Nat} {G : List Cond} (hst : kStab (kb E) XX) (hfl : l.stackTraces = false) (hy : ∀ mi, plainName (Y mi).cls = true) (hw : ∀ mi, WS mi = Cond.code (Y mi) (CC mi) (ML mi) (RT mi) :: G) (hm : ∀ mi, kMOK E XX σ zs l Y WS (Y mi) (WS mi) (CC mi) (ML mi) (RT mi) (fun cl => M cl mi)) : ∀ d, kSnd E XX σ zs l Y WS d (kcall M ML F d)
  | 0 => fun mi args hs r h => by cases h
  | d + 1 => fun mi args hs r h => by
    have ih := kcall_ok (F := F) hst hfl hy hw hm d
    unfold kcall at h
    cases hb : Nat.ble (ksz args) (ML mi) with
    | false => rw [hb] at h; cases h
    | true =>
    rw [hb] at h
    simp only [cond_true] at h
    split at h
    · rename_i r1 hr1
      cases hb2 : (Nat.ble hs.2.1 r1.2.2.1 && Nat.ble hs.2.2 r1.2.2.2) with
      | false => rw [hb2] at h; cases h
      | true =>
      rw [hb2] at h
      cases h
      simp only [Bool.and_eq_true] at hb2
      exact met_of hst hfl (hy mi) (hw mi) (hm mi) ih (Nat.le_of_ble_eq_true hb) hr1 (Nat.le_of_ble_eq_true hb2.1) (Nat.le_of_ble_eq_true hb2.2)
    · cases h
end
section
/-! ===== further operations ===== -/
section KMORE
variable {p : Program} {l : Launch} {e : Env} {R : Room} {s : State} {m : MethodId} {args : Array Value} {below : List Frame} {meth : Method} {c : Code}
variable {E : kE} {XX : State → Prop} {σ α0 : List Nat} {cc : ByteArray} {nL nc0 ns0 : Nat} {res : kRes} {pc pc' : Nat} {own : String} {ws : List Cond} {zs : List (String × String × Nat)}
theorem ok_iushr (C : kCx E XX σ zs p l e R s m args below meth c α0 cc nL nc0 ns0 res own ws) (hd : decode cc pc = .ok (.iushr, 1)) : kOK E p l e R s m args below meth c α0 nL nc0 ns0 res pc (kTo (pc + 1)) (oBin fun x y => (x.toUInt32 >>> (y.toUInt32 &&& Int32.toUInt32 31)).toInt32) := ok_bin fun x y rest H locs ce sl ls Q k => lv_iushr C.1 C.2.1 hd rfl k
theorem ok_getsN {k ix : Nat} {Cn nm host : String} (C : kCx E XX σ zs p l e R s m args below meth c α0 cc nL nc0 ns0 res own ws) (hz : (Cn, nm, k) ∈ zs) (hlink : va_Nw (.fieldLinkNest own ix Cn nm "[I" host) s) (hd : decode cc pc = .ok (.getstatic ix, 3)) : kOK E p l e R s m args below meth c α0 nL nc0 ns0 res pc (kTo (pc + 3)) (oGetS k) := by
  intro fs r h
  cases h
  refine ⟨Nat.le_refl _, Nat.le_refl _, fun _ _ k2 => ?_⟩
  intro α H locs ls lv st hp hR hV hL hl hs h1 h2
  obtain ⟨a, ha, hZ⟩ := C.2.2.2.2.2.2.1.2.2.2.1 _ hz
  have ha2 : α[k]? = some a := k_pre ha (List.IsPrefix.trans C.2.2.2.2.2.2.2.2.1 hp)
  exact va_getsN C.1 C.2.1 hZ hV C.2.2.2.1 (va_Nw.use rfl hlink) (fun _ h => h) hd (k2 α H locs ls lv _ hp hR hV hL hl (kvS_mk (kv_ref ha2) hs) h1 h2)
theorem ok_ldcw {v : Int32} {ix : Nat} (C : kCx E XX σ zs p l e R s m args below meth c α0 cc nL nc0 ns0 res own ws) (hd : decode cc pc = .ok (.ldc_w ix, 3)) (hw : Jvm.Cond.constant own ix v ∈ ws) : kOK E p l e R s m args below meth c α0 nL nc0 ns0 res pc (kTo (pc + 3)) (oS (gPush (.int v))) := ok_push (fun _ => rfl) fun rest H locs ce sl ls Q k => lv_ldcw C.1 C.2.1 C.2.2.2.1 (C.2.2.2.2.1 _ hw) hd k
def kfind : List (Int × Nat) → Nat → Int → Nat
  | [], bd, _ => bd
  | q :: r, bd, x => bif decide (x = q.1) then q.2 else kfind r bd x
/-- a switch by a list of keys -/
def tLook (ks : List (Int × Nat)) (bd : Nat) : kOp := fun fs => match fs.2.1 with
  | .int x :: S => some (.inl (kfind ks bd x.toInt, (fs.1, S, fs.2.2)))
  | _ => none
theorem k_look {pcs : Nat → Nat} {pc bd td : Nat} {dflt : Int} (hdf : (pc : Int) + dflt = (td : Int)) (hbd : pcs bd = td) (x : Int) : ∀ (ps : List (Int × Int)) (ks : List (Int × Nat)), ps.map (fun q => (q.1, (pc : Int) + q.2)) = ks.map (fun q => (q.1, ((pcs q.2 : Nat) : Int))) → (pc : Int) + Op.lookupswitch.offset ps dflt x = ((pcs (kfind ks bd x) : Nat) : Int)
  | [], [], _ => by
    show (pc : Int) + dflt = _
    rw [hdf]
    show (td : Int) = ((pcs bd : Nat) : Int)
    rw [hbd]
  | [], _ :: _, h => by simp at h
  | _ :: _, [], h => by simp at h
  | p :: ps, q :: ks, h => by
    simp only [List.map_cons, List.cons.injEq, Prod.mk.injEq] at h
    obtain ⟨⟨h1, h2⟩, h3⟩ := h
    obtain ⟨a, o⟩ := p
    obtain ⟨b, t⟩ := q
    simp only at h1 h2
    subst h1
    rw [Op.lookupswitch.offset_cons]
    unfold kfind
    by_cases e : x = a
    · subst e
      simp [h2]
    · rw [if_neg (fun z => e z.symm)]
      simp only [e, decide_false, cond_false]
      exact k_look hdf hbd x ps ks h3
theorem ok_look {dflt : Int} {ps : Array (Int × Int)} {len : Nat} {ks : List (Int × Nat)} {bd td : Nat} {pcs : Nat → Nat} (C : kCx E XX σ zs p l e R s m args below meth c α0 cc nL nc0 ns0 res own ws) (hd : decode cc pc = .ok (.lookupswitch dflt ps, len)) (hs1 : (ps.toList.zip (ps.toList.drop 1)).all (fun (a, next) => a.1 < next.1) = true) (ho : ps.toList.map (fun q => (q.1, (pc : Int) + q.2)) = ks.map (fun q => (q.1, ((pcs q.2 : Nat) : Int)))) (hdf : (pc : Int) + dflt = (td : Int)) (hbd : pcs bd = td) : kOK E p l e R s m args below meth c α0 nL nc0 ns0 res pc pcs (tLook ks bd) := by
  intro fs r h
  obtain ⟨L, S, hsx⟩ := fs
  unfold tLook at h
  split at h
  · rename_i x r hS
    cases h
    simp only at hS
    subst hS
    refine ⟨Nat.le_refl _, Nat.le_refl _, fun _ _ k2 => ?_⟩
    intro α H locs ls lv st hp hR hV hL hl hs h1 h2
    obtain ⟨st, rfl, hg⟩ := kvS_int hs
    exact lv_lookup C.1 C.2.1 hd hs1 rfl (k_look hdf hbd x.toInt ps.toList ks ho) (k2 α H locs ls lv st hp hR hV hL hl hg h1 h2)
  · cases h
end KMORE
def kAllB (P : Nat → List kOp → Prop) : Nat → List (List kOp) → Prop
  | _, [] => True
  | i, o :: os => P i o ∧ kAllB P (i + 1) os
theorem kAllB_at {P : Nat → List kOp → Prop} : ∀ (bl : List (List kOp)) (i : Nat), kAllB P i bl → ∀ (b : Nat) (ops : List kOp), bl[b]? = some ops → P (i + b) ops
  | [], i, _, b, ops, h => by simp at h
  | o :: os, i, hP, 0, ops, h => by
    cases h
    exact hP.1
  | o :: os, i, hP, b + 1, ops, h => by
    rw [List.getElem?_cons_succ] at h
    have := kAllB_at os (i + 1) hP.2 b ops h
    rwa [show i + 1 + b = i + (b + 1) by omega] at this
theorem kAllB_get {P : Nat → List kOp → Prop} {bl : List (List kOp)} (h : kAllB P 0 bl) : ∀ (b : Nat) (ops : List kOp), bl[b]? = some ops → P b ops := fun b ops hb => by
  have := kAllB_at bl 0 h b ops hb
  rwa [Nat.zero_add] at this
/-- the good words of the tables -/
def kG : List Cond := lw_tbl.filter goodWord
theorem kG_of {w : Cond} (h1 : w ∈ lw_tbl) (h2 : goodWord w = true) : w ∈ kG := List.mem_filter.mpr ⟨h1, h2⟩
abbrev kws (y : MethodName) (b : ByteArray) (n : Nat) (r : Option FieldType) : List Cond := Cond.code y b n r :: kG
theorem kG_in {w c0 : Cond} (h : w ∈ kG) : w ∈ c0 :: kG := List.mem_cons_of_mem _ h
theorem kG_good {c0 : Cond} {ws' : List Cond} (h : ∀ w ∈ ws', w ∈ kG) : GoodIn (c0 :: kG) ws' := fun w hw => ⟨List.mem_cons_of_mem _ (h w hw), good_of_word (List.mem_filter.mp (h w hw)).2⟩
theorem kG_ws {c0 : Cond} {y : MethodName} {b : ByteArray} {n : Nat} {r : Option FieldType} (h : Cond.code y b n r ∈ kG) : GoodIn (c0 :: kG) (kws y b n r) := kG_good fun w hw => by
  rcases List.mem_cons.mp hw with rfl | hw
  · exact h
  · exact hw
theorem kG_s {c0 : Cond} {own : String} {ix : Nat} {y : MethodName} {b : ByteArray} {n : Nat} {r : Option FieldType} (h : Cond.code y b n r ∈ kG) (h1 : Cond.methodLink own ix y ∈ kG) (h2 : Cond.static y ∈ kG) (h3 : Cond.initialized y.cls ∈ kG) : GoodIn (c0 :: kG) (va_wsS own ix y (kws y b n r)) := kG_good fun w hw => by
  unfold va_wsS at hw
  rcases List.mem_append.mp hw with hw | hw
  · simp only [List.mem_cons, List.not_mem_nil, or_false] at hw
    rcases hw with rfl | rfl | rfl
    · exact h1
    · exact h2
    · exact h3
  · rcases List.mem_cons.mp hw with rfl | hw
    · exact h
    · exact hw
theorem kG_v {c0 : Cond} {own Cn : String} {ix : Nat} {y : MethodName} {b : ByteArray} {n : Nat} {r : Option FieldType} (h : Cond.code y b n r ∈ kG) (h1 : Cond.methodLink own ix y ∈ kG) (h2 : Cond.instanceMethod y ∈ kG) (h3 : Cond.selects Cn y y ∈ kG) (h4 : Cond.initialized Cn ∈ kG) : GoodIn (c0 :: kG) (wsV own ix Cn y (kws y b n r)) := kG_good fun w hw => by
  unfold wsV at hw
  rcases List.mem_append.mp hw with hw | hw
  · simp only [List.mem_cons, List.not_mem_nil, or_false] at hw
    rcases hw with rfl | rfl | rfl | rfl
    · exact h1
    · exact h2
    · exact h3
    · exact h4
  · rcases List.mem_cons.mp hw with rfl | hw
    · exact h
    · exact hw
section KMORE2
variable {p : Program} {l : Launch} {e : Env} {R : Room} {s : State} {m : MethodId} {args : Array Value} {below : List Frame} {meth : Method} {c : Code}
variable {E : kE} {XX : State → Prop} {σ α0 : List Nat} {cc : ByteArray} {nL nc0 ns0 : Nat} {res : kRes} {pc pc' : Nat} {own : String} {ws : List Cond} {zs : List (String × String × Nat)}
def oMax (gt : Bool) : kOp := fun fs => match fs.2.1 with
  | .int y :: .int x :: S => bif Nat.ble S.length 4 then some (.inl (0, (fs.1, .int (bif decide (x < y) == gt then y else x) :: S, fs.2.2))) else none
  | _ => none
theorem ok_max {ix : Nat} (C : kCx E XX σ zs p l e R s m args below meth c α0 cc nL nc0 ns0 res own ws) (h1 : Cond.methodLink own ix Lib.Math.max.name ∈ ws) (h2 : Cond.static Lib.Math.max.name ∈ ws) (h3 : Cond.initialized "java/lang/Math" ∈ ws) (h4 : Cond.code Lib.Math.max.name Lib.Math.max.code 2 (some .int) ∈ ws) (hd : decode cc pc = .ok (.invokestatic ix, 3)) : kOK E p l e R s m args below meth c α0 nL nc0 ns0 res pc (kTo (pc + 3)) (oMax true) := by
  intro fs r h
  obtain ⟨L, S0, hh, nc, ns⟩ := fs
  unfold oMax at h
  split at h
  · rename_i y x S hS
    simp only at hS
    subst hS
    cases hb : Nat.ble S.length 4 with
    | false => rw [hb] at h; cases h
    | true =>
    rw [hb] at h
    cases h
    refine ⟨Nat.le_refl _, Nat.le_refl _, fun b1 b2 k2 => ?_⟩
    intro α H locs ls lv st hp hR hV hL hl hs g1 g2
    dsimp only at b1 b2 g1 g2
    obtain ⟨st1, rfl, hs1⟩ := kvS_int hs
    obtain ⟨st, rfl, hs2⟩ := kvS_int hs1
    have hts := C.2.2.2.2.1
    have hRc := C.2.2.2.2.2.2.2.2.2.2.1
    have hRs := C.2.2.2.2.2.2.2.2.2.2.2.1
    have hf := C.2.2.2.2.2.2.2.2.2.2.2.2.1
    have hlo := C.2.2.2.2.2.2.2.2.2.2.2.2.2
    have h6 := Nat.le_of_ble_eq_true hb
    have h5 := kvS_cats hs2
    refine va_mmax C.1 C.2.1 (by rw [C.2.2.1]; exact hl.1.symm) C.2.2.2.1 (hts _ h1) (hts _ h2) (hts _ h3) (hts _ h4) (by omega) (by omega) (by rw [hRc]; dsimp only; omega) (by rw [hRs]; dsimp only; omega) hd ?_
    have e : (bif decide (x < y) == true then y else x) = (if x < y then y else x) := by
      by_cases hxy : x < y
      · simp [hxy]
      · simp [hxy]
    rw [e] at k2
    exact k2 α H locs ls lv _ hp hR hV hL hl (kvS_mk rfl hs2) g1 g2
  · cases h
theorem ok_throwW {k ik is ic sa : Nat} {text : String} {names : List String} {pcs : Nat → Nat} (C : kCx E XX σ zs p l e R s m args below meth c α0 cc nL nc0 ns0 res own ws) (hcls : Bundle.fit (kEx k) = true) (hnames : ∀ n ∈ names, Bundle.fit n = true) (hnl : names.length ≤ 3) (hk : Cond.classLink own ik (kEx k) ∈ ws) (hini : Cond.initialized (kEx k) ∈ ws) (hstr : vk_R own is text sa s) (hat : ∀ w ∈ vx_atS own ic (kEx k) names, w.before args s = true) (hgood : ∀ w ∈ Cond.classLink own ik (kEx k) :: Cond.initialized (kEx k) :: vx_atS own ic (kEx k) names, vx_ot w = true)
    (hU : vx_Zq Bundle.tN "UNASSIGNED_STACK" Bundle.steD (fun q => kb E ≤ q) s s.heap) (hN : vx_Zq Bundle.tN "SUPPRESSED_SENTINEL" Bundle.listD (fun q => kb E ≤ q) s s.heap)
    (d0 : decode cc pc = .ok (.new ik, 3)) (d3 : decode cc (pc + 3) = .ok (.dup, 1)) (d4 : decode cc (pc + 4) = .ok (.ldc_w is, 3)) (d7 : decode cc (pc + 7) = .ok (.invokespecial ic, 3)) (d10 : decode cc (pc + 10) = .ok (.athrow, 1)) (hout : ∀ x ∈ c.exceptionTable.toList, False) : kOK E p l e R s m args below meth c α0 nL nc0 ns0 res pc pcs (tThrow k) := by
  intro fs r h
  obtain ⟨L, S0, hh, nc, ns⟩ := fs
  unfold tThrow at h
  cases hb : Nat.ble S0.length 4 with
  | false => rw [hb] at h; cases h
  | true =>
  rw [hb] at h
  cases h
  refine ⟨Nat.le_succ _, Nat.le_add_right _ _, fun hq => ?_⟩
  subst hq
  intro α H locs ls lv st hp hR hV hL hl hs g1 g2
  dsimp only at g1 g2
  have hts := C.2.2.2.2.1
  have hRc := C.2.2.2.2.2.2.2.2.2.2.1
  have hRs := C.2.2.2.2.2.2.2.2.2.2.2.1
  have hf := C.2.2.2.2.2.2.2.2.2.2.2.2.1
  have hlo := C.2.2.2.2.2.2.2.2.2.2.2.2.2
  dsimp only at hRc hRs
  have h4 := Nat.le_of_ble_eq_true hb
  have h5 := kvS_cats hs
  dsimp only at h5
  have hc1 : nc - nc0 + 1 ≤ R.cells := by rw [hRc]; omega
  have hc2 : ns - ns0 + 6 ≤ R.slots := by rw [hRs]; omega
  exact vx_throwSW C.1 C.2.1 C.2.2.2.2.2.2.2.2.2.1 C.2.2.2.1 hcls hnames (hts _ hk) (hts _ hini) hstr hat hgood hU hN hV (by rw [C.2.2.1]; exact hl.1) d0 d3 d4 d7 d10 (fun x hx => (hout x hx).elim) (by omega) (by omega) hc1 hc2 C.2.2.2.2.2.1
    (fun t hvm hz hq => ⟨⟨α, k, hp, rfl, rfl, (show kRep E t α hh t.heap from ⟨hR.1, hR.2.1, fun j d hj => by
      obtain ⟨x, y1, y2, y3⟩ := hR.2.2 j d hj
      exact ⟨x, y1, y2, (y3.kept (List.prefix_refl _) (hq x y3.lt)).moved hvm⟩⟩)⟩, ⟨Nat.le_trans hV.1 hz, fun q q1 q2 => (hq q (Nat.lt_of_lt_of_le q1 hV.1)).trans (hV.2.1 q q1 q2)⟩⟩)
    hV.2.2 (by dsimp only; omega) (by dsimp only; omega)
end KMORE2
end
section
/-! ===== BEGIN printed: names, fields, word lists, decode rows ===== -/
def RX0 : String := "Bijectory$Chart"
def TX0 : u_T := fun k => match k with
  | 0 => ("Bijectory$Chart", "from", "I", true)
  | 1 => ("Bijectory$Chart", "to", "I", false)
  | 2 => ("Bijectory$Chart", "steps", "[I", true)
  | 3 => ("Bijectory$Chart", "length", "I", false)
  | 4 => ("Bijectory$Chart", "claimed", "Z", false)
  | 5 => ("Bijectory$Chart", "surveyed", "I", false)
  | 6 => ("Bijectory$Chart", "distinct", "I", false)
  | 7 => ("Bijectory$Chart", "unmoved", "I", false)
  | 8 => ("Bijectory$Chart", "rounds", "I", false)
  | _ => ("Bijectory$Chart", "period", "J", false)
def tyX0 : Nat → FieldType := fun k => match k with
  | 0 => .int
  | 1 => .int
  | 2 => .array .int
  | 3 => .int
  | 4 => .boolean
  | 5 => .int
  | 6 => .int
  | 7 => .int
  | 8 => .int
  | _ => .long
abbrev wsX00 : List Cond := u_ws RX0 TX0 10
theorem nmX0 : ∀ a, a < 10 → ∀ b, b < 10 → a ≠ b → (TX0 a).2.1 ≠ (TX0 b).2.1 := by decide +kernel
theorem tyX0_ok : ∀ k, k < 10 → parseFieldDescriptor (TX0 k).2.2.1 = some (tyX0 k) := by decide +kernel
abbrev cX0_init : ByteArray := prog_2_method_1_code
def yX0_init : MethodName := ⟨RX0, "<init>", "(I)V"⟩
abbrev cX0_append : ByteArray := prog_2_method_2_code
def yX0_append : MethodName := ⟨RX0, "append", "(I)V"⟩
abbrev cX0_stepAt : ByteArray := prog_2_method_3_code
def yX0_stepAt : MethodName := ⟨RX0, "stepAt", "(I)I"⟩
abbrev cX0_isMove : ByteArray := prog_2_method_4_code
def yX0_isMove : MethodName := ⟨RX0, "isMove", "()Z"⟩
def RX1 : String := "Bijectory$Claim"
def TX1 : u_T := fun k => match k with
  | 0 => ("Bijectory$Claim", "map", "I", true)
  | 1 => ("Bijectory$Claim", "which", "I", true)
  | 2 => ("Bijectory$Claim", "other", "I", true)
  | 3 => ("Bijectory$Claim", "tried", "I", false)
  | _ => ("Bijectory$Claim", "refuted", "I", false)
def tyX1 : Nat → FieldType := fun k => match k with
  | 0 => .int
  | 1 => .int
  | 2 => .int
  | 3 => .int
  | _ => .int
abbrev wsX10 : List Cond := u_ws RX1 TX1 5
theorem nmX1 : ∀ a, a < 5 → ∀ b, b < 5 → a ≠ b → (TX1 a).2.1 ≠ (TX1 b).2.1 := by decide +kernel
theorem tyX1_ok : ∀ k, k < 5 → parseFieldDescriptor (TX1 k).2.2.1 = some (tyX1 k) := by decide +kernel
abbrev cX1_init : ByteArray := prog_3_method_1_code
def yX1_init : MethodName := ⟨RX1, "<init>", "(III)V"⟩
abbrev cX1_note : ByteArray := prog_3_method_2_code
def yX1_note : MethodName := ⟨RX1, "note", "(IZ)V"⟩
def RX2 : String := "Bijectory$Orders"
def TX2 : u_T := fun k => match k with
  | _ => ("", "", "", false)
def tyX2 : Nat → FieldType := fun k => match k with
  | _ => .int
abbrev wsX20 : List Cond := u_ws RX2 TX2 0
theorem nmX2 : ∀ a, a < 0 → ∀ b, b < 0 → a ≠ b → (TX2 a).2.1 ≠ (TX2 b).2.1 := by decide +kernel
theorem tyX2_ok : ∀ k, k < 0 → parseFieldDescriptor (TX2 k).2.2.1 = some (tyX2 k) := by decide +kernel
abbrev cX2_isOrder : ByteArray := prog_4_method_2_code
def yX2_isOrder : MethodName := ⟨RX2, "isOrder", "(II)Z"⟩
abbrev cX2_at : ByteArray := prog_4_method_3_code
def yX2_at : MethodName := ⟨RX2, "at", "(III)I"⟩
abbrev cX2_ofRank : ByteArray := prog_4_method_4_code
def yX2_ofRank : MethodName := ⟨RX2, "ofRank", "(II)I"⟩
abbrev cX2_freeNumber : ByteArray := prog_4_method_5_code
def yX2_freeNumber : MethodName := ⟨RX2, "freeNumber", "(II)I"⟩
abbrev cX2_shape : ByteArray := prog_4_method_6_code
def yX2_shape : MethodName := ⟨RX2, "shape", "(IIII)I"⟩
abbrev cX2_invert : ByteArray := prog_4_method_7_code
def yX2_invert : MethodName := ⟨RX2, "invert", "(II)I"⟩
abbrev cX2_turn : ByteArray := prog_4_method_8_code
def yX2_turn : MethodName := ⟨RX2, "turn", "(II)I"⟩
abbrev cX2_sort : ByteArray := prog_4_method_9_code
def yX2_sort : MethodName := ⟨RX2, "sort", "(II)I"⟩
abbrev cX2_valueOf : ByteArray := prog_4_method_10_code
def yX2_valueOf : MethodName := ⟨RX2, "valueOf", "(III)I"⟩
abbrev cX2_drops : ByteArray := prog_4_method_11_code
def yX2_drops : MethodName := ⟨RX2, "drops", "(II)I"⟩
abbrev cX2_inversions : ByteArray := prog_4_method_12_code
def yX2_inversions : MethodName := ⟨RX2, "inversions", "(II)I"⟩
abbrev cX2_records : ByteArray := prog_4_method_13_code
def yX2_records : MethodName := ⟨RX2, "records", "(II)I"⟩
abbrev cX2_unmoved : ByteArray := prog_4_method_14_code
def yX2_unmoved : MethodName := ⟨RX2, "unmoved", "(II)I"⟩
abbrev cX2_timesContained : ByteArray := prog_4_method_15_code
def yX2_timesContained : MethodName := ⟨RX2, "timesContained", "(IIII)I"⟩
abbrev cX2_chosen : ByteArray := prog_4_method_16_code
def yX2_chosen : MethodName := ⟨RX2, "chosen", "(III)I"⟩
abbrev cX2_patternOf : ByteArray := prog_4_method_17_code
def yX2_patternOf : MethodName := ⟨RX2, "patternOf", "(II)I"⟩
def RX3 : String := "Bijectory$Paths"
def TX3 : u_T := fun k => match k with
  | _ => ("", "", "", false)
def tyX3 : Nat → FieldType := fun k => match k with
  | _ => .int
abbrev wsX30 : List Cond := u_ws RX3 TX3 0
theorem nmX3 : ∀ a, a < 0 → ∀ b, b < 0 → a ≠ b → (TX3 a).2.1 ≠ (TX3 b).2.1 := by decide +kernel
theorem tyX3_ok : ∀ k, k < 0 → parseFieldDescriptor (TX3 k).2.2.1 = some (tyX3 k) := by decide +kernel
abbrev cX3_isPath : ByteArray := prog_5_method_2_code
def yX3_isPath : MethodName := ⟨RX3, "isPath", "(II)Z"⟩
abbrev cX3_isUp : ByteArray := prog_5_method_3_code
def yX3_isUp : MethodName := ⟨RX3, "isUp", "(II)Z"⟩
abbrev cX3_rise : ByteArray := prog_5_method_4_code
def yX3_rise : MethodName := ⟨RX3, "rise", "(II)I"⟩
abbrev cX3_part : ByteArray := prog_5_method_5_code
def yX3_part : MethodName := ⟨RX3, "part", "(III)I"⟩
abbrev cX3_pairsOfFirst : ByteArray := prog_5_method_6_code
def yX3_pairsOfFirst : MethodName := ⟨RX3, "pairsOfFirst", "(II)I"⟩
abbrev cX3_pairsOfLast : ByteArray := prog_5_method_7_code
def yX3_pairsOfLast : MethodName := ⟨RX3, "pairsOfLast", "(II)I"⟩
abbrev cX3_graft : ByteArray := prog_5_method_8_code
def yX3_graft : MethodName := ⟨RX3, "graft", "(II)I"⟩
abbrev cX3_backward : ByteArray := prog_5_method_9_code
def yX3_backward : MethodName := ⟨RX3, "backward", "(II)I"⟩
abbrev cX3_roll : ByteArray := prog_5_method_10_code
def yX3_roll : MethodName := ⟨RX3, "roll", "(II)I"⟩
abbrev cX3_valueOf : ByteArray := prog_5_method_11_code
def yX3_valueOf : MethodName := ⟨RX3, "valueOf", "(III)I"⟩
abbrev cX3_peaks : ByteArray := prog_5_method_12_code
def yX3_peaks : MethodName := ⟨RX3, "peaks", "(II)I"⟩
abbrev cX3_returns : ByteArray := prog_5_method_13_code
def yX3_returns : MethodName := ⟨RX3, "returns", "(II)I"⟩
abbrev cX3_greatestHeight : ByteArray := prog_5_method_14_code
def yX3_greatestHeight : MethodName := ⟨RX3, "greatestHeight", "(II)I"⟩
abbrev cX3_area : ByteArray := prog_5_method_15_code
def yX3_area : MethodName := ⟨RX3, "area", "(II)I"⟩
def RX4 : String := "Bijectory$Realm"
def TX4 : u_T := fun k => match k with
  | 0 => ("Bijectory$Realm", "size", "I", true)
  | 1 => ("Bijectory$Realm", "paths", "[I", true)
  | 2 => ("Bijectory$Realm", "orders", "[I", true)
  | 3 => ("Bijectory$Realm", "images", "[[I", true)
  | 4 => ("Bijectory$Realm", "values", "[[I", true)
  | _ => ("Bijectory$Realm", "counts", "[[I", true)
def tyX4 : Nat → FieldType := fun k => match k with
  | 0 => .int
  | 1 => .array .int
  | 2 => .array .int
  | 3 => .array (.array .int)
  | 4 => .array (.array .int)
  | _ => .array (.array .int)
abbrev wsX40 : List Cond := u_ws RX4 TX4 6
theorem nmX4 : ∀ a, a < 6 → ∀ b, b < 6 → a ≠ b → (TX4 a).2.1 ≠ (TX4 b).2.1 := by decide +kernel
theorem tyX4_ok : ∀ k, k < 6 → parseFieldDescriptor (TX4 k).2.2.1 = some (tyX4 k) := by decide +kernel
abbrev cX4_init : ByteArray := prog_6_method_1_code
def yX4_init : MethodName := ⟨RX4, "<init>", "(I)V"⟩
abbrev cX4_of : ByteArray := prog_6_method_2_code
def yX4_of : MethodName := ⟨RX4, "of", "(I)LBijectory$Realm;"⟩
abbrev cX4_listPaths : ByteArray := prog_6_method_3_code
def yX4_listPaths : MethodName := ⟨RX4, "listPaths", "()V"⟩
abbrev cX4_listOrders : ByteArray := prog_6_method_4_code
def yX4_listOrders : MethodName := ⟨RX4, "listOrders", "()V"⟩
abbrev cX4_listImages : ByteArray := prog_6_method_5_code
def yX4_listImages : MethodName := ⟨RX4, "listImages", "(I)V"⟩
abbrev cX4_listValues : ByteArray := prog_6_method_6_code
def yX4_listValues : MethodName := ⟨RX4, "listValues", "(II)V"⟩
abbrev cX4_imageCode : ByteArray := prog_6_method_7_code
def yX4_imageCode : MethodName := ⟨RX4, "imageCode", "(III)I"⟩
abbrev cX4_valueByCode : ByteArray := prog_6_method_8_code
def yX4_valueByCode : MethodName := ⟨RX4, "valueByCode", "(IIII)I"⟩
abbrev cX4_codes : ByteArray := prog_6_method_9_code
def yX4_codes : MethodName := ⟨RX4, "codes", "(I)[I"⟩
abbrev cX4_count : ByteArray := prog_6_method_10_code
def yX4_count : MethodName := ⟨RX4, "count", "(I)I"⟩
abbrev cX4_codeOf : ByteArray := prog_6_method_11_code
def yX4_codeOf : MethodName := ⟨RX4, "codeOf", "(II)I"⟩
abbrev cX4_rankOf : ByteArray := prog_6_method_12_code
def yX4_rankOf : MethodName := ⟨RX4, "rankOf", "(II)I"⟩
abbrev cX4_through : ByteArray := prog_6_method_13_code
def yX4_through : MethodName := ⟨RX4, "through", "(LBijectory$Chart;I)I"⟩
abbrev cX4_valueOf : ByteArray := prog_6_method_14_code
def yX4_valueOf : MethodName := ⟨RX4, "valueOf", "(III)I"⟩
abbrev cX4_countOf : ByteArray := prog_6_method_15_code
def yX4_countOf : MethodName := ⟨RX4, "countOf", "(III)I"⟩
abbrev cX4_isInOrderBehind : ByteArray := prog_6_method_16_code
def yX4_isInOrderBehind : MethodName := ⟨RX4, "isInOrderBehind", "(II)Z"⟩
def RX5 : String := "Bijectory$Rows"
def TX5 : u_T := fun k => match k with
  | _ => ("", "", "", false)
def tyX5 : Nat → FieldType := fun k => match k with
  | _ => .int
abbrev wsX50 : List Cond := u_ws RX5 TX5 0
theorem nmX5 : ∀ a, a < 0 → ∀ b, b < 0 → a ≠ b → (TX5 a).2.1 ≠ (TX5 b).2.1 := by decide +kernel
theorem tyX5_ok : ∀ k, k < 0 → parseFieldDescriptor (TX5 k).2.2.1 = some (tyX5 k) := by decide +kernel
abbrev cX5_at : ByteArray := prog_7_method_2_code
def yX5_at : MethodName := ⟨RX5, "at", "([II)I"⟩
abbrev cX5_at_ : ByteArray := prog_7_method_3_code
def yX5_at_ : MethodName := ⟨RX5, "at", "([[III)I"⟩
abbrev cX5_put : ByteArray := prog_7_method_4_code
def yX5_put : MethodName := ⟨RX5, "put", "([III)V"⟩
abbrev cX5_put_ : ByteArray := prog_7_method_5_code
def yX5_put_ : MethodName := ⟨RX5, "put", "([[IIII)V"⟩
def RX6 : String := "Bijectory$Survey"
def TX6 : u_T := fun k => match k with
  | 0 => ("Bijectory$Survey", "ends", "[I", true)
  | _ => ("Bijectory$Survey", "met", "[Z", true)
def tyX6 : Nat → FieldType := fun k => match k with
  | 0 => .array .int
  | _ => .array .boolean
abbrev wsX60 : List Cond := u_ws RX6 TX6 2
theorem nmX6 : ∀ a, a < 2 → ∀ b, b < 2 → a ≠ b → (TX6 a).2.1 ≠ (TX6 b).2.1 := by decide +kernel
theorem tyX6_ok : ∀ k, k < 2 → parseFieldDescriptor (TX6 k).2.2.1 = some (tyX6 k) := by decide +kernel
abbrev cX6_init : ByteArray := prog_8_method_1_code
def yX6_init : MethodName := ⟨RX6, "<init>", "()V"⟩
abbrev cX6_take : ByteArray := prog_8_method_2_code
def yX6_take : MethodName := ⟨RX6, "take", "(LBijectory$Chart;LBijectory$Realm;)V"⟩
abbrev cX6_countDistinct : ByteArray := prog_8_method_3_code
def yX6_countDistinct : MethodName := ⟨RX6, "countDistinct", "(I)I"⟩
abbrev cX6_countUnmoved : ByteArray := prog_8_method_4_code
def yX6_countUnmoved : MethodName := ⟨RX6, "countUnmoved", "(I)I"⟩
abbrev cX6_followRounds : ByteArray := prog_8_method_5_code
def yX6_followRounds : MethodName := ⟨RX6, "followRounds", "(LBijectory$Chart;I)V"⟩
abbrev cX6_roundLength : ByteArray := prog_8_method_6_code
def yX6_roundLength : MethodName := ⟨RX6, "roundLength", "(II)I"⟩
abbrev cX6_commonMultiple : ByteArray := prog_8_method_7_code
def yX6_commonMultiple : MethodName := ⟨RX6, "commonMultiple", "(JI)J"⟩
abbrev cX6_forget : ByteArray := prog_8_method_8_code
def yX6_forget : MethodName := ⟨RX6, "forget", "()V"⟩
abbrev cX6_meet : ByteArray := prog_8_method_9_code
def yX6_meet : MethodName := ⟨RX6, "meet", "(I)Z"⟩
def RX7 : String := "Bijectory$Trees"
def TX7 : u_T := fun k => match k with
  | _ => ("", "", "", false)
def tyX7 : Nat → FieldType := fun k => match k with
  | _ => .int
abbrev wsX70 : List Cond := u_ws RX7 TX7 0
theorem nmX7 : ∀ a, a < 0 → ∀ b, b < 0 → a ≠ b → (TX7 a).2.1 ≠ (TX7 b).2.1 := by decide +kernel
theorem tyX7_ok : ∀ k, k < 0 → parseFieldDescriptor (TX7 k).2.2.1 = some (tyX7 k) := by decide +kernel
abbrev cX7_node : ByteArray := prog_9_method_2_code
def yX7_node : MethodName := ⟨RX7, "node", "(IIII)I"⟩
abbrev cX7_leftOf : ByteArray := prog_9_method_3_code
def yX7_leftOf : MethodName := ⟨RX7, "leftOf", "(III)I"⟩
abbrev cX7_rightOf : ByteArray := prog_9_method_4_code
def yX7_rightOf : MethodName := ⟨RX7, "rightOf", "(II)I"⟩
abbrev cX7_mirror : ByteArray := prog_9_method_5_code
def yX7_mirror : MethodName := ⟨RX7, "mirror", "(II)I"⟩
abbrev cX7_label : ByteArray := prog_9_method_6_code
def yX7_label : MethodName := ⟨RX7, "label", "(III)I"⟩
abbrev cX7_valueOf : ByteArray := prog_9_method_7_code
def yX7_valueOf : MethodName := ⟨RX7, "valueOf", "(III)I"⟩
def RX8 : String := "Bijectory$Walker"
def TX8 : u_T := fun k => match k with
  | 0 => ("Bijectory$Walker", "homeFamily", "I", true)
  | 1 => ("Bijectory$Walker", "home", "I", true)
  | 2 => ("Bijectory$Walker", "family", "I", false)
  | 3 => ("Bijectory$Walker", "place", "I", false)
  | 4 => ("Bijectory$Walker", "trips", "I", false)
  | _ => ("Bijectory$Walker", "backs", "I", false)
def tyX8 : Nat → FieldType := fun k => match k with
  | 0 => .int
  | 1 => .int
  | 2 => .int
  | 3 => .int
  | 4 => .int
  | _ => .int
abbrev wsX80 : List Cond := u_ws RX8 TX8 6
theorem nmX8 : ∀ a, a < 6 → ∀ b, b < 6 → a ≠ b → (TX8 a).2.1 ≠ (TX8 b).2.1 := by decide +kernel
theorem tyX8_ok : ∀ k, k < 6 → parseFieldDescriptor (TX8 k).2.2.1 = some (tyX8 k) := by decide +kernel
abbrev cX8_init : ByteArray := prog_10_method_1_code
def yX8_init : MethodName := ⟨RX8, "<init>", "(II)V"⟩
abbrev cX8_go : ByteArray := prog_10_method_2_code
def yX8_go : MethodName := ⟨RX8, "go", "(II)V"⟩
def RX9 : String := "Bijectory"
def TX9 : u_T := fun k => match k with
  | 0 => ("Bijectory", "realms", "[LBijectory$Realm;", true)
  | 1 => ("Bijectory", "survey", "LBijectory$Survey;", true)
  | 2 => ("Bijectory", "charts", "[LBijectory$Chart;", true)
  | 3 => ("Bijectory", "walkers", "[LBijectory$Walker;", true)
  | 4 => ("Bijectory", "claims", "[LBijectory$Claim;", true)
  | 5 => ("Bijectory", "realm", "LBijectory$Realm;", false)
  | 6 => ("Bijectory", "chartCount", "I", false)
  | 7 => ("Bijectory", "walkerCount", "I", false)
  | 8 => ("Bijectory", "claimCount", "I", false)
  | 9 => ("Bijectory", "tripsEver", "I", false)
  | _ => ("Bijectory", "trialsEver", "I", false)
def tyX9 : Nat → FieldType := fun k => match k with
  | 0 => .array (.object "Bijectory$Realm")
  | 1 => .object "Bijectory$Survey"
  | 2 => .array (.object "Bijectory$Chart")
  | 3 => .array (.object "Bijectory$Walker")
  | 4 => .array (.object "Bijectory$Claim")
  | 5 => .object "Bijectory$Realm"
  | 6 => .int
  | 7 => .int
  | 8 => .int
  | 9 => .int
  | _ => .int
abbrev wsX90 : List Cond := u_ws RX9 TX9 11
theorem nmX9 : ∀ a, a < 11 → ∀ b, b < 11 → a ≠ b → (TX9 a).2.1 ≠ (TX9 b).2.1 := by decide +kernel
theorem tyX9_ok : ∀ k, k < 11 → parseFieldDescriptor (TX9 k).2.2.1 = some (tyX9 k) := by decide +kernel
abbrev cX9_init : ByteArray := prog_1_method_1_code
def yX9_init : MethodName := ⟨RX9, "<init>", "()V"⟩
abbrev cX9_size : ByteArray := prog_1_method_2_code
def yX9_size : MethodName := ⟨RX9, "size", "(I)I"⟩
abbrev cX9_map : ByteArray := prog_1_method_3_code
def yX9_map : MethodName := ⟨RX9, "map", "(I)I"⟩
abbrev cX9_then : ByteArray := prog_1_method_4_code
def yX9_then : MethodName := ⟨RX9, "then", "(II)I"⟩
abbrev cX9_walker : ByteArray := prog_1_method_5_code
def yX9_walker : MethodName := ⟨RX9, "walker", "(II)I"⟩
abbrev cX9_claim : ByteArray := prog_1_method_6_code
def yX9_claim : MethodName := ⟨RX9, "claim", "(III)I"⟩
abbrev cX9_send : ByteArray := prog_1_method_7_code
def yX9_send : MethodName := ⟨RX9, "send", "(III)I"⟩
abbrev cX9_trial : ByteArray := prog_1_method_8_code
def yX9_trial : MethodName := ⟨RX9, "trial", "(I)Z"⟩
abbrev cX9_objects : ByteArray := prog_1_method_9_code
def yX9_objects : MethodName := ⟨RX9, "objects", "(I)I"⟩
abbrev cX9_unrank : ByteArray := prog_1_method_10_code
def yX9_unrank : MethodName := ⟨RX9, "unrank", "(II)I"⟩
abbrev cX9_rank : ByteArray := prog_1_method_11_code
def yX9_rank : MethodName := ⟨RX9, "rank", "(II)I"⟩
abbrev cX9_statistic : ByteArray := prog_1_method_12_code
def yX9_statistic : MethodName := ⟨RX9, "statistic", "(III)I"⟩
abbrev cX9_spread : ByteArray := prog_1_method_13_code
def yX9_spread : MethodName := ⟨RX9, "spread", "(III)I"⟩
abbrev cX9_signs : ByteArray := prog_1_method_14_code
def yX9_signs : MethodName := ⟨RX9, "signs", "(II)I"⟩
abbrev cX9_alike : ByteArray := prog_1_method_15_code
def yX9_alike : MethodName := ⟨RX9, "alike", "(IIII)Z"⟩
abbrev cX9_contains : ByteArray := prog_1_method_16_code
def yX9_contains : MethodName := ⟨RX9, "contains", "(II)I"⟩
abbrev cX9_sorted : ByteArray := prog_1_method_17_code
def yX9_sorted : MethodName := ⟨RX9, "sorted", "(I)I"⟩
abbrev cX9_ofMap : ByteArray := prog_1_method_18_code
def yX9_ofMap : MethodName := ⟨RX9, "ofMap", "(II)I"⟩
abbrev cX9_image : ByteArray := prog_1_method_19_code
def yX9_image : MethodName := ⟨RX9, "image", "(II)I"⟩
abbrev cX9_source : ByteArray := prog_1_method_20_code
def yX9_source : MethodName := ⟨RX9, "source", "(II)I"⟩
abbrev cX9_rounds : ByteArray := prog_1_method_21_code
def yX9_rounds : MethodName := ⟨RX9, "rounds", "(I)I"⟩
abbrev cX9_period : ByteArray := prog_1_method_22_code
def yX9_period : MethodName := ⟨RX9, "period", "(I)J"⟩
abbrev cX9_against : ByteArray := prog_1_method_23_code
def yX9_against : MethodName := ⟨RX9, "against", "(III)I"⟩
abbrev cX9_cancels : ByteArray := prog_1_method_24_code
def yX9_cancels : MethodName := ⟨RX9, "cancels", "(II)Z"⟩
abbrev cX9_ofWalker : ByteArray := prog_1_method_25_code
def yX9_ofWalker : MethodName := ⟨RX9, "ofWalker", "(II)I"⟩
abbrev cX9_ofClaim : ByteArray := prog_1_method_26_code
def yX9_ofClaim : MethodName := ⟨RX9, "ofClaim", "(II)I"⟩
abbrev cX9_many : ByteArray := prog_1_method_27_code
def yX9_many : MethodName := ⟨RX9, "many", "(I)I"⟩
abbrev cX9_mean : ByteArray := prog_1_method_28_code
def yX9_mean : MethodName := ⟨RX9, "mean", "(II)D"⟩
abbrev cX9_digest : ByteArray := prog_1_method_29_code
def yX9_digest : MethodName := ⟨RX9, "digest", "()J"⟩
abbrev cX9_digestOfObjects : ByteArray := prog_1_method_30_code
def yX9_digestOfObjects : MethodName := ⟨RX9, "digestOfObjects", "(J)J"⟩
abbrev cX9_digestOfMap : ByteArray := prog_1_method_31_code
def yX9_digestOfMap : MethodName := ⟨RX9, "digestOfMap", "(JI)J"⟩
abbrev cX9_needStep : ByteArray := prog_1_method_32_code
def yX9_needStep : MethodName := ⟨RX9, "needStep", "(I)V"⟩
abbrev cX9_needFamily : ByteArray := prog_1_method_33_code
def yX9_needFamily : MethodName := ⟨RX9, "needFamily", "(I)V"⟩
abbrev cX9_needStatistic : ByteArray := prog_1_method_34_code
def yX9_needStatistic : MethodName := ⟨RX9, "needStatistic", "(I)V"⟩
abbrev cX9_needRank : ByteArray := prog_1_method_35_code
def yX9_needRank : MethodName := ⟨RX9, "needRank", "(II)V"⟩
abbrev cX9_chartAt : ByteArray := prog_1_method_36_code
def yX9_chartAt : MethodName := ⟨RX9, "chartAt", "(I)LBijectory$Chart;"⟩
abbrev cX9_walkerAt : ByteArray := prog_1_method_37_code
def yX9_walkerAt : MethodName := ⟨RX9, "walkerAt", "(I)LBijectory$Walker;"⟩
abbrev cX9_claimAt : ByteArray := prog_1_method_38_code
def yX9_claimAt : MethodName := ⟨RX9, "claimAt", "(I)LBijectory$Claim;"⟩
abbrev cX9_signOf : ByteArray := prog_1_method_39_code
def yX9_signOf : MethodName := ⟨RX9, "signOf", "(I)I"⟩
abbrev cX9_patternLength : ByteArray := prog_1_method_40_code
def yX9_patternLength : MethodName := ⟨RX9, "patternLength", "(I)I"⟩
abbrev cX9_tryClaim : ByteArray := prog_1_method_41_code
def yX9_tryClaim : MethodName := ⟨RX9, "tryClaim", "(LBijectory$Claim;LBijectory$Chart;)Z"⟩
abbrev cX9_firstAgainst : ByteArray := prog_1_method_42_code
def yX9_firstAgainst : MethodName := ⟨RX9, "firstAgainst", "(LBijectory$Chart;II)I"⟩
abbrev cX9_isPairedOff : ByteArray := prog_1_method_43_code
def yX9_isPairedOff : MethodName := ⟨RX9, "isPairedOff", "(LBijectory$Chart;II)Z"⟩
abbrev cX9_refutedClaims : ByteArray := prog_1_method_44_code
def yX9_refutedClaims : MethodName := ⟨RX9, "refutedClaims", "()I"⟩
def RX10 : String := "BijectoryModel$Claim"
def TX10 : u_T := fun k => match k with
  | 0 => ("BijectoryModel$Claim", "map", "I", true)
  | 1 => ("BijectoryModel$Claim", "which", "I", true)
  | 2 => ("BijectoryModel$Claim", "other", "I", true)
  | 3 => ("BijectoryModel$Claim", "tried", "I", false)
  | _ => ("BijectoryModel$Claim", "refuted", "I", false)
def tyX10 : Nat → FieldType := fun k => match k with
  | 0 => .int
  | 1 => .int
  | 2 => .int
  | 3 => .int
  | _ => .int
abbrev wsX100 : List Cond := u_ws RX10 TX10 5
theorem nmX10 : ∀ a, a < 5 → ∀ b, b < 5 → a ≠ b → (TX10 a).2.1 ≠ (TX10 b).2.1 := by decide +kernel
theorem tyX10_ok : ∀ k, k < 5 → parseFieldDescriptor (TX10 k).2.2.1 = some (tyX10 k) := by decide +kernel
abbrev cX10_init : ByteArray := prog_13_method_1_code
def yX10_init : MethodName := ⟨RX10, "<init>", "(III)V"⟩
def RX11 : String := "BijectoryModel$Walker"
def TX11 : u_T := fun k => match k with
  | 0 => ("BijectoryModel$Walker", "family", "I", false)
  | 1 => ("BijectoryModel$Walker", "code", "I", false)
  | 2 => ("BijectoryModel$Walker", "homeFamily", "I", true)
  | 3 => ("BijectoryModel$Walker", "home", "I", true)
  | 4 => ("BijectoryModel$Walker", "trips", "I", false)
  | _ => ("BijectoryModel$Walker", "backs", "I", false)
def tyX11 : Nat → FieldType := fun k => match k with
  | 0 => .int
  | 1 => .int
  | 2 => .int
  | 3 => .int
  | 4 => .int
  | _ => .int
abbrev wsX110 : List Cond := u_ws RX11 TX11 6
theorem nmX11 : ∀ a, a < 6 → ∀ b, b < 6 → a ≠ b → (TX11 a).2.1 ≠ (TX11 b).2.1 := by decide +kernel
theorem tyX11_ok : ∀ k, k < 6 → parseFieldDescriptor (TX11 k).2.2.1 = some (tyX11 k) := by decide +kernel
abbrev cX11_init : ByteArray := prog_14_method_1_code
def yX11_init : MethodName := ⟨RX11, "<init>", "(II)V"⟩
def RX12 : String := "BijectoryModel"
def TX12 : u_T := fun k => match k with
  | 0 => ("BijectoryModel", "thrown", "I", false)
  | 1 => ("BijectoryModel", "size", "I", false)
  | 2 => ("BijectoryModel", "codes", "[[I", true)
  | 3 => ("BijectoryModel", "maps", "Ljava/util/ArrayList;", true)
  | 4 => ("BijectoryModel", "walkers", "Ljava/util/ArrayList;", true)
  | 5 => ("BijectoryModel", "claims", "Ljava/util/ArrayList;", true)
  | 6 => ("BijectoryModel", "trips", "I", false)
  | 7 => ("BijectoryModel", "trials", "I", false)
  | 8 => ("BijectoryModel", "row", "[I", true)
  | 9 => ("BijectoryModel", "made", "[I", true)
  | _ => ("BijectoryModel", "stack", "[I", true)
def tyX12 : Nat → FieldType := fun k => match k with
  | 0 => .int
  | 1 => .int
  | 2 => .array (.array .int)
  | 3 => .object "java/util/ArrayList"
  | 4 => .object "java/util/ArrayList"
  | 5 => .object "java/util/ArrayList"
  | 6 => .int
  | 7 => .int
  | 8 => .array .int
  | 9 => .array .int
  | _ => .array .int
abbrev wsX120 : List Cond := u_ws RX12 TX12 11
theorem nmX12 : ∀ a, a < 11 → ∀ b, b < 11 → a ≠ b → (TX12 a).2.1 ≠ (TX12 b).2.1 := by decide +kernel
theorem tyX12_ok : ∀ k, k < 11 → parseFieldDescriptor (TX12 k).2.2.1 = some (tyX12 k) := by decide +kernel
abbrev cX12_isIn : ByteArray := prog_12_method_1_code
def yX12_isIn : MethodName := ⟨RX12, "isIn", "(III)Z"⟩
abbrev cX12_init : ByteArray := prog_12_method_2_code
def yX12_init : MethodName := ⟨RX12, "<init>", "()V"⟩
abbrev cX12_thrown : ByteArray := prog_12_method_3_code
def yX12_thrown : MethodName := ⟨RX12, "thrown", "()I"⟩
abbrev cX12_refuse : ByteArray := prog_12_method_4_code
def yX12_refuse : MethodName := ⟨RX12, "refuse", "(ZI)Z"⟩
abbrev cX12_start : ByteArray := prog_12_method_5_code
def yX12_start : MethodName := ⟨RX12, "start", "(ZI)Z"⟩
abbrev cX12_isPath : ByteArray := prog_12_method_6_code
def yX12_isPath : MethodName := ⟨RX12, "isPath", "(II)Z"⟩
abbrev cX12_isOrder : ByteArray := prog_12_method_7_code
def yX12_isOrder : MethodName := ⟨RX12, "isOrder", "(II)Z"⟩
abbrev cX12_tens : ByteArray := prog_12_method_8_code
def yX12_tens : MethodName := ⟨RX12, "tens", "(I)I"⟩
abbrev cX12_grow : ByteArray := prog_12_method_9_code
def yX12_grow : MethodName := ⟨RX12, "grow", "(I)V"⟩
abbrev cX12_fill : ByteArray := prog_12_method_10_code
def yX12_fill : MethodName := ⟨RX12, "fill", "(II[I)V"⟩
abbrev cX12_index : ByteArray := prog_12_method_11_code
def yX12_index : MethodName := ⟨RX12, "index", "(II)I"⟩
abbrev cX12_first : ByteArray := prog_12_method_12_code
def yX12_first : MethodName := ⟨RX12, "first", "(II)I"⟩
abbrev cX12_last : ByteArray := prog_12_method_13_code
def yX12_last : MethodName := ⟨RX12, "last", "(II)I"⟩
abbrev cX12_part : ByteArray := prog_12_method_14_code
def yX12_part : MethodName := ⟨RX12, "part", "(IIII)I"⟩
abbrev cX12_node : ByteArray := prog_12_method_15_code
def yX12_node : MethodName := ⟨RX12, "node", "(IIII)I"⟩
abbrev cX12_graft : ByteArray := prog_12_method_16_code
def yX12_graft : MethodName := ⟨RX12, "graft", "(II)I"⟩
abbrev cX12_mirror : ByteArray := prog_12_method_17_code
def yX12_mirror : MethodName := ⟨RX12, "mirror", "(II)I"⟩
abbrev cX12_backward : ByteArray := prog_12_method_18_code
def yX12_backward : MethodName := ⟨RX12, "backward", "(II)I"⟩
abbrev cX12_roll : ByteArray := prog_12_method_19_code
def yX12_roll : MethodName := ⟨RX12, "roll", "(II)I"⟩
abbrev cX12_label : ByteArray := prog_12_method_20_code
def yX12_label : MethodName := ⟨RX12, "label", "(III)I"⟩
abbrev cX12_read : ByteArray := prog_12_method_21_code
def yX12_read : MethodName := ⟨RX12, "read", "(I)V"⟩
abbrev cX12_shape : ByteArray := prog_12_method_22_code
def yX12_shape : MethodName := ⟨RX12, "shape", "(II)I"⟩
abbrev cX12_written : ByteArray := prog_12_method_23_code
def yX12_written : MethodName := ⟨RX12, "written", "()I"⟩
abbrev cX12_invert : ByteArray := prog_12_method_24_code
def yX12_invert : MethodName := ⟨RX12, "invert", "(I)I"⟩
abbrev cX12_turn : ByteArray := prog_12_method_25_code
def yX12_turn : MethodName := ⟨RX12, "turn", "(I)I"⟩
abbrev cX12_sort : ByteArray := prog_12_method_26_code
def yX12_sort : MethodName := ⟨RX12, "sort", "(I)I"⟩
abbrev cX12_step : ByteArray := prog_12_method_27_code
def yX12_step : MethodName := ⟨RX12, "step", "(II)I"⟩
abbrev cX12_from : ByteArray := prog_12_method_28_code
def yX12_from : MethodName := ⟨RX12, "from", "(I)I"⟩
abbrev cX12_to : ByteArray := prog_12_method_29_code
def yX12_to : MethodName := ⟨RX12, "to", "(I)I"⟩
abbrev cX12_isMove : ByteArray := prog_12_method_30_code
def yX12_isMove : MethodName := ⟨RX12, "isMove", "(I)Z"⟩
abbrev cX12_imageOf : ByteArray := prog_12_method_31_code
def yX12_imageOf : MethodName := ⟨RX12, "imageOf", "(II)I"⟩
abbrev cX12_images : ByteArray := prog_12_method_32_code
def yX12_images : MethodName := ⟨RX12, "images", "(I)[I"⟩
abbrev cX12_ofPath : ByteArray := prog_12_method_33_code
def yX12_ofPath : MethodName := ⟨RX12, "ofPath", "(II)I"⟩
abbrev cX12_tree : ByteArray := prog_12_method_34_code
def yX12_tree : MethodName := ⟨RX12, "tree", "(III)I"⟩
abbrev cX12_ofOrder : ByteArray := prog_12_method_35_code
def yX12_ofOrder : MethodName := ⟨RX12, "ofOrder", "(II)I"⟩
abbrev cX12_statisticOf : ByteArray := prog_12_method_36_code
def yX12_statisticOf : MethodName := ⟨RX12, "statisticOf", "(III)I"⟩
abbrev cX12_statistics : ByteArray := prog_12_method_37_code
def yX12_statistics : MethodName := ⟨RX12, "statistics", "(II)[I"⟩
abbrev cX12_sign : ByteArray := prog_12_method_38_code
def yX12_sign : MethodName := ⟨RX12, "sign", "(I)I"⟩
abbrev cX12_size : ByteArray := prog_12_method_39_code
def yX12_size : MethodName := ⟨RX12, "size", "(I)I"⟩
abbrev cX12_map : ByteArray := prog_12_method_40_code
def yX12_map : MethodName := ⟨RX12, "map", "(I)I"⟩
abbrev cX12_isNoMap : ByteArray := prog_12_method_41_code
def yX12_isNoMap : MethodName := ⟨RX12, "isNoMap", "(I)Z"⟩
abbrev cX12_isClaimed : ByteArray := prog_12_method_42_code
def yX12_isClaimed : MethodName := ⟨RX12, "isClaimed", "(I)Z"⟩
abbrev cX12_then : ByteArray := prog_12_method_43_code
def yX12_then : MethodName := ⟨RX12, "then", "(II)I"⟩
abbrev cX12_isNoFamily : ByteArray := prog_12_method_44_code
def yX12_isNoFamily : MethodName := ⟨RX12, "isNoFamily", "(I)Z"⟩
abbrev cX12_isNoStatistic : ByteArray := prog_12_method_45_code
def yX12_isNoStatistic : MethodName := ⟨RX12, "isNoStatistic", "(I)Z"⟩
abbrev cX12_walker : ByteArray := prog_12_method_46_code
def yX12_walker : MethodName := ⟨RX12, "walker", "(II)I"⟩
abbrev cX12_againstNow : ByteArray := prog_12_method_47_code
def yX12_againstNow : MethodName := ⟨RX12, "againstNow", "(III)I"⟩
abbrev cX12_isTried : ByteArray := prog_12_method_48_code
def yX12_isTried : MethodName := ⟨RX12, "isTried", "(LBijectoryModel$Claim;)Z"⟩
abbrev cX12_claim : ByteArray := prog_12_method_49_code
def yX12_claim : MethodName := ⟨RX12, "claim", "(III)I"⟩
abbrev cX12_send : ByteArray := prog_12_method_50_code
def yX12_send : MethodName := ⟨RX12, "send", "(III)I"⟩
abbrev cX12_trial : ByteArray := prog_12_method_51_code
def yX12_trial : MethodName := ⟨RX12, "trial", "(I)Z"⟩
abbrev cX12_objects : ByteArray := prog_12_method_52_code
def yX12_objects : MethodName := ⟨RX12, "objects", "(I)I"⟩
abbrev cX12_isNoRank : ByteArray := prog_12_method_53_code
def yX12_isNoRank : MethodName := ⟨RX12, "isNoRank", "(II)Z"⟩
abbrev cX12_unrank : ByteArray := prog_12_method_54_code
def yX12_unrank : MethodName := ⟨RX12, "unrank", "(II)I"⟩
abbrev cX12_rank : ByteArray := prog_12_method_55_code
def yX12_rank : MethodName := ⟨RX12, "rank", "(II)I"⟩
abbrev cX12_statistic : ByteArray := prog_12_method_56_code
def yX12_statistic : MethodName := ⟨RX12, "statistic", "(III)I"⟩
abbrev cX12_spread : ByteArray := prog_12_method_57_code
def yX12_spread : MethodName := ⟨RX12, "spread", "(III)I"⟩
abbrev cX12_signsNow : ByteArray := prog_12_method_58_code
def yX12_signsNow : MethodName := ⟨RX12, "signsNow", "(II)I"⟩
abbrev cX12_signs : ByteArray := prog_12_method_59_code
def yX12_signs : MethodName := ⟨RX12, "signs", "(II)I"⟩
abbrev cX12_alike : ByteArray := prog_12_method_60_code
def yX12_alike : MethodName := ⟨RX12, "alike", "(IIII)Z"⟩
abbrev cX12_digits : ByteArray := prog_12_method_61_code
def yX12_digits : MethodName := ⟨RX12, "digits", "(I)I"⟩
abbrev cX12_contains : ByteArray := prog_12_method_62_code
def yX12_contains : MethodName := ⟨RX12, "contains", "(II)I"⟩
abbrev cX12_isLike : ByteArray := prog_12_method_63_code
def yX12_isLike : MethodName := ⟨RX12, "isLike", "(III)Z"⟩
abbrev cX12_sortedNow : ByteArray := prog_12_method_64_code
def yX12_sortedNow : MethodName := ⟨RX12, "sortedNow", "(I)I"⟩
abbrev cX12_sorted : ByteArray := prog_12_method_65_code
def yX12_sorted : MethodName := ⟨RX12, "sorted", "(I)I"⟩
abbrev cX12_unlike : ByteArray := prog_12_method_66_code
def yX12_unlike : MethodName := ⟨RX12, "unlike", "(I[I)I"⟩
abbrev cX12_fixed : ByteArray := prog_12_method_67_code
def yX12_fixed : MethodName := ⟨RX12, "fixed", "(I[I)I"⟩
abbrev cX12_isPerfect : ByteArray := prog_12_method_68_code
def yX12_isPerfect : MethodName := ⟨RX12, "isPerfect", "(I[I)Z"⟩
abbrev cX12_ofMapNow : ByteArray := prog_12_method_69_code
def yX12_ofMapNow : MethodName := ⟨RX12, "ofMapNow", "(II[I)I"⟩
abbrev cX12_ofMap : ByteArray := prog_12_method_70_code
def yX12_ofMap : MethodName := ⟨RX12, "ofMap", "(II)I"⟩
abbrev cX12_image : ByteArray := prog_12_method_71_code
def yX12_image : MethodName := ⟨RX12, "image", "(II)I"⟩
abbrev cX12_source : ByteArray := prog_12_method_72_code
def yX12_source : MethodName := ⟨RX12, "source", "(II)I"⟩
abbrev cX12_rounds : ByteArray := prog_12_method_73_code
def yX12_rounds : MethodName := ⟨RX12, "rounds", "(II[I)J"⟩
abbrev cX12_common : ByteArray := prog_12_method_74_code
def yX12_common : MethodName := ⟨RX12, "common", "(JJ)J"⟩
abbrev cX12_rounds_ : ByteArray := prog_12_method_75_code
def yX12_rounds_ : MethodName := ⟨RX12, "rounds", "(I)I"⟩
abbrev cX12_period : ByteArray := prog_12_method_76_code
def yX12_period : MethodName := ⟨RX12, "period", "(I)J"⟩
abbrev cX12_against : ByteArray := prog_12_method_77_code
def yX12_against : MethodName := ⟨RX12, "against", "(III)I"⟩
abbrev cX12_cancels : ByteArray := prog_12_method_78_code
def yX12_cancels : MethodName := ⟨RX12, "cancels", "(II)Z"⟩
abbrev cX12_ofWalkerNow : ByteArray := prog_12_method_79_code
def yX12_ofWalkerNow : MethodName := ⟨RX12, "ofWalkerNow", "(LBijectoryModel$Walker;I)I"⟩
abbrev cX12_ofWalker : ByteArray := prog_12_method_80_code
def yX12_ofWalker : MethodName := ⟨RX12, "ofWalker", "(II)I"⟩
abbrev cX12_ofClaimNow : ByteArray := prog_12_method_81_code
def yX12_ofClaimNow : MethodName := ⟨RX12, "ofClaimNow", "(LBijectoryModel$Claim;I)I"⟩
abbrev cX12_ofClaim : ByteArray := prog_12_method_82_code
def yX12_ofClaim : MethodName := ⟨RX12, "ofClaim", "(II)I"⟩
abbrev cX12_refuted : ByteArray := prog_12_method_83_code
def yX12_refuted : MethodName := ⟨RX12, "refuted", "()I"⟩
abbrev cX12_manyNow : ByteArray := prog_12_method_84_code
def yX12_manyNow : MethodName := ⟨RX12, "manyNow", "(I)I"⟩
abbrev cX12_many : ByteArray := prog_12_method_85_code
def yX12_many : MethodName := ⟨RX12, "many", "(I)I"⟩
abbrev cX12_mean : ByteArray := prog_12_method_86_code
def yX12_mean : MethodName := ⟨RX12, "mean", "(II)D"⟩
abbrev cX12_add : ByteArray := prog_12_method_87_code
def yX12_add : MethodName := ⟨RX12, "add", "(JJ)J"⟩
abbrev cX12_digestMap : ByteArray := prog_12_method_88_code
def yX12_digestMap : MethodName := ⟨RX12, "digestMap", "(JI)J"⟩
abbrev cX12_digest : ByteArray := prog_12_method_89_code
def yX12_digest : MethodName := ⟨RX12, "digest", "()J"⟩
def RJx145de : String := "java/io/Serializable"
def TJx145de : u_T := fun k => match k with
  | _ => ("", "", "", false)
def tyJx145de : Nat → FieldType := fun k => match k with
  | _ => .int
abbrev wsJx145de0 : List Cond := u_ws RJx145de TJx145de 0
theorem nmJx145de : ∀ a, a < 0 → ∀ b, b < 0 → a ≠ b → (TJx145de a).2.1 ≠ (TJx145de b).2.1 := by decide +kernel
theorem tyJx145de_ok : ∀ k, k < 0 → parseFieldDescriptor (TJx145de k).2.2.1 = some (tyJx145de k) := by decide +kernel
def RJx8e188 : String := "java/lang/Cloneable"
def TJx8e188 : u_T := fun k => match k with
  | _ => ("", "", "", false)
def tyJx8e188 : Nat → FieldType := fun k => match k with
  | _ => .int
abbrev wsJx8e1880 : List Cond := u_ws RJx8e188 TJx8e188 0
theorem nmJx8e188 : ∀ a, a < 0 → ∀ b, b < 0 → a ≠ b → (TJx8e188 a).2.1 ≠ (TJx8e188 b).2.1 := by decide +kernel
theorem tyJx8e188_ok : ∀ k, k < 0 → parseFieldDescriptor (TJx8e188 k).2.2.1 = some (tyJx8e188 k) := by decide +kernel
def RJxb160c : String := "java/lang/Comparable"
def TJxb160c : u_T := fun k => match k with
  | _ => ("", "", "", false)
def tyJxb160c : Nat → FieldType := fun k => match k with
  | _ => .int
abbrev wsJxb160c0 : List Cond := u_ws RJxb160c TJxb160c 0
theorem nmJxb160c : ∀ a, a < 0 → ∀ b, b < 0 → a ≠ b → (TJxb160c a).2.1 ≠ (TJxb160c b).2.1 := by decide +kernel
theorem tyJxb160c_ok : ∀ k, k < 0 → parseFieldDescriptor (TJxb160c k).2.2.1 = some (tyJxb160c k) := by decide +kernel
def RJxabbfe : String := "java/lang/Integer$IntegerCache"
def TJxabbfe : u_T := fun k => match k with
  | _ => ("", "", "", false)
def tyJxabbfe : Nat → FieldType := fun k => match k with
  | _ => .int
abbrev wsJxabbfe0 : List Cond := u_ws RJxabbfe TJxabbfe 0
theorem nmJxabbfe : ∀ a, a < 0 → ∀ b, b < 0 → a ≠ b → (TJxabbfe a).2.1 ≠ (TJxabbfe b).2.1 := by decide +kernel
theorem tyJxabbfe_ok : ∀ k, k < 0 → parseFieldDescriptor (TJxabbfe k).2.2.1 = some (tyJxabbfe k) := by decide +kernel
def RJ6 : String := "java/lang/Integer"
def TJ6 : u_T := fun k => match k with
  | _ => ("java/lang/Integer", "value", "I", true)
def tyJ6 : Nat → FieldType := fun k => match k with
  | _ => .int
abbrev wsJ60 : List Cond := u_ws RJ6 TJ6 1
theorem nmJ6 : ∀ a, a < 1 → ∀ b, b < 1 → a ≠ b → (TJ6 a).2.1 ≠ (TJ6 b).2.1 := by decide +kernel
theorem tyJ6_ok : ∀ k, k < 1 → parseFieldDescriptor (TJ6 k).2.2.1 = some (tyJ6 k) := by decide +kernel
abbrev cJ6_valueOf_2dffe : ByteArray := prog_22_method_22_code
def yJ6_valueOf_2dffe : MethodName := ⟨RJ6, "valueOf", "(I)Ljava/lang/Integer;"⟩
abbrev cJ6_init_d00df : ByteArray := prog_22_method_23_code
def yJ6_init_d00df : MethodName := ⟨RJ6, "<init>", "(I)V"⟩
abbrev cJ6_intValue_8abf5 : ByteArray := prog_22_method_27_code
def yJ6_intValue_8abf5 : MethodName := ⟨RJ6, "intValue", "()I"⟩
abbrev cJ6_bitCount_0f7a4 : ByteArray := prog_22_method_49_code
def yJ6_bitCount_0f7a4 : MethodName := ⟨RJ6, "bitCount", "(I)I"⟩
def RJxab1ab : String := "java/lang/Iterable"
def TJxab1ab : u_T := fun k => match k with
  | _ => ("", "", "", false)
def tyJxab1ab : Nat → FieldType := fun k => match k with
  | _ => .int
abbrev wsJxab1ab0 : List Cond := u_ws RJxab1ab TJxab1ab 0
theorem nmJxab1ab : ∀ a, a < 0 → ∀ b, b < 0 → a ≠ b → (TJxab1ab a).2.1 ≠ (TJxab1ab b).2.1 := by decide +kernel
theorem tyJxab1ab_ok : ∀ k, k < 0 → parseFieldDescriptor (TJxab1ab k).2.2.1 = some (tyJxab1ab k) := by decide +kernel
def RJ9 : String := "java/lang/Math"
def TJ9 : u_T := fun k => match k with
  | _ => ("", "", "", false)
def tyJ9 : Nat → FieldType := fun k => match k with
  | _ => .int
abbrev wsJ90 : List Cond := u_ws RJ9 TJ9 0
theorem nmJ9 : ∀ a, a < 0 → ∀ b, b < 0 → a ≠ b → (TJ9 a).2.1 ≠ (TJ9 b).2.1 := by decide +kernel
theorem tyJ9_ok : ∀ k, k < 0 → parseFieldDescriptor (TJ9 k).2.2.1 = some (tyJ9 k) := by decide +kernel
abbrev cJ9_max_7cf53 : ByteArray := prog_25_method_65_code
def yJ9_max_7cf53 : MethodName := ⟨RJ9, "max", "(II)I"⟩
abbrev cJ9_min_7cf53 : ByteArray := prog_25_method_69_code
def yJ9_min_7cf53 : MethodName := ⟨RJ9, "min", "(II)I"⟩
def RJxd2413 : String := "java/lang/Number"
def TJxd2413 : u_T := fun k => match k with
  | _ => ("", "", "", false)
def tyJxd2413 : Nat → FieldType := fun k => match k with
  | _ => .int
abbrev wsJxd24130 : List Cond := u_ws RJxd2413 TJxd2413 0
theorem nmJxd2413 : ∀ a, a < 0 → ∀ b, b < 0 → a ≠ b → (TJxd2413 a).2.1 ≠ (TJxd2413 b).2.1 := by decide +kernel
theorem tyJxd2413_ok : ∀ k, k < 0 → parseFieldDescriptor (TJxd2413 k).2.2.1 = some (tyJxd2413 k) := by decide +kernel
abbrev cJxd2413_init_da8c8 : ByteArray := prog_26_method_1_code
def yJxd2413_init_da8c8 : MethodName := ⟨RJxd2413, "<init>", "()V"⟩
def RJ0 : String := "java/lang/String"
def TJ0 : u_T := fun k => match k with
  | _ => ("", "", "", false)
def tyJ0 : Nat → FieldType := fun k => match k with
  | _ => .int
abbrev wsJ00 : List Cond := u_ws RJ0 TJ0 0
theorem nmJ0 : ∀ a, a < 0 → ∀ b, b < 0 → a ≠ b → (TJ0 a).2.1 ≠ (TJ0 b).2.1 := by decide +kernel
theorem tyJ0_ok : ∀ k, k < 0 → parseFieldDescriptor (TJ0 k).2.2.1 = some (tyJ0 k) := by decide +kernel
def RJ10 : String := "java/lang/System"
def TJ10 : u_T := fun k => match k with
  | _ => ("", "", "", false)
def tyJ10 : Nat → FieldType := fun k => match k with
  | _ => .int
abbrev wsJ100 : List Cond := u_ws RJ10 TJ10 0
theorem nmJ10 : ∀ a, a < 0 → ∀ b, b < 0 → a ≠ b → (TJ10 a).2.1 ≠ (TJ10 b).2.1 := by decide +kernel
theorem tyJ10_ok : ∀ k, k < 0 → parseFieldDescriptor (TJ10 k).2.2.1 = some (tyJ10 k) := by decide +kernel
def RJxfd54e : String := "java/lang/constant/Constable"
def TJxfd54e : u_T := fun k => match k with
  | _ => ("", "", "", false)
def tyJxfd54e : Nat → FieldType := fun k => match k with
  | _ => .int
abbrev wsJxfd54e0 : List Cond := u_ws RJxfd54e TJxfd54e 0
theorem nmJxfd54e : ∀ a, a < 0 → ∀ b, b < 0 → a ≠ b → (TJxfd54e a).2.1 ≠ (TJxfd54e b).2.1 := by decide +kernel
theorem tyJxfd54e_ok : ∀ k, k < 0 → parseFieldDescriptor (TJxfd54e k).2.2.1 = some (tyJxfd54e k) := by decide +kernel
def RJx3cf43 : String := "java/lang/constant/ConstantDesc"
def TJx3cf43 : u_T := fun k => match k with
  | _ => ("", "", "", false)
def tyJx3cf43 : Nat → FieldType := fun k => match k with
  | _ => .int
abbrev wsJx3cf430 : List Cond := u_ws RJx3cf43 TJx3cf43 0
theorem nmJx3cf43 : ∀ a, a < 0 → ∀ b, b < 0 → a ≠ b → (TJx3cf43 a).2.1 ≠ (TJx3cf43 b).2.1 := by decide +kernel
theorem tyJx3cf43_ok : ∀ k, k < 0 → parseFieldDescriptor (TJx3cf43 k).2.2.1 = some (tyJx3cf43 k) := by decide +kernel
def RJxa1e45 : String := "java/util/AbstractCollection"
def TJxa1e45 : u_T := fun k => match k with
  | _ => ("", "", "", false)
def tyJxa1e45 : Nat → FieldType := fun k => match k with
  | _ => .int
abbrev wsJxa1e450 : List Cond := u_ws RJxa1e45 TJxa1e45 0
theorem nmJxa1e45 : ∀ a, a < 0 → ∀ b, b < 0 → a ≠ b → (TJxa1e45 a).2.1 ≠ (TJxa1e45 b).2.1 := by decide +kernel
theorem tyJxa1e45_ok : ∀ k, k < 0 → parseFieldDescriptor (TJxa1e45 k).2.2.1 = some (tyJxa1e45 k) := by decide +kernel
abbrev cJxa1e45_init_da8c8 : ByteArray := prog_33_method_1_code
def yJxa1e45_init_da8c8 : MethodName := ⟨RJxa1e45, "<init>", "()V"⟩
def RJxc12de : String := "java/util/AbstractList"
def TJxc12de : u_T := fun k => match k with
  | _ => ("", "", "", false)
def tyJxc12de : Nat → FieldType := fun k => match k with
  | _ => .int
abbrev wsJxc12de0 : List Cond := u_ws RJxc12de TJxc12de 0
theorem nmJxc12de : ∀ a, a < 0 → ∀ b, b < 0 → a ≠ b → (TJxc12de a).2.1 ≠ (TJxc12de b).2.1 := by decide +kernel
theorem tyJxc12de_ok : ∀ k, k < 0 → parseFieldDescriptor (TJxc12de k).2.2.1 = some (tyJxc12de k) := by decide +kernel
abbrev cJxc12de_init_da8c8 : ByteArray := prog_34_method_1_code
def yJxc12de_init_da8c8 : MethodName := ⟨RJxc12de, "<init>", "()V"⟩
def RJx35411 : String := "java/util/ArrayList$Itr"
def TJx35411 : u_T := fun k => match k with
  | 0 => ("java/util/ArrayList$Itr", "cursor", "I", false)
  | 1 => ("java/util/ArrayList$Itr", "lastRet", "I", false)
  | 2 => ("java/util/ArrayList$Itr", "expectedModCount", "I", false)
  | _ => ("java/util/ArrayList$Itr", "this$0", "Ljava/util/ArrayList;", true)
def tyJx35411 : Nat → FieldType := fun k => match k with
  | 0 => .int
  | 1 => .int
  | 2 => .int
  | _ => .object "java/util/ArrayList"
abbrev wsJx354110 : List Cond := u_ws RJx35411 TJx35411 4
theorem nmJx35411 : ∀ a, a < 4 → ∀ b, b < 4 → a ≠ b → (TJx35411 a).2.1 ≠ (TJx35411 b).2.1 := by decide +kernel
theorem tyJx35411_ok : ∀ k, k < 4 → parseFieldDescriptor (TJx35411 k).2.2.1 = some (tyJx35411 k) := by decide +kernel
abbrev cJx35411_init_45d68 : ByteArray := prog_36_method_1_code
def yJx35411_init_45d68 : MethodName := ⟨RJx35411, "<init>", "(Ljava/util/ArrayList;)V"⟩
abbrev cJx35411_hasNext_aae02 : ByteArray := prog_36_method_2_code
def yJx35411_hasNext_aae02 : MethodName := ⟨RJx35411, "hasNext", "()Z"⟩
abbrev cJx35411_next_0502b : ByteArray := prog_36_method_3_code
def yJx35411_next_0502b : MethodName := ⟨RJx35411, "next", "()Ljava/lang/Object;"⟩
abbrev cJx35411_checkForComodification_da8c8 : ByteArray := prog_36_method_6_code
def yJx35411_checkForComodification_da8c8 : MethodName := ⟨RJx35411, "checkForComodification", "()V"⟩
def RJx4a65c : String := "java/util/ArrayList"
def TJx4a65c : u_T := fun k => match k with
  | 0 => ("java/util/AbstractList", "modCount", "I", false)
  | 1 => ("java/util/ArrayList", "elementData", "[Ljava/lang/Object;", false)
  | _ => ("java/util/ArrayList", "size", "I", false)
def tyJx4a65c : Nat → FieldType := fun k => match k with
  | 0 => .int
  | 1 => .array (.object "java/lang/Object")
  | _ => .int
abbrev wsJx4a65c0 : List Cond := u_ws RJx4a65c TJx4a65c 3
theorem nmJx4a65c : ∀ a, a < 3 → ∀ b, b < 3 → a ≠ b → (TJx4a65c a).2.1 ≠ (TJx4a65c b).2.1 := by decide +kernel
theorem tyJx4a65c_ok : ∀ k, k < 3 → parseFieldDescriptor (TJx4a65c k).2.2.1 = some (tyJx4a65c k) := by decide +kernel
abbrev cJx4a65c_init_da8c8 : ByteArray := prog_35_method_2_code
def yJx4a65c_init_da8c8 : MethodName := ⟨RJx4a65c, "<init>", "()V"⟩
abbrev cJx4a65c_grow_92f84 : ByteArray := prog_35_method_6_code
def yJx4a65c_grow_92f84 : MethodName := ⟨RJx4a65c, "grow", "(I)[Ljava/lang/Object;"⟩
abbrev cJx4a65c_grow_d5877 : ByteArray := prog_35_method_7_code
def yJx4a65c_grow_d5877 : MethodName := ⟨RJx4a65c, "grow", "()[Ljava/lang/Object;"⟩
abbrev cJx4a65c_size_8abf5 : ByteArray := prog_35_method_8_code
def yJx4a65c_size_8abf5 : MethodName := ⟨RJx4a65c, "size", "()I"⟩
abbrev cJx4a65c_elementData_915e3 : ByteArray := prog_35_method_18_code
def yJx4a65c_elementData_915e3 : MethodName := ⟨RJx4a65c, "elementData", "(I)Ljava/lang/Object;"⟩
abbrev cJx4a65c_get_915e3 : ByteArray := prog_35_method_20_code
def yJx4a65c_get_915e3 : MethodName := ⟨RJx4a65c, "get", "(I)Ljava/lang/Object;"⟩
abbrev cJx4a65c_add_72be8 : ByteArray := prog_35_method_24_code
def yJx4a65c_add_72be8 : MethodName := ⟨RJx4a65c, "add", "(Ljava/lang/Object;[Ljava/lang/Object;I)V"⟩
abbrev cJx4a65c_add_9ea2d : ByteArray := prog_35_method_25_code
def yJx4a65c_add_9ea2d : MethodName := ⟨RJx4a65c, "add", "(Ljava/lang/Object;)Z"⟩
abbrev cJx4a65c_clear_da8c8 : ByteArray := prog_35_method_40_code
def yJx4a65c_clear_da8c8 : MethodName := ⟨RJx4a65c, "clear", "()V"⟩
abbrev cJx4a65c_iterator_32c93 : ByteArray := prog_35_method_55_code
def yJx4a65c_iterator_32c93 : MethodName := ⟨RJx4a65c, "iterator", "()Ljava/util/Iterator;"⟩
def RJ7 : String := "java/util/Arrays"
def TJ7 : u_T := fun k => match k with
  | _ => ("", "", "", false)
def tyJ7 : Nat → FieldType := fun k => match k with
  | _ => .int
abbrev wsJ70 : List Cond := u_ws RJ7 TJ7 0
theorem nmJ7 : ∀ a, a < 0 → ∀ b, b < 0 → a ≠ b → (TJ7 a).2.1 ≠ (TJ7 b).2.1 := by decide +kernel
theorem tyJ7_ok : ∀ k, k < 0 → parseFieldDescriptor (TJ7 k).2.2.1 = some (tyJ7 k) := by decide +kernel
abbrev cJ7_copyOf_1904c : ByteArray := prog_37_method_119_code
def yJ7_copyOf_1904c : MethodName := ⟨RJ7, "copyOf", "([Ljava/lang/Object;I)[Ljava/lang/Object;"⟩
abbrev cJ7_copyOf_6403c : ByteArray := prog_37_method_120_code
def yJ7_copyOf_6403c : MethodName := ⟨RJ7, "copyOf", "([Ljava/lang/Object;ILjava/lang/Class;)[Ljava/lang/Object;"⟩
def RJx5ef63 : String := "java/util/Collection"
def TJx5ef63 : u_T := fun k => match k with
  | _ => ("", "", "", false)
def tyJx5ef63 : Nat → FieldType := fun k => match k with
  | _ => .int
abbrev wsJx5ef630 : List Cond := u_ws RJx5ef63 TJx5ef63 0
theorem nmJx5ef63 : ∀ a, a < 0 → ∀ b, b < 0 → a ≠ b → (TJx5ef63 a).2.1 ≠ (TJx5ef63 b).2.1 := by decide +kernel
theorem tyJx5ef63_ok : ∀ k, k < 0 → parseFieldDescriptor (TJx5ef63 k).2.2.1 = some (tyJx5ef63 k) := by decide +kernel
def RJx4d0d8 : String := "java/util/Iterator"
def TJx4d0d8 : u_T := fun k => match k with
  | _ => ("", "", "", false)
def tyJx4d0d8 : Nat → FieldType := fun k => match k with
  | _ => .int
abbrev wsJx4d0d80 : List Cond := u_ws RJx4d0d8 TJx4d0d8 0
theorem nmJx4d0d8 : ∀ a, a < 0 → ∀ b, b < 0 → a ≠ b → (TJx4d0d8 a).2.1 ≠ (TJx4d0d8 b).2.1 := by decide +kernel
theorem tyJx4d0d8_ok : ∀ k, k < 0 → parseFieldDescriptor (TJx4d0d8 k).2.2.1 = some (tyJx4d0d8 k) := by decide +kernel
def RJxbd725 : String := "java/util/List"
def TJxbd725 : u_T := fun k => match k with
  | _ => ("", "", "", false)
def tyJxbd725 : Nat → FieldType := fun k => match k with
  | _ => .int
abbrev wsJxbd7250 : List Cond := u_ws RJxbd725 TJxbd725 0
theorem nmJxbd725 : ∀ a, a < 0 → ∀ b, b < 0 → a ≠ b → (TJxbd725 a).2.1 ≠ (TJxbd725 b).2.1 := by decide +kernel
theorem tyJxbd725_ok : ∀ k, k < 0 → parseFieldDescriptor (TJxbd725 k).2.2.1 = some (tyJxbd725 k) := by decide +kernel
def RJ15 : String := "java/util/Objects"
def TJ15 : u_T := fun k => match k with
  | _ => ("", "", "", false)
def tyJ15 : Nat → FieldType := fun k => match k with
  | _ => .int
abbrev wsJ150 : List Cond := u_ws RJ15 TJ15 0
theorem nmJ15 : ∀ a, a < 0 → ∀ b, b < 0 → a ≠ b → (TJ15 a).2.1 ≠ (TJ15 b).2.1 := by decide +kernel
theorem tyJ15_ok : ∀ k, k < 0 → parseFieldDescriptor (TJ15 k).2.2.1 = some (tyJ15 k) := by decide +kernel
abbrev cJ15_checkIndex_7cf53 : ByteArray := prog_41_method_17_code
def yJ15_checkIndex_7cf53 : MethodName := ⟨RJ15, "checkIndex", "(II)I"⟩
def RJxf0a74 : String := "java/util/RandomAccess"
def TJxf0a74 : u_T := fun k => match k with
  | _ => ("", "", "", false)
def tyJxf0a74 : Nat → FieldType := fun k => match k with
  | _ => .int
abbrev wsJxf0a740 : List Cond := u_ws RJxf0a74 TJxf0a74 0
theorem nmJxf0a74 : ∀ a, a < 0 → ∀ b, b < 0 → a ≠ b → (TJxf0a74 a).2.1 ≠ (TJxf0a74 b).2.1 := by decide +kernel
theorem tyJxf0a74_ok : ∀ k, k < 0 → parseFieldDescriptor (TJxf0a74 k).2.2.1 = some (tyJxf0a74 k) := by decide +kernel
def RJxa66e6 : String := "java/util/SequencedCollection"
def TJxa66e6 : u_T := fun k => match k with
  | _ => ("", "", "", false)
def tyJxa66e6 : Nat → FieldType := fun k => match k with
  | _ => .int
abbrev wsJxa66e60 : List Cond := u_ws RJxa66e6 TJxa66e6 0
theorem nmJxa66e6 : ∀ a, a < 0 → ∀ b, b < 0 → a ≠ b → (TJxa66e6 a).2.1 ≠ (TJxa66e6 b).2.1 := by decide +kernel
theorem tyJxa66e6_ok : ∀ k, k < 0 → parseFieldDescriptor (TJxa66e6 k).2.2.1 = some (tyJxa66e6 k) := by decide +kernel
def RJ8 : String := "jdk/internal/util/ArraysSupport"
def TJ8 : u_T := fun k => match k with
  | _ => ("", "", "", false)
def tyJ8 : Nat → FieldType := fun k => match k with
  | _ => .int
abbrev wsJ80 : List Cond := u_ws RJ8 TJ8 0
theorem nmJ8 : ∀ a, a < 0 → ∀ b, b < 0 → a ≠ b → (TJ8 a).2.1 ≠ (TJ8 b).2.1 := by decide +kernel
theorem tyJ8_ok : ∀ k, k < 0 → parseFieldDescriptor (TJ8 k).2.2.1 = some (tyJ8 k) := by decide +kernel
abbrev cJ8_newLength_cabcc : ByteArray := prog_44_method_27_code
def yJ8_newLength_cabcc : MethodName := ⟨RJ8, "newLength", "(III)I"⟩
abbrev cJ8_hugeLength_7cf53 : ByteArray := prog_44_method_28_code
def yJ8_hugeLength_7cf53 : MethodName := ⟨RJ8, "hugeLength", "(II)I"⟩
def RJ3 : String := "jdk/internal/util/Preconditions"
def TJ3 : u_T := fun k => match k with
  | _ => ("", "", "", false)
def tyJ3 : Nat → FieldType := fun k => match k with
  | _ => .int
abbrev wsJ30 : List Cond := u_ws RJ3 TJ3 0
theorem nmJ3 : ∀ a, a < 0 → ∀ b, b < 0 → a ≠ b → (TJ3 a).2.1 ≠ (TJ3 b).2.1 := by decide +kernel
theorem tyJ3_ok : ∀ k, k < 0 → parseFieldDescriptor (TJ3 k).2.2.1 = some (tyJ3 k) := by decide +kernel
abbrev cJ3_checkIndex_8e157 : ByteArray := prog_45_method_11_code
def yJ3_checkIndex_8e157 : MethodName := ⟨RJ3, "checkIndex", "(IILjava/util/function/BiFunction;)I"⟩
def RL : String := "BijectoryLaw"
abbrev cL_size : ByteArray := method_3_code
def yL_size : MethodName := ⟨RL, "size", "(LBijectory;I[J)I"⟩
abbrev cL_map : ByteArray := method_4_code
def yL_map : MethodName := ⟨RL, "map", "(LBijectory;I[J)I"⟩
abbrev cL_then : ByteArray := method_5_code
def yL_then : MethodName := ⟨RL, "then", "(LBijectory;II[J)I"⟩
abbrev cL_walker : ByteArray := method_6_code
def yL_walker : MethodName := ⟨RL, "walker", "(LBijectory;II[J)I"⟩
abbrev cL_claim : ByteArray := method_7_code
def yL_claim : MethodName := ⟨RL, "claim", "(LBijectory;III[J)I"⟩
abbrev cL_send : ByteArray := method_8_code
def yL_send : MethodName := ⟨RL, "send", "(LBijectory;III[J)I"⟩
abbrev cL_trial : ByteArray := method_9_code
def yL_trial : MethodName := ⟨RL, "trial", "(LBijectory;I[J)I"⟩
abbrev cL_objects : ByteArray := method_10_code
def yL_objects : MethodName := ⟨RL, "objects", "(LBijectory;I[J)I"⟩
abbrev cL_unrank : ByteArray := method_11_code
def yL_unrank : MethodName := ⟨RL, "unrank", "(LBijectory;II[J)I"⟩
abbrev cL_rank : ByteArray := method_12_code
def yL_rank : MethodName := ⟨RL, "rank", "(LBijectory;II[J)I"⟩
abbrev cL_statistic : ByteArray := method_13_code
def yL_statistic : MethodName := ⟨RL, "statistic", "(LBijectory;III[J)I"⟩
abbrev cL_spread : ByteArray := method_14_code
def yL_spread : MethodName := ⟨RL, "spread", "(LBijectory;III[J)I"⟩
abbrev cL_signs : ByteArray := method_15_code
def yL_signs : MethodName := ⟨RL, "signs", "(LBijectory;II[J)I"⟩
abbrev cL_alike : ByteArray := method_16_code
def yL_alike : MethodName := ⟨RL, "alike", "(LBijectory;IIII[J)I"⟩
abbrev cL_contains : ByteArray := method_17_code
def yL_contains : MethodName := ⟨RL, "contains", "(LBijectory;II[J)I"⟩
abbrev cL_sorted : ByteArray := method_18_code
def yL_sorted : MethodName := ⟨RL, "sorted", "(LBijectory;I[J)I"⟩
abbrev cL_ofMap : ByteArray := method_19_code
def yL_ofMap : MethodName := ⟨RL, "ofMap", "(LBijectory;II[J)I"⟩
abbrev cL_image : ByteArray := method_20_code
def yL_image : MethodName := ⟨RL, "image", "(LBijectory;II[J)I"⟩
abbrev cL_source : ByteArray := method_21_code
def yL_source : MethodName := ⟨RL, "source", "(LBijectory;II[J)I"⟩
abbrev cL_rounds : ByteArray := method_22_code
def yL_rounds : MethodName := ⟨RL, "rounds", "(LBijectory;I[J)I"⟩
abbrev cL_period : ByteArray := method_23_code
def yL_period : MethodName := ⟨RL, "period", "(LBijectory;I[J)I"⟩
abbrev cL_against : ByteArray := method_24_code
def yL_against : MethodName := ⟨RL, "against", "(LBijectory;III[J)I"⟩
abbrev cL_cancels : ByteArray := method_25_code
def yL_cancels : MethodName := ⟨RL, "cancels", "(LBijectory;II[J)I"⟩
abbrev cL_ofWalker : ByteArray := method_26_code
def yL_ofWalker : MethodName := ⟨RL, "ofWalker", "(LBijectory;II[J)I"⟩
abbrev cL_ofClaim : ByteArray := method_27_code
def yL_ofClaim : MethodName := ⟨RL, "ofClaim", "(LBijectory;II[J)I"⟩
abbrev cL_many : ByteArray := method_28_code
def yL_many : MethodName := ⟨RL, "many", "(LBijectory;I[J)I"⟩
abbrev cL_mean : ByteArray := method_29_code
def yL_mean : MethodName := ⟨RL, "mean", "(LBijectory;II[D)I"⟩
abbrev cL_law : ByteArray := code
def yL_law : MethodName := ⟨RL, "law", "([I)Z"⟩
end
section
theorem dX5_at_0 : decode cX5_at 0 = .ok (.aload_n 0, 1) := by decide +kernel
theorem dX5_at_1 : decode cX5_at 1 = .ok (.ifnull 19, 3) := by decide +kernel
theorem dX5_at_4 : decode cX5_at 4 = .ok (.iload_n 1, 1) := by decide +kernel
theorem dX5_at_5 : decode cX5_at 5 = .ok (.ifCond .lt 15, 3) := by decide +kernel
theorem dX5_at_8 : decode cX5_at 8 = .ok (.iload_n 1, 1) := by decide +kernel
theorem dX5_at_9 : decode cX5_at 9 = .ok (.aload_n 0, 1) := by decide +kernel
theorem dX5_at_10 : decode cX5_at 10 = .ok (.arraylength, 1) := by decide +kernel
theorem dX5_at_11 : decode cX5_at 11 = .ok (.if_icmp .ge 9, 3) := by decide +kernel
theorem dX5_at_14 : decode cX5_at 14 = .ok (.aload_n 0, 1) := by decide +kernel
theorem dX5_at_15 : decode cX5_at 15 = .ok (.iload_n 1, 1) := by decide +kernel
theorem dX5_at_16 : decode cX5_at 16 = .ok (.iaload, 1) := by decide +kernel
theorem dX5_at_17 : decode cX5_at 17 = .ok (.goto 4, 3) := by decide +kernel
theorem dX5_at_20 : decode cX5_at 20 = .ok (.iconst 0, 1) := by decide +kernel
theorem dX5_at_21 : decode cX5_at 21 = .ok (.ireturn, 1) := by decide +kernel
theorem dX5_at__0 : decode cX5_at_ 0 = .ok (.aload_n 0, 1) := by decide +kernel
theorem dX5_at__1 : decode cX5_at_ 1 = .ok (.ifnull 19, 3) := by decide +kernel
theorem dX5_at__4 : decode cX5_at_ 4 = .ok (.iload_n 1, 1) := by decide +kernel
theorem dX5_at__5 : decode cX5_at_ 5 = .ok (.ifCond .lt 15, 3) := by decide +kernel
theorem dX5_at__8 : decode cX5_at_ 8 = .ok (.iload_n 1, 1) := by decide +kernel
theorem dX5_at__9 : decode cX5_at_ 9 = .ok (.aload_n 0, 1) := by decide +kernel
theorem dX5_at__10 : decode cX5_at_ 10 = .ok (.arraylength, 1) := by decide +kernel
theorem dX5_at__11 : decode cX5_at_ 11 = .ok (.if_icmp .ge 9, 3) := by decide +kernel
theorem dX5_at__14 : decode cX5_at_ 14 = .ok (.aload_n 0, 1) := by decide +kernel
theorem dX5_at__15 : decode cX5_at_ 15 = .ok (.iload_n 1, 1) := by decide +kernel
theorem dX5_at__16 : decode cX5_at_ 16 = .ok (.aaload, 1) := by decide +kernel
theorem dX5_at__17 : decode cX5_at_ 17 = .ok (.goto 4, 3) := by decide +kernel
theorem dX5_at__20 : decode cX5_at_ 20 = .ok (.aconst_null, 1) := by decide +kernel
theorem dX5_at__21 : decode cX5_at_ 21 = .ok (.astore_n 3, 1) := by decide +kernel
theorem dX5_at__22 : decode cX5_at_ 22 = .ok (.aload_n 3, 1) := by decide +kernel
theorem dX5_at__23 : decode cX5_at_ 23 = .ok (.ifnull 19, 3) := by decide +kernel
theorem dX5_at__26 : decode cX5_at_ 26 = .ok (.iload_n 2, 1) := by decide +kernel
theorem dX5_at__27 : decode cX5_at_ 27 = .ok (.ifCond .lt 15, 3) := by decide +kernel
theorem dX5_at__30 : decode cX5_at_ 30 = .ok (.iload_n 2, 1) := by decide +kernel
theorem dX5_at__31 : decode cX5_at_ 31 = .ok (.aload_n 3, 1) := by decide +kernel
theorem dX5_at__32 : decode cX5_at_ 32 = .ok (.arraylength, 1) := by decide +kernel
theorem dX5_at__33 : decode cX5_at_ 33 = .ok (.if_icmp .ge 9, 3) := by decide +kernel
theorem dX5_at__36 : decode cX5_at_ 36 = .ok (.aload_n 3, 1) := by decide +kernel
theorem dX5_at__37 : decode cX5_at_ 37 = .ok (.iload_n 2, 1) := by decide +kernel
theorem dX5_at__38 : decode cX5_at_ 38 = .ok (.iaload, 1) := by decide +kernel
theorem dX5_at__39 : decode cX5_at_ 39 = .ok (.goto 4, 3) := by decide +kernel
theorem dX5_at__42 : decode cX5_at_ 42 = .ok (.iconst 0, 1) := by decide +kernel
theorem dX5_at__43 : decode cX5_at_ 43 = .ok (.ireturn, 1) := by decide +kernel
theorem dX5_put_0 : decode cX5_put 0 = .ok (.aload_n 0, 1) := by decide +kernel
theorem dX5_put_1 : decode cX5_put 1 = .ok (.ifnull 17, 3) := by decide +kernel
theorem dX5_put_4 : decode cX5_put 4 = .ok (.iload_n 1, 1) := by decide +kernel
theorem dX5_put_5 : decode cX5_put 5 = .ok (.ifCond .lt 13, 3) := by decide +kernel
theorem dX5_put_8 : decode cX5_put 8 = .ok (.iload_n 1, 1) := by decide +kernel
theorem dX5_put_9 : decode cX5_put 9 = .ok (.aload_n 0, 1) := by decide +kernel
theorem dX5_put_10 : decode cX5_put 10 = .ok (.arraylength, 1) := by decide +kernel
theorem dX5_put_11 : decode cX5_put 11 = .ok (.if_icmp .ge 7, 3) := by decide +kernel
theorem dX5_put_14 : decode cX5_put 14 = .ok (.aload_n 0, 1) := by decide +kernel
theorem dX5_put_15 : decode cX5_put 15 = .ok (.iload_n 1, 1) := by decide +kernel
theorem dX5_put_16 : decode cX5_put 16 = .ok (.iload_n 2, 1) := by decide +kernel
theorem dX5_put_17 : decode cX5_put 17 = .ok (.iastore, 1) := by decide +kernel
theorem dX5_put_18 : decode cX5_put 18 = .ok (.return_, 1) := by decide +kernel
theorem dX5_put__0 : decode cX5_put_ 0 = .ok (.aload_n 0, 1) := by decide +kernel
theorem dX5_put__1 : decode cX5_put_ 1 = .ok (.ifnull 19, 3) := by decide +kernel
theorem dX5_put__4 : decode cX5_put_ 4 = .ok (.iload_n 1, 1) := by decide +kernel
theorem dX5_put__5 : decode cX5_put_ 5 = .ok (.ifCond .lt 15, 3) := by decide +kernel
theorem dX5_put__8 : decode cX5_put_ 8 = .ok (.iload_n 1, 1) := by decide +kernel
theorem dX5_put__9 : decode cX5_put_ 9 = .ok (.aload_n 0, 1) := by decide +kernel
theorem dX5_put__10 : decode cX5_put_ 10 = .ok (.arraylength, 1) := by decide +kernel
theorem dX5_put__11 : decode cX5_put_ 11 = .ok (.if_icmp .ge 9, 3) := by decide +kernel
theorem dX5_put__14 : decode cX5_put_ 14 = .ok (.aload_n 0, 1) := by decide +kernel
theorem dX5_put__15 : decode cX5_put_ 15 = .ok (.iload_n 1, 1) := by decide +kernel
theorem dX5_put__16 : decode cX5_put_ 16 = .ok (.aaload, 1) := by decide +kernel
theorem dX5_put__17 : decode cX5_put_ 17 = .ok (.goto 4, 3) := by decide +kernel
theorem dX5_put__20 : decode cX5_put_ 20 = .ok (.aconst_null, 1) := by decide +kernel
theorem dX5_put__21 : decode cX5_put_ 21 = .ok (.astore 4, 2) := by decide +kernel
theorem dX5_put__23 : decode cX5_put_ 23 = .ok (.aload 4, 2) := by decide +kernel
theorem dX5_put__25 : decode cX5_put_ 25 = .ok (.ifnull 19, 3) := by decide +kernel
theorem dX5_put__28 : decode cX5_put_ 28 = .ok (.iload_n 2, 1) := by decide +kernel
theorem dX5_put__29 : decode cX5_put_ 29 = .ok (.ifCond .lt 15, 3) := by decide +kernel
theorem dX5_put__32 : decode cX5_put_ 32 = .ok (.iload_n 2, 1) := by decide +kernel
theorem dX5_put__33 : decode cX5_put_ 33 = .ok (.aload 4, 2) := by decide +kernel
theorem dX5_put__35 : decode cX5_put_ 35 = .ok (.arraylength, 1) := by decide +kernel
theorem dX5_put__36 : decode cX5_put_ 36 = .ok (.if_icmp .ge 8, 3) := by decide +kernel
theorem dX5_put__39 : decode cX5_put_ 39 = .ok (.aload 4, 2) := by decide +kernel
theorem dX5_put__41 : decode cX5_put_ 41 = .ok (.iload_n 2, 1) := by decide +kernel
theorem dX5_put__42 : decode cX5_put_ 42 = .ok (.iload_n 3, 1) := by decide +kernel
theorem dX5_put__43 : decode cX5_put_ 43 = .ok (.iastore, 1) := by decide +kernel
theorem dX5_put__44 : decode cX5_put_ 44 = .ok (.return_, 1) := by decide +kernel
theorem dX3_isPath_0 : decode cX3_isPath 0 = .ok (.iconst 0, 1) := by decide +kernel
theorem dX3_isPath_1 : decode cX3_isPath 1 = .ok (.istore_n 2, 1) := by decide +kernel
theorem dX3_isPath_2 : decode cX3_isPath 2 = .ok (.iconst 2, 1) := by decide +kernel
theorem dX3_isPath_3 : decode cX3_isPath 3 = .ok (.iload_n 1, 1) := by decide +kernel
theorem dX3_isPath_4 : decode cX3_isPath 4 = .ok (.imul, 1) := by decide +kernel
theorem dX3_isPath_5 : decode cX3_isPath 5 = .ok (.iconst 1, 1) := by decide +kernel
theorem dX3_isPath_6 : decode cX3_isPath 6 = .ok (.isub, 1) := by decide +kernel
theorem dX3_isPath_7 : decode cX3_isPath 7 = .ok (.istore_n 3, 1) := by decide +kernel
theorem dX3_isPath_8 : decode cX3_isPath 8 = .ok (.iload_n 3, 1) := by decide +kernel
theorem dX3_isPath_9 : decode cX3_isPath 9 = .ok (.ifCond .lt 23, 3) := by decide +kernel
theorem dX3_isPath_12 : decode cX3_isPath 12 = .ok (.iload_n 2, 1) := by decide +kernel
theorem dX3_isPath_13 : decode cX3_isPath 13 = .ok (.iload_n 0, 1) := by decide +kernel
theorem dX3_isPath_14 : decode cX3_isPath 14 = .ok (.iload_n 3, 1) := by decide +kernel
theorem dX3_isPath_15 : decode cX3_isPath 15 = .ok (.invokestatic 9, 3) := by decide +kernel
theorem dX3_isPath_18 : decode cX3_isPath 18 = .ok (.iadd, 1) := by decide +kernel
theorem dX3_isPath_19 : decode cX3_isPath 19 = .ok (.istore_n 2, 1) := by decide +kernel
theorem dX3_isPath_20 : decode cX3_isPath 20 = .ok (.iload_n 2, 1) := by decide +kernel
theorem dX3_isPath_21 : decode cX3_isPath 21 = .ok (.ifCond .ge 5, 3) := by decide +kernel
theorem dX3_isPath_24 : decode cX3_isPath 24 = .ok (.iconst 0, 1) := by decide +kernel
theorem dX3_isPath_25 : decode cX3_isPath 25 = .ok (.ireturn, 1) := by decide +kernel
theorem dX3_isPath_26 : decode cX3_isPath 26 = .ok (.iinc 3 (-1), 3) := by decide +kernel
theorem dX3_isPath_29 : decode cX3_isPath 29 = .ok (.goto (-21), 3) := by decide +kernel
theorem dX3_isPath_32 : decode cX3_isPath 32 = .ok (.iload_n 2, 1) := by decide +kernel
theorem dX3_isPath_33 : decode cX3_isPath 33 = .ok (.ifCond .ne 7, 3) := by decide +kernel
theorem dX3_isPath_36 : decode cX3_isPath 36 = .ok (.iconst 1, 1) := by decide +kernel
theorem dX3_isPath_37 : decode cX3_isPath 37 = .ok (.goto 4, 3) := by decide +kernel
theorem dX3_isPath_40 : decode cX3_isPath 40 = .ok (.iconst 0, 1) := by decide +kernel
theorem dX3_isPath_41 : decode cX3_isPath 41 = .ok (.ireturn, 1) := by decide +kernel
theorem dX3_isUp_0 : decode cX3_isUp 0 = .ok (.iload_n 0, 1) := by decide +kernel
theorem dX3_isUp_1 : decode cX3_isUp 1 = .ok (.iload_n 1, 1) := by decide +kernel
theorem dX3_isUp_2 : decode cX3_isUp 2 = .ok (.ishr, 1) := by decide +kernel
theorem dX3_isUp_3 : decode cX3_isUp 3 = .ok (.iconst 1, 1) := by decide +kernel
theorem dX3_isUp_4 : decode cX3_isUp 4 = .ok (.iand, 1) := by decide +kernel
theorem dX3_isUp_5 : decode cX3_isUp 5 = .ok (.iconst 1, 1) := by decide +kernel
theorem dX3_isUp_6 : decode cX3_isUp 6 = .ok (.if_icmp .ne 7, 3) := by decide +kernel
theorem dX3_isUp_9 : decode cX3_isUp 9 = .ok (.iconst 1, 1) := by decide +kernel
theorem dX3_isUp_10 : decode cX3_isUp 10 = .ok (.goto 4, 3) := by decide +kernel
theorem dX3_isUp_13 : decode cX3_isUp 13 = .ok (.iconst 0, 1) := by decide +kernel
theorem dX3_isUp_14 : decode cX3_isUp 14 = .ok (.ireturn, 1) := by decide +kernel
theorem dX3_rise_0 : decode cX3_rise 0 = .ok (.iconst 2, 1) := by decide +kernel
theorem dX3_rise_1 : decode cX3_rise 1 = .ok (.iload_n 0, 1) := by decide +kernel
theorem dX3_rise_2 : decode cX3_rise 2 = .ok (.iload_n 1, 1) := by decide +kernel
theorem dX3_rise_3 : decode cX3_rise 3 = .ok (.ishr, 1) := by decide +kernel
theorem dX3_rise_4 : decode cX3_rise 4 = .ok (.iconst 1, 1) := by decide +kernel
theorem dX3_rise_5 : decode cX3_rise 5 = .ok (.iand, 1) := by decide +kernel
theorem dX3_rise_6 : decode cX3_rise 6 = .ok (.imul, 1) := by decide +kernel
theorem dX3_rise_7 : decode cX3_rise 7 = .ok (.iconst 1, 1) := by decide +kernel
theorem dX3_rise_8 : decode cX3_rise 8 = .ok (.isub, 1) := by decide +kernel
theorem dX3_rise_9 : decode cX3_rise 9 = .ok (.ireturn, 1) := by decide +kernel
theorem dX3_part_0 : decode cX3_part 0 = .ok (.iload_n 0, 1) := by decide +kernel
theorem dX3_part_1 : decode cX3_part 1 = .ok (.iload_n 1, 1) := by decide +kernel
theorem dX3_part_2 : decode cX3_part 2 = .ok (.ishr, 1) := by decide +kernel
theorem dX3_part_3 : decode cX3_part 3 = .ok (.iconst 1, 1) := by decide +kernel
theorem dX3_part_4 : decode cX3_part 4 = .ok (.iload_n 2, 1) := by decide +kernel
theorem dX3_part_5 : decode cX3_part 5 = .ok (.ishl, 1) := by decide +kernel
theorem dX3_part_6 : decode cX3_part 6 = .ok (.iconst 1, 1) := by decide +kernel
theorem dX3_part_7 : decode cX3_part 7 = .ok (.isub, 1) := by decide +kernel
theorem dX3_part_8 : decode cX3_part 8 = .ok (.iand, 1) := by decide +kernel
theorem dX3_part_9 : decode cX3_part 9 = .ok (.ireturn, 1) := by decide +kernel
theorem dX3_pairsOfFirst_0 : decode cX3_pairsOfFirst 0 = .ok (.iconst 0, 1) := by decide +kernel
theorem dX3_pairsOfFirst_1 : decode cX3_pairsOfFirst 1 = .ok (.istore_n 2, 1) := by decide +kernel
theorem dX3_pairsOfFirst_2 : decode cX3_pairsOfFirst 2 = .ok (.iconst 2, 1) := by decide +kernel
theorem dX3_pairsOfFirst_3 : decode cX3_pairsOfFirst 3 = .ok (.iload_n 1, 1) := by decide +kernel
theorem dX3_pairsOfFirst_4 : decode cX3_pairsOfFirst 4 = .ok (.imul, 1) := by decide +kernel
theorem dX3_pairsOfFirst_5 : decode cX3_pairsOfFirst 5 = .ok (.iconst 1, 1) := by decide +kernel
theorem dX3_pairsOfFirst_6 : decode cX3_pairsOfFirst 6 = .ok (.isub, 1) := by decide +kernel
theorem dX3_pairsOfFirst_7 : decode cX3_pairsOfFirst 7 = .ok (.istore_n 3, 1) := by decide +kernel
theorem dX3_pairsOfFirst_8 : decode cX3_pairsOfFirst 8 = .ok (.iload_n 3, 1) := by decide +kernel
theorem dX3_pairsOfFirst_9 : decode cX3_pairsOfFirst 9 = .ok (.ifCond .lt 29, 3) := by decide +kernel
theorem dX3_pairsOfFirst_12 : decode cX3_pairsOfFirst 12 = .ok (.iload_n 2, 1) := by decide +kernel
theorem dX3_pairsOfFirst_13 : decode cX3_pairsOfFirst 13 = .ok (.iload_n 0, 1) := by decide +kernel
theorem dX3_pairsOfFirst_14 : decode cX3_pairsOfFirst 14 = .ok (.iload_n 3, 1) := by decide +kernel
theorem dX3_pairsOfFirst_15 : decode cX3_pairsOfFirst 15 = .ok (.invokestatic 9, 3) := by decide +kernel
theorem dX3_pairsOfFirst_18 : decode cX3_pairsOfFirst 18 = .ok (.iadd, 1) := by decide +kernel
theorem dX3_pairsOfFirst_19 : decode cX3_pairsOfFirst 19 = .ok (.istore_n 2, 1) := by decide +kernel
theorem dX3_pairsOfFirst_20 : decode cX3_pairsOfFirst 20 = .ok (.iload_n 2, 1) := by decide +kernel
theorem dX3_pairsOfFirst_21 : decode cX3_pairsOfFirst 21 = .ok (.ifCond .ne 11, 3) := by decide +kernel
theorem dX3_pairsOfFirst_24 : decode cX3_pairsOfFirst 24 = .ok (.iload_n 1, 1) := by decide +kernel
theorem dX3_pairsOfFirst_25 : decode cX3_pairsOfFirst 25 = .ok (.iconst 1, 1) := by decide +kernel
theorem dX3_pairsOfFirst_26 : decode cX3_pairsOfFirst 26 = .ok (.isub, 1) := by decide +kernel
theorem dX3_pairsOfFirst_27 : decode cX3_pairsOfFirst 27 = .ok (.iload_n 3, 1) := by decide +kernel
theorem dX3_pairsOfFirst_28 : decode cX3_pairsOfFirst 28 = .ok (.iconst 2, 1) := by decide +kernel
theorem dX3_pairsOfFirst_29 : decode cX3_pairsOfFirst 29 = .ok (.idiv, 1) := by decide +kernel
theorem dX3_pairsOfFirst_30 : decode cX3_pairsOfFirst 30 = .ok (.isub, 1) := by decide +kernel
theorem dX3_pairsOfFirst_31 : decode cX3_pairsOfFirst 31 = .ok (.ireturn, 1) := by decide +kernel
theorem dX3_pairsOfFirst_32 : decode cX3_pairsOfFirst 32 = .ok (.iinc 3 (-1), 3) := by decide +kernel
theorem dX3_pairsOfFirst_35 : decode cX3_pairsOfFirst 35 = .ok (.goto (-27), 3) := by decide +kernel
theorem dX3_pairsOfFirst_38 : decode cX3_pairsOfFirst 38 = .ok (.iconst 0, 1) := by decide +kernel
theorem dX3_pairsOfFirst_39 : decode cX3_pairsOfFirst 39 = .ok (.ireturn, 1) := by decide +kernel
theorem dX3_pairsOfLast_0 : decode cX3_pairsOfLast 0 = .ok (.iconst 0, 1) := by decide +kernel
theorem dX3_pairsOfLast_1 : decode cX3_pairsOfLast 1 = .ok (.istore_n 2, 1) := by decide +kernel
theorem dX3_pairsOfLast_2 : decode cX3_pairsOfLast 2 = .ok (.iconst 0, 1) := by decide +kernel
theorem dX3_pairsOfLast_3 : decode cX3_pairsOfLast 3 = .ok (.istore_n 3, 1) := by decide +kernel
theorem dX3_pairsOfLast_4 : decode cX3_pairsOfLast 4 = .ok (.iload_n 3, 1) := by decide +kernel
theorem dX3_pairsOfLast_5 : decode cX3_pairsOfLast 5 = .ok (.iconst 2, 1) := by decide +kernel
theorem dX3_pairsOfLast_6 : decode cX3_pairsOfLast 6 = .ok (.iload_n 1, 1) := by decide +kernel
theorem dX3_pairsOfLast_7 : decode cX3_pairsOfLast 7 = .ok (.imul, 1) := by decide +kernel
theorem dX3_pairsOfLast_8 : decode cX3_pairsOfLast 8 = .ok (.if_icmp .ge 25, 3) := by decide +kernel
theorem dX3_pairsOfLast_11 : decode cX3_pairsOfLast 11 = .ok (.iload_n 2, 1) := by decide +kernel
theorem dX3_pairsOfLast_12 : decode cX3_pairsOfLast 12 = .ok (.iload_n 0, 1) := by decide +kernel
theorem dX3_pairsOfLast_13 : decode cX3_pairsOfLast 13 = .ok (.iload_n 3, 1) := by decide +kernel
theorem dX3_pairsOfLast_14 : decode cX3_pairsOfLast 14 = .ok (.invokestatic 9, 3) := by decide +kernel
theorem dX3_pairsOfLast_17 : decode cX3_pairsOfLast 17 = .ok (.isub, 1) := by decide +kernel
theorem dX3_pairsOfLast_18 : decode cX3_pairsOfLast 18 = .ok (.istore_n 2, 1) := by decide +kernel
theorem dX3_pairsOfLast_19 : decode cX3_pairsOfLast 19 = .ok (.iload_n 2, 1) := by decide +kernel
theorem dX3_pairsOfLast_20 : decode cX3_pairsOfLast 20 = .ok (.ifCond .ne 7, 3) := by decide +kernel
theorem dX3_pairsOfLast_23 : decode cX3_pairsOfLast 23 = .ok (.iload_n 3, 1) := by decide +kernel
theorem dX3_pairsOfLast_24 : decode cX3_pairsOfLast 24 = .ok (.iconst 2, 1) := by decide +kernel
theorem dX3_pairsOfLast_25 : decode cX3_pairsOfLast 25 = .ok (.idiv, 1) := by decide +kernel
theorem dX3_pairsOfLast_26 : decode cX3_pairsOfLast 26 = .ok (.ireturn, 1) := by decide +kernel
theorem dX3_pairsOfLast_27 : decode cX3_pairsOfLast 27 = .ok (.iinc 3 1, 3) := by decide +kernel
theorem dX3_pairsOfLast_30 : decode cX3_pairsOfLast 30 = .ok (.goto (-26), 3) := by decide +kernel
theorem dX3_pairsOfLast_33 : decode cX3_pairsOfLast 33 = .ok (.iconst 0, 1) := by decide +kernel
theorem dX3_pairsOfLast_34 : decode cX3_pairsOfLast 34 = .ok (.ireturn, 1) := by decide +kernel
theorem dX3_graft_0 : decode cX3_graft 0 = .ok (.iload_n 1, 1) := by decide +kernel
theorem dX3_graft_1 : decode cX3_graft 1 = .ok (.iconst 1, 1) := by decide +kernel
theorem dX3_graft_2 : decode cX3_graft 2 = .ok (.if_icmp .lt 9, 3) := by decide +kernel
theorem dX3_graft_5 : decode cX3_graft 5 = .ok (.iload_n 1, 1) := by decide +kernel
theorem dX3_graft_6 : decode cX3_graft 6 = .ok (.bipush 6, 2) := by decide +kernel
theorem dX3_graft_8 : decode cX3_graft 8 = .ok (.if_icmp .le 5, 3) := by decide +kernel
theorem dX3_graft_11 : decode cX3_graft 11 = .ok (.iconst 0, 1) := by decide +kernel
theorem dX3_graft_12 : decode cX3_graft 12 = .ok (.ireturn, 1) := by decide +kernel
theorem dX3_graft_13 : decode cX3_graft 13 = .ok (.iload_n 0, 1) := by decide +kernel
theorem dX3_graft_14 : decode cX3_graft 14 = .ok (.iload_n 1, 1) := by decide +kernel
theorem dX3_graft_15 : decode cX3_graft 15 = .ok (.invokestatic 15, 3) := by decide +kernel
theorem dX3_graft_18 : decode cX3_graft 18 = .ok (.istore_n 2, 1) := by decide +kernel
theorem dX3_graft_19 : decode cX3_graft 19 = .ok (.iload_n 1, 1) := by decide +kernel
theorem dX3_graft_20 : decode cX3_graft 20 = .ok (.iconst 1, 1) := by decide +kernel
theorem dX3_graft_21 : decode cX3_graft 21 = .ok (.isub, 1) := by decide +kernel
theorem dX3_graft_22 : decode cX3_graft 22 = .ok (.iload_n 2, 1) := by decide +kernel
theorem dX3_graft_23 : decode cX3_graft 23 = .ok (.isub, 1) := by decide +kernel
theorem dX3_graft_24 : decode cX3_graft 24 = .ok (.istore_n 3, 1) := by decide +kernel
theorem dX3_graft_25 : decode cX3_graft 25 = .ok (.iload_n 0, 1) := by decide +kernel
theorem dX3_graft_26 : decode cX3_graft 26 = .ok (.iconst 2, 1) := by decide +kernel
theorem dX3_graft_27 : decode cX3_graft 27 = .ok (.iload_n 2, 1) := by decide +kernel
theorem dX3_graft_28 : decode cX3_graft 28 = .ok (.imul, 1) := by decide +kernel
theorem dX3_graft_29 : decode cX3_graft 29 = .ok (.iconst 2, 1) := by decide +kernel
theorem dX3_graft_30 : decode cX3_graft 30 = .ok (.iadd, 1) := by decide +kernel
theorem dX3_graft_31 : decode cX3_graft 31 = .ok (.iconst 2, 1) := by decide +kernel
theorem dX3_graft_32 : decode cX3_graft 32 = .ok (.iload_n 3, 1) := by decide +kernel
theorem dX3_graft_33 : decode cX3_graft 33 = .ok (.imul, 1) := by decide +kernel
theorem dX3_graft_34 : decode cX3_graft 34 = .ok (.invokestatic 18, 3) := by decide +kernel
theorem dX3_graft_37 : decode cX3_graft 37 = .ok (.iload_n 3, 1) := by decide +kernel
theorem dX3_graft_38 : decode cX3_graft 38 = .ok (.invokestatic 22, 3) := by decide +kernel
theorem dX3_graft_41 : decode cX3_graft 41 = .ok (.istore 4, 2) := by decide +kernel
theorem dX3_graft_43 : decode cX3_graft 43 = .ok (.iload_n 0, 1) := by decide +kernel
theorem dX3_graft_44 : decode cX3_graft 44 = .ok (.iconst 1, 1) := by decide +kernel
theorem dX3_graft_45 : decode cX3_graft 45 = .ok (.iconst 2, 1) := by decide +kernel
theorem dX3_graft_46 : decode cX3_graft 46 = .ok (.iload_n 2, 1) := by decide +kernel
theorem dX3_graft_47 : decode cX3_graft 47 = .ok (.imul, 1) := by decide +kernel
theorem dX3_graft_48 : decode cX3_graft 48 = .ok (.invokestatic 18, 3) := by decide +kernel
theorem dX3_graft_51 : decode cX3_graft 51 = .ok (.iload_n 2, 1) := by decide +kernel
theorem dX3_graft_52 : decode cX3_graft 52 = .ok (.invokestatic 22, 3) := by decide +kernel
theorem dX3_graft_55 : decode cX3_graft 55 = .ok (.istore 5, 2) := by decide +kernel
theorem dX3_graft_57 : decode cX3_graft 57 = .ok (.iload 4, 2) := by decide +kernel
theorem dX3_graft_59 : decode cX3_graft 59 = .ok (.iload_n 3, 1) := by decide +kernel
theorem dX3_graft_60 : decode cX3_graft 60 = .ok (.iload 5, 2) := by decide +kernel
theorem dX3_graft_62 : decode cX3_graft 62 = .ok (.iload_n 2, 1) := by decide +kernel
theorem dX3_graft_63 : decode cX3_graft 63 = .ok (.invokestatic 25, 3) := by decide +kernel
theorem dX3_graft_66 : decode cX3_graft 66 = .ok (.ireturn, 1) := by decide +kernel
theorem dX3_backward_0 : decode cX3_backward 0 = .ok (.iconst 0, 1) := by decide +kernel
theorem dX3_backward_1 : decode cX3_backward 1 = .ok (.istore_n 2, 1) := by decide +kernel
theorem dX3_backward_2 : decode cX3_backward 2 = .ok (.iconst 0, 1) := by decide +kernel
theorem dX3_backward_3 : decode cX3_backward 3 = .ok (.istore_n 3, 1) := by decide +kernel
theorem dX3_backward_4 : decode cX3_backward 4 = .ok (.iload_n 3, 1) := by decide +kernel
theorem dX3_backward_5 : decode cX3_backward 5 = .ok (.iconst 2, 1) := by decide +kernel
theorem dX3_backward_6 : decode cX3_backward 6 = .ok (.iload_n 1, 1) := by decide +kernel
theorem dX3_backward_7 : decode cX3_backward 7 = .ok (.imul, 1) := by decide +kernel
theorem dX3_backward_8 : decode cX3_backward 8 = .ok (.if_icmp .ge 27, 3) := by decide +kernel
theorem dX3_backward_11 : decode cX3_backward 11 = .ok (.iload_n 2, 1) := by decide +kernel
theorem dX3_backward_12 : decode cX3_backward 12 = .ok (.iconst 1, 1) := by decide +kernel
theorem dX3_backward_13 : decode cX3_backward 13 = .ok (.ishl, 1) := by decide +kernel
theorem dX3_backward_14 : decode cX3_backward 14 = .ok (.iload_n 0, 1) := by decide +kernel
theorem dX3_backward_15 : decode cX3_backward 15 = .ok (.iload_n 3, 1) := by decide +kernel
theorem dX3_backward_16 : decode cX3_backward 16 = .ok (.invokestatic 31, 3) := by decide +kernel
theorem dX3_backward_19 : decode cX3_backward 19 = .ok (.ifCond .eq 7, 3) := by decide +kernel
theorem dX3_backward_22 : decode cX3_backward 22 = .ok (.iconst 0, 1) := by decide +kernel
theorem dX3_backward_23 : decode cX3_backward 23 = .ok (.goto 4, 3) := by decide +kernel
theorem dX3_backward_26 : decode cX3_backward 26 = .ok (.iconst 1, 1) := by decide +kernel
theorem dX3_backward_27 : decode cX3_backward 27 = .ok (.ior, 1) := by decide +kernel
theorem dX3_backward_28 : decode cX3_backward 28 = .ok (.istore_n 2, 1) := by decide +kernel
theorem dX3_backward_29 : decode cX3_backward 29 = .ok (.iinc 3 1, 3) := by decide +kernel
theorem dX3_backward_32 : decode cX3_backward 32 = .ok (.goto (-28), 3) := by decide +kernel
theorem dX3_backward_35 : decode cX3_backward 35 = .ok (.iload_n 2, 1) := by decide +kernel
theorem dX3_backward_36 : decode cX3_backward 36 = .ok (.ireturn, 1) := by decide +kernel
theorem dX3_roll_0 : decode cX3_roll 0 = .ok (.iload_n 0, 1) := by decide +kernel
theorem dX3_roll_1 : decode cX3_roll 1 = .ok (.iload_n 1, 1) := by decide +kernel
theorem dX3_roll_2 : decode cX3_roll 2 = .ok (.invokestatic 35, 3) := by decide +kernel
theorem dX3_roll_5 : decode cX3_roll 5 = .ok (.istore_n 2, 1) := by decide +kernel
theorem dX3_roll_6 : decode cX3_roll 6 = .ok (.iload_n 1, 1) := by decide +kernel
theorem dX3_roll_7 : decode cX3_roll 7 = .ok (.iconst 1, 1) := by decide +kernel
theorem dX3_roll_8 : decode cX3_roll 8 = .ok (.isub, 1) := by decide +kernel
theorem dX3_roll_9 : decode cX3_roll 9 = .ok (.iload_n 2, 1) := by decide +kernel
theorem dX3_roll_10 : decode cX3_roll 10 = .ok (.isub, 1) := by decide +kernel
theorem dX3_roll_11 : decode cX3_roll 11 = .ok (.istore_n 3, 1) := by decide +kernel
theorem dX3_roll_12 : decode cX3_roll 12 = .ok (.iload_n 0, 1) := by decide +kernel
theorem dX3_roll_13 : decode cX3_roll 13 = .ok (.iconst 2, 1) := by decide +kernel
theorem dX3_roll_14 : decode cX3_roll 14 = .ok (.iload_n 3, 1) := by decide +kernel
theorem dX3_roll_15 : decode cX3_roll 15 = .ok (.imul, 1) := by decide +kernel
theorem dX3_roll_16 : decode cX3_roll 16 = .ok (.iconst 1, 1) := by decide +kernel
theorem dX3_roll_17 : decode cX3_roll 17 = .ok (.iadd, 1) := by decide +kernel
theorem dX3_roll_18 : decode cX3_roll 18 = .ok (.iconst 2, 1) := by decide +kernel
theorem dX3_roll_19 : decode cX3_roll 19 = .ok (.iload_n 2, 1) := by decide +kernel
theorem dX3_roll_20 : decode cX3_roll 20 = .ok (.imul, 1) := by decide +kernel
theorem dX3_roll_21 : decode cX3_roll 21 = .ok (.invokestatic 18, 3) := by decide +kernel
theorem dX3_roll_24 : decode cX3_roll 24 = .ok (.istore 4, 2) := by decide +kernel
theorem dX3_roll_26 : decode cX3_roll 26 = .ok (.iload_n 0, 1) := by decide +kernel
theorem dX3_roll_27 : decode cX3_roll 27 = .ok (.iconst 0, 1) := by decide +kernel
theorem dX3_roll_28 : decode cX3_roll 28 = .ok (.iconst 2, 1) := by decide +kernel
theorem dX3_roll_29 : decode cX3_roll 29 = .ok (.iload_n 3, 1) := by decide +kernel
theorem dX3_roll_30 : decode cX3_roll 30 = .ok (.imul, 1) := by decide +kernel
theorem dX3_roll_31 : decode cX3_roll 31 = .ok (.invokestatic 18, 3) := by decide +kernel
theorem dX3_roll_34 : decode cX3_roll 34 = .ok (.istore 5, 2) := by decide +kernel
theorem dX3_roll_36 : decode cX3_roll 36 = .ok (.iload 4, 2) := by decide +kernel
theorem dX3_roll_38 : decode cX3_roll 38 = .ok (.iconst 2, 1) := by decide +kernel
theorem dX3_roll_39 : decode cX3_roll 39 = .ok (.iload_n 3, 1) := by decide +kernel
theorem dX3_roll_40 : decode cX3_roll 40 = .ok (.imul, 1) := by decide +kernel
theorem dX3_roll_41 : decode cX3_roll 41 = .ok (.iconst 2, 1) := by decide +kernel
theorem dX3_roll_42 : decode cX3_roll 42 = .ok (.iadd, 1) := by decide +kernel
theorem dX3_roll_43 : decode cX3_roll 43 = .ok (.ishl, 1) := by decide +kernel
theorem dX3_roll_44 : decode cX3_roll 44 = .ok (.iconst 1, 1) := by decide +kernel
theorem dX3_roll_45 : decode cX3_roll 45 = .ok (.iconst 2, 1) := by decide +kernel
theorem dX3_roll_46 : decode cX3_roll 46 = .ok (.iload_n 3, 1) := by decide +kernel
theorem dX3_roll_47 : decode cX3_roll 47 = .ok (.imul, 1) := by decide +kernel
theorem dX3_roll_48 : decode cX3_roll 48 = .ok (.iconst 1, 1) := by decide +kernel
theorem dX3_roll_49 : decode cX3_roll 49 = .ok (.iadd, 1) := by decide +kernel
theorem dX3_roll_50 : decode cX3_roll 50 = .ok (.ishl, 1) := by decide +kernel
theorem dX3_roll_51 : decode cX3_roll 51 = .ok (.ior, 1) := by decide +kernel
theorem dX3_roll_52 : decode cX3_roll 52 = .ok (.iload 5, 2) := by decide +kernel
theorem dX3_roll_54 : decode cX3_roll 54 = .ok (.iconst 1, 1) := by decide +kernel
theorem dX3_roll_55 : decode cX3_roll 55 = .ok (.ishl, 1) := by decide +kernel
theorem dX3_roll_56 : decode cX3_roll 56 = .ok (.ior, 1) := by decide +kernel
theorem dX3_roll_57 : decode cX3_roll 57 = .ok (.ireturn, 1) := by decide +kernel
theorem dX3_valueOf_0 : decode cX3_valueOf 0 = .ok (.iload_n 0, 1) := by decide +kernel
theorem dX3_valueOf_1 : decode cX3_valueOf 1 = .ok (.tableswitch 45 0 2 #[27, 33, 39], 27) := by decide +kernel
theorem dX3_valueOf_28 : decode cX3_valueOf 28 = .ok (.iload_n 1, 1) := by decide +kernel
theorem dX3_valueOf_29 : decode cX3_valueOf 29 = .ok (.iload_n 2, 1) := by decide +kernel
theorem dX3_valueOf_30 : decode cX3_valueOf 30 = .ok (.invokestatic 38, 3) := by decide +kernel
theorem dX3_valueOf_33 : decode cX3_valueOf 33 = .ok (.ireturn, 1) := by decide +kernel
theorem dX3_valueOf_34 : decode cX3_valueOf 34 = .ok (.iload_n 1, 1) := by decide +kernel
theorem dX3_valueOf_35 : decode cX3_valueOf 35 = .ok (.iload_n 2, 1) := by decide +kernel
theorem dX3_valueOf_36 : decode cX3_valueOf 36 = .ok (.invokestatic 41, 3) := by decide +kernel
theorem dX3_valueOf_39 : decode cX3_valueOf 39 = .ok (.ireturn, 1) := by decide +kernel
theorem dX3_valueOf_40 : decode cX3_valueOf 40 = .ok (.iload_n 1, 1) := by decide +kernel
theorem dX3_valueOf_41 : decode cX3_valueOf 41 = .ok (.iload_n 2, 1) := by decide +kernel
theorem dX3_valueOf_42 : decode cX3_valueOf 42 = .ok (.invokestatic 44, 3) := by decide +kernel
theorem dX3_valueOf_45 : decode cX3_valueOf 45 = .ok (.ireturn, 1) := by decide +kernel
theorem dX3_valueOf_46 : decode cX3_valueOf 46 = .ok (.iload_n 1, 1) := by decide +kernel
theorem dX3_valueOf_47 : decode cX3_valueOf 47 = .ok (.iload_n 2, 1) := by decide +kernel
theorem dX3_valueOf_48 : decode cX3_valueOf 48 = .ok (.invokestatic 47, 3) := by decide +kernel
theorem dX3_valueOf_51 : decode cX3_valueOf 51 = .ok (.ireturn, 1) := by decide +kernel
theorem dX3_peaks_0 : decode cX3_peaks 0 = .ok (.iconst 0, 1) := by decide +kernel
theorem dX3_peaks_1 : decode cX3_peaks 1 = .ok (.istore_n 2, 1) := by decide +kernel
theorem dX3_peaks_2 : decode cX3_peaks 2 = .ok (.iconst 2, 1) := by decide +kernel
theorem dX3_peaks_3 : decode cX3_peaks 3 = .ok (.iload_n 1, 1) := by decide +kernel
theorem dX3_peaks_4 : decode cX3_peaks 4 = .ok (.imul, 1) := by decide +kernel
theorem dX3_peaks_5 : decode cX3_peaks 5 = .ok (.iconst 1, 1) := by decide +kernel
theorem dX3_peaks_6 : decode cX3_peaks 6 = .ok (.isub, 1) := by decide +kernel
theorem dX3_peaks_7 : decode cX3_peaks 7 = .ok (.istore_n 3, 1) := by decide +kernel
theorem dX3_peaks_8 : decode cX3_peaks 8 = .ok (.iload_n 3, 1) := by decide +kernel
theorem dX3_peaks_9 : decode cX3_peaks 9 = .ok (.iconst 1, 1) := by decide +kernel
theorem dX3_peaks_10 : decode cX3_peaks 10 = .ok (.if_icmp .lt 30, 3) := by decide +kernel
theorem dX3_peaks_13 : decode cX3_peaks 13 = .ok (.iload_n 0, 1) := by decide +kernel
theorem dX3_peaks_14 : decode cX3_peaks 14 = .ok (.iload_n 3, 1) := by decide +kernel
theorem dX3_peaks_15 : decode cX3_peaks 15 = .ok (.invokestatic 31, 3) := by decide +kernel
theorem dX3_peaks_18 : decode cX3_peaks 18 = .ok (.ifCond .eq 16, 3) := by decide +kernel
theorem dX3_peaks_21 : decode cX3_peaks 21 = .ok (.iload_n 0, 1) := by decide +kernel
theorem dX3_peaks_22 : decode cX3_peaks 22 = .ok (.iload_n 3, 1) := by decide +kernel
theorem dX3_peaks_23 : decode cX3_peaks 23 = .ok (.iconst 1, 1) := by decide +kernel
theorem dX3_peaks_24 : decode cX3_peaks 24 = .ok (.isub, 1) := by decide +kernel
theorem dX3_peaks_25 : decode cX3_peaks 25 = .ok (.invokestatic 31, 3) := by decide +kernel
theorem dX3_peaks_28 : decode cX3_peaks 28 = .ok (.ifCond .ne 6, 3) := by decide +kernel
theorem dX3_peaks_31 : decode cX3_peaks 31 = .ok (.iinc 2 1, 3) := by decide +kernel
theorem dX3_peaks_34 : decode cX3_peaks 34 = .ok (.iinc 3 (-1), 3) := by decide +kernel
theorem dX3_peaks_37 : decode cX3_peaks 37 = .ok (.goto (-29), 3) := by decide +kernel
theorem dX3_peaks_40 : decode cX3_peaks 40 = .ok (.iload_n 2, 1) := by decide +kernel
theorem dX3_peaks_41 : decode cX3_peaks 41 = .ok (.ireturn, 1) := by decide +kernel
theorem dX3_returns_0 : decode cX3_returns 0 = .ok (.iconst 0, 1) := by decide +kernel
theorem dX3_returns_1 : decode cX3_returns 1 = .ok (.istore_n 2, 1) := by decide +kernel
theorem dX3_returns_2 : decode cX3_returns 2 = .ok (.iconst 0, 1) := by decide +kernel
theorem dX3_returns_3 : decode cX3_returns 3 = .ok (.istore_n 3, 1) := by decide +kernel
theorem dX3_returns_4 : decode cX3_returns 4 = .ok (.iconst 2, 1) := by decide +kernel
theorem dX3_returns_5 : decode cX3_returns 5 = .ok (.iload_n 1, 1) := by decide +kernel
theorem dX3_returns_6 : decode cX3_returns 6 = .ok (.imul, 1) := by decide +kernel
theorem dX3_returns_7 : decode cX3_returns 7 = .ok (.iconst 1, 1) := by decide +kernel
theorem dX3_returns_8 : decode cX3_returns 8 = .ok (.isub, 1) := by decide +kernel
theorem dX3_returns_9 : decode cX3_returns 9 = .ok (.istore 4, 2) := by decide +kernel
theorem dX3_returns_11 : decode cX3_returns 11 = .ok (.iload 4, 2) := by decide +kernel
theorem dX3_returns_13 : decode cX3_returns 13 = .ok (.ifCond .lt 25, 3) := by decide +kernel
theorem dX3_returns_16 : decode cX3_returns 16 = .ok (.iload_n 3, 1) := by decide +kernel
theorem dX3_returns_17 : decode cX3_returns 17 = .ok (.iload_n 0, 1) := by decide +kernel
theorem dX3_returns_18 : decode cX3_returns 18 = .ok (.iload 4, 2) := by decide +kernel
theorem dX3_returns_20 : decode cX3_returns 20 = .ok (.invokestatic 9, 3) := by decide +kernel
theorem dX3_returns_23 : decode cX3_returns 23 = .ok (.iadd, 1) := by decide +kernel
theorem dX3_returns_24 : decode cX3_returns 24 = .ok (.istore_n 3, 1) := by decide +kernel
theorem dX3_returns_25 : decode cX3_returns 25 = .ok (.iload_n 3, 1) := by decide +kernel
theorem dX3_returns_26 : decode cX3_returns 26 = .ok (.ifCond .ne 6, 3) := by decide +kernel
theorem dX3_returns_29 : decode cX3_returns 29 = .ok (.iinc 2 1, 3) := by decide +kernel
theorem dX3_returns_32 : decode cX3_returns 32 = .ok (.iinc 4 (-1), 3) := by decide +kernel
theorem dX3_returns_35 : decode cX3_returns 35 = .ok (.goto (-24), 3) := by decide +kernel
theorem dX3_returns_38 : decode cX3_returns 38 = .ok (.iload_n 2, 1) := by decide +kernel
theorem dX3_returns_39 : decode cX3_returns 39 = .ok (.ireturn, 1) := by decide +kernel
theorem dX3_greatestHeight_0 : decode cX3_greatestHeight 0 = .ok (.iconst 0, 1) := by decide +kernel
theorem dX3_greatestHeight_1 : decode cX3_greatestHeight 1 = .ok (.istore_n 2, 1) := by decide +kernel
theorem dX3_greatestHeight_2 : decode cX3_greatestHeight 2 = .ok (.iconst 0, 1) := by decide +kernel
theorem dX3_greatestHeight_3 : decode cX3_greatestHeight 3 = .ok (.istore_n 3, 1) := by decide +kernel
theorem dX3_greatestHeight_4 : decode cX3_greatestHeight 4 = .ok (.iconst 2, 1) := by decide +kernel
theorem dX3_greatestHeight_5 : decode cX3_greatestHeight 5 = .ok (.iload_n 1, 1) := by decide +kernel
theorem dX3_greatestHeight_6 : decode cX3_greatestHeight 6 = .ok (.imul, 1) := by decide +kernel
theorem dX3_greatestHeight_7 : decode cX3_greatestHeight 7 = .ok (.iconst 1, 1) := by decide +kernel
theorem dX3_greatestHeight_8 : decode cX3_greatestHeight 8 = .ok (.isub, 1) := by decide +kernel
theorem dX3_greatestHeight_9 : decode cX3_greatestHeight 9 = .ok (.istore 4, 2) := by decide +kernel
theorem dX3_greatestHeight_11 : decode cX3_greatestHeight 11 = .ok (.iload 4, 2) := by decide +kernel
theorem dX3_greatestHeight_13 : decode cX3_greatestHeight 13 = .ok (.ifCond .lt 24, 3) := by decide +kernel
theorem dX3_greatestHeight_16 : decode cX3_greatestHeight 16 = .ok (.iload_n 3, 1) := by decide +kernel
theorem dX3_greatestHeight_17 : decode cX3_greatestHeight 17 = .ok (.iload_n 0, 1) := by decide +kernel
theorem dX3_greatestHeight_18 : decode cX3_greatestHeight 18 = .ok (.iload 4, 2) := by decide +kernel
theorem dX3_greatestHeight_20 : decode cX3_greatestHeight 20 = .ok (.invokestatic 9, 3) := by decide +kernel
theorem dX3_greatestHeight_23 : decode cX3_greatestHeight 23 = .ok (.iadd, 1) := by decide +kernel
theorem dX3_greatestHeight_24 : decode cX3_greatestHeight 24 = .ok (.istore_n 3, 1) := by decide +kernel
theorem dX3_greatestHeight_25 : decode cX3_greatestHeight 25 = .ok (.iload_n 2, 1) := by decide +kernel
theorem dX3_greatestHeight_26 : decode cX3_greatestHeight 26 = .ok (.iload_n 3, 1) := by decide +kernel
theorem dX3_greatestHeight_27 : decode cX3_greatestHeight 27 = .ok (.invokestatic 50, 3) := by decide +kernel
theorem dX3_greatestHeight_30 : decode cX3_greatestHeight 30 = .ok (.istore_n 2, 1) := by decide +kernel
theorem dX3_greatestHeight_31 : decode cX3_greatestHeight 31 = .ok (.iinc 4 (-1), 3) := by decide +kernel
theorem dX3_greatestHeight_34 : decode cX3_greatestHeight 34 = .ok (.goto (-23), 3) := by decide +kernel
theorem dX3_greatestHeight_37 : decode cX3_greatestHeight 37 = .ok (.iload_n 2, 1) := by decide +kernel
theorem dX3_greatestHeight_38 : decode cX3_greatestHeight 38 = .ok (.ireturn, 1) := by decide +kernel
theorem dX3_area_0 : decode cX3_area 0 = .ok (.iconst 0, 1) := by decide +kernel
theorem dX3_area_1 : decode cX3_area 1 = .ok (.istore_n 2, 1) := by decide +kernel
theorem dX3_area_2 : decode cX3_area 2 = .ok (.iconst 0, 1) := by decide +kernel
theorem dX3_area_3 : decode cX3_area 3 = .ok (.istore_n 3, 1) := by decide +kernel
theorem dX3_area_4 : decode cX3_area 4 = .ok (.iconst 2, 1) := by decide +kernel
theorem dX3_area_5 : decode cX3_area 5 = .ok (.iload_n 1, 1) := by decide +kernel
theorem dX3_area_6 : decode cX3_area 6 = .ok (.imul, 1) := by decide +kernel
theorem dX3_area_7 : decode cX3_area 7 = .ok (.iconst 1, 1) := by decide +kernel
theorem dX3_area_8 : decode cX3_area 8 = .ok (.isub, 1) := by decide +kernel
theorem dX3_area_9 : decode cX3_area 9 = .ok (.istore 4, 2) := by decide +kernel
theorem dX3_area_11 : decode cX3_area 11 = .ok (.iload 4, 2) := by decide +kernel
theorem dX3_area_13 : decode cX3_area 13 = .ok (.ifCond .lt 22, 3) := by decide +kernel
theorem dX3_area_16 : decode cX3_area 16 = .ok (.iload_n 3, 1) := by decide +kernel
theorem dX3_area_17 : decode cX3_area 17 = .ok (.iload_n 0, 1) := by decide +kernel
theorem dX3_area_18 : decode cX3_area 18 = .ok (.iload 4, 2) := by decide +kernel
theorem dX3_area_20 : decode cX3_area 20 = .ok (.invokestatic 9, 3) := by decide +kernel
theorem dX3_area_23 : decode cX3_area 23 = .ok (.iadd, 1) := by decide +kernel
theorem dX3_area_24 : decode cX3_area 24 = .ok (.istore_n 3, 1) := by decide +kernel
theorem dX3_area_25 : decode cX3_area 25 = .ok (.iload_n 2, 1) := by decide +kernel
theorem dX3_area_26 : decode cX3_area 26 = .ok (.iload_n 3, 1) := by decide +kernel
theorem dX3_area_27 : decode cX3_area 27 = .ok (.iadd, 1) := by decide +kernel
theorem dX3_area_28 : decode cX3_area 28 = .ok (.istore_n 2, 1) := by decide +kernel
theorem dX3_area_29 : decode cX3_area 29 = .ok (.iinc 4 (-1), 3) := by decide +kernel
theorem dX3_area_32 : decode cX3_area 32 = .ok (.goto (-21), 3) := by decide +kernel
theorem dX3_area_35 : decode cX3_area 35 = .ok (.iload_n 2, 1) := by decide +kernel
theorem dX3_area_36 : decode cX3_area 36 = .ok (.ireturn, 1) := by decide +kernel
theorem dX2_isOrder_0 : decode cX2_isOrder 0 = .ok (.iload_n 0, 1) := by decide +kernel
theorem dX2_isOrder_1 : decode cX2_isOrder 1 = .ok (.istore_n 2, 1) := by decide +kernel
theorem dX2_isOrder_2 : decode cX2_isOrder 2 = .ok (.iconst 0, 1) := by decide +kernel
theorem dX2_isOrder_3 : decode cX2_isOrder 3 = .ok (.istore_n 3, 1) := by decide +kernel
theorem dX2_isOrder_4 : decode cX2_isOrder 4 = .ok (.iload_n 1, 1) := by decide +kernel
theorem dX2_isOrder_5 : decode cX2_isOrder 5 = .ok (.istore 4, 2) := by decide +kernel
theorem dX2_isOrder_7 : decode cX2_isOrder 7 = .ok (.iload 4, 2) := by decide +kernel
theorem dX2_isOrder_9 : decode cX2_isOrder 9 = .ok (.iconst 1, 1) := by decide +kernel
theorem dX2_isOrder_10 : decode cX2_isOrder 10 = .ok (.if_icmp .lt 51, 3) := by decide +kernel
theorem dX2_isOrder_13 : decode cX2_isOrder 13 = .ok (.iload_n 2, 1) := by decide +kernel
theorem dX2_isOrder_14 : decode cX2_isOrder 14 = .ok (.bipush 10, 2) := by decide +kernel
theorem dX2_isOrder_16 : decode cX2_isOrder 16 = .ok (.irem, 1) := by decide +kernel
theorem dX2_isOrder_17 : decode cX2_isOrder 17 = .ok (.istore 5, 2) := by decide +kernel
theorem dX2_isOrder_19 : decode cX2_isOrder 19 = .ok (.iload 5, 2) := by decide +kernel
theorem dX2_isOrder_21 : decode cX2_isOrder 21 = .ok (.iconst 1, 1) := by decide +kernel
theorem dX2_isOrder_22 : decode cX2_isOrder 22 = .ok (.if_icmp .lt 19, 3) := by decide +kernel
theorem dX2_isOrder_25 : decode cX2_isOrder 25 = .ok (.iload 5, 2) := by decide +kernel
theorem dX2_isOrder_27 : decode cX2_isOrder 27 = .ok (.iload_n 1, 1) := by decide +kernel
theorem dX2_isOrder_28 : decode cX2_isOrder 28 = .ok (.if_icmp .gt 13, 3) := by decide +kernel
theorem dX2_isOrder_31 : decode cX2_isOrder 31 = .ok (.iload_n 3, 1) := by decide +kernel
theorem dX2_isOrder_32 : decode cX2_isOrder 32 = .ok (.iload 5, 2) := by decide +kernel
theorem dX2_isOrder_34 : decode cX2_isOrder 34 = .ok (.ishr, 1) := by decide +kernel
theorem dX2_isOrder_35 : decode cX2_isOrder 35 = .ok (.iconst 1, 1) := by decide +kernel
theorem dX2_isOrder_36 : decode cX2_isOrder 36 = .ok (.iand, 1) := by decide +kernel
theorem dX2_isOrder_37 : decode cX2_isOrder 37 = .ok (.iconst 1, 1) := by decide +kernel
theorem dX2_isOrder_38 : decode cX2_isOrder 38 = .ok (.if_icmp .ne 5, 3) := by decide +kernel
theorem dX2_isOrder_41 : decode cX2_isOrder 41 = .ok (.iconst 0, 1) := by decide +kernel
theorem dX2_isOrder_42 : decode cX2_isOrder 42 = .ok (.ireturn, 1) := by decide +kernel
theorem dX2_isOrder_43 : decode cX2_isOrder 43 = .ok (.iload_n 3, 1) := by decide +kernel
theorem dX2_isOrder_44 : decode cX2_isOrder 44 = .ok (.iconst 1, 1) := by decide +kernel
theorem dX2_isOrder_45 : decode cX2_isOrder 45 = .ok (.iload 5, 2) := by decide +kernel
theorem dX2_isOrder_47 : decode cX2_isOrder 47 = .ok (.ishl, 1) := by decide +kernel
theorem dX2_isOrder_48 : decode cX2_isOrder 48 = .ok (.ior, 1) := by decide +kernel
theorem dX2_isOrder_49 : decode cX2_isOrder 49 = .ok (.istore_n 3, 1) := by decide +kernel
theorem dX2_isOrder_50 : decode cX2_isOrder 50 = .ok (.iload_n 2, 1) := by decide +kernel
theorem dX2_isOrder_51 : decode cX2_isOrder 51 = .ok (.bipush 10, 2) := by decide +kernel
theorem dX2_isOrder_53 : decode cX2_isOrder 53 = .ok (.idiv, 1) := by decide +kernel
theorem dX2_isOrder_54 : decode cX2_isOrder 54 = .ok (.istore_n 2, 1) := by decide +kernel
theorem dX2_isOrder_55 : decode cX2_isOrder 55 = .ok (.iinc 4 (-1), 3) := by decide +kernel
theorem dX2_isOrder_58 : decode cX2_isOrder 58 = .ok (.goto (-51), 3) := by decide +kernel
theorem dX2_isOrder_61 : decode cX2_isOrder 61 = .ok (.iload_n 2, 1) := by decide +kernel
theorem dX2_isOrder_62 : decode cX2_isOrder 62 = .ok (.ifCond .ne 7, 3) := by decide +kernel
theorem dX2_isOrder_65 : decode cX2_isOrder 65 = .ok (.iconst 1, 1) := by decide +kernel
theorem dX2_isOrder_66 : decode cX2_isOrder 66 = .ok (.goto 4, 3) := by decide +kernel
theorem dX2_isOrder_69 : decode cX2_isOrder 69 = .ok (.iconst 0, 1) := by decide +kernel
theorem dX2_isOrder_70 : decode cX2_isOrder 70 = .ok (.ireturn, 1) := by decide +kernel
theorem dX2_at_0 : decode cX2_at 0 = .ok (.iload_n 0, 1) := by decide +kernel
theorem dX2_at_1 : decode cX2_at 1 = .ok (.istore_n 3, 1) := by decide +kernel
theorem dX2_at_2 : decode cX2_at 2 = .ok (.iload_n 1, 1) := by decide +kernel
theorem dX2_at_3 : decode cX2_at 3 = .ok (.istore 4, 2) := by decide +kernel
theorem dX2_at_5 : decode cX2_at 5 = .ok (.iload 4, 2) := by decide +kernel
theorem dX2_at_7 : decode cX2_at 7 = .ok (.iload_n 2, 1) := by decide +kernel
theorem dX2_at_8 : decode cX2_at 8 = .ok (.if_icmp .le 14, 3) := by decide +kernel
theorem dX2_at_11 : decode cX2_at 11 = .ok (.iload_n 3, 1) := by decide +kernel
theorem dX2_at_12 : decode cX2_at 12 = .ok (.bipush 10, 2) := by decide +kernel
theorem dX2_at_14 : decode cX2_at 14 = .ok (.idiv, 1) := by decide +kernel
theorem dX2_at_15 : decode cX2_at 15 = .ok (.istore_n 3, 1) := by decide +kernel
theorem dX2_at_16 : decode cX2_at 16 = .ok (.iinc 4 (-1), 3) := by decide +kernel
theorem dX2_at_19 : decode cX2_at 19 = .ok (.goto (-14), 3) := by decide +kernel
theorem dX2_at_22 : decode cX2_at 22 = .ok (.iload_n 3, 1) := by decide +kernel
theorem dX2_at_23 : decode cX2_at 23 = .ok (.bipush 10, 2) := by decide +kernel
theorem dX2_at_25 : decode cX2_at 25 = .ok (.irem, 1) := by decide +kernel
theorem dX2_at_26 : decode cX2_at 26 = .ok (.ireturn, 1) := by decide +kernel
theorem dX2_ofRank_0 : decode cX2_ofRank 0 = .ok (.iconst 0, 1) := by decide +kernel
theorem dX2_ofRank_1 : decode cX2_ofRank 1 = .ok (.istore_n 2, 1) := by decide +kernel
theorem dX2_ofRank_2 : decode cX2_ofRank 2 = .ok (.iconst 0, 1) := by decide +kernel
theorem dX2_ofRank_3 : decode cX2_ofRank 3 = .ok (.istore_n 3, 1) := by decide +kernel
theorem dX2_ofRank_4 : decode cX2_ofRank 4 = .ok (.iload_n 0, 1) := by decide +kernel
theorem dX2_ofRank_5 : decode cX2_ofRank 5 = .ok (.istore 4, 2) := by decide +kernel
theorem dX2_ofRank_7 : decode cX2_ofRank 7 = .ok (.iload_n 1, 1) := by decide +kernel
theorem dX2_ofRank_8 : decode cX2_ofRank 8 = .ok (.iconst 1, 1) := by decide +kernel
theorem dX2_ofRank_9 : decode cX2_ofRank 9 = .ok (.isub, 1) := by decide +kernel
theorem dX2_ofRank_10 : decode cX2_ofRank 10 = .ok (.istore 5, 2) := by decide +kernel
theorem dX2_ofRank_12 : decode cX2_ofRank 12 = .ok (.iload 5, 2) := by decide +kernel
theorem dX2_ofRank_14 : decode cX2_ofRank 14 = .ok (.ifCond .lt 70, 3) := by decide +kernel
theorem dX2_ofRank_17 : decode cX2_ofRank 17 = .ok (.getstatic 9, 3) := by decide +kernel
theorem dX2_ofRank_20 : decode cX2_ofRank 20 = .ok (.iload 5, 2) := by decide +kernel
theorem dX2_ofRank_22 : decode cX2_ofRank 22 = .ok (.invokestatic 13, 3) := by decide +kernel
theorem dX2_ofRank_25 : decode cX2_ofRank 25 = .ok (.istore 6, 2) := by decide +kernel
theorem dX2_ofRank_27 : decode cX2_ofRank 27 = .ok (.iload 6, 2) := by decide +kernel
theorem dX2_ofRank_29 : decode cX2_ofRank 29 = .ok (.ifCond .le 15, 3) := by decide +kernel
theorem dX2_ofRank_32 : decode cX2_ofRank 32 = .ok (.iload_n 3, 1) := by decide +kernel
theorem dX2_ofRank_33 : decode cX2_ofRank 33 = .ok (.iload 4, 2) := by decide +kernel
theorem dX2_ofRank_35 : decode cX2_ofRank 35 = .ok (.iload 6, 2) := by decide +kernel
theorem dX2_ofRank_37 : decode cX2_ofRank 37 = .ok (.idiv, 1) := by decide +kernel
theorem dX2_ofRank_38 : decode cX2_ofRank 38 = .ok (.invokestatic 19, 3) := by decide +kernel
theorem dX2_ofRank_41 : decode cX2_ofRank 41 = .ok (.goto 4, 3) := by decide +kernel
theorem dX2_ofRank_44 : decode cX2_ofRank 44 = .ok (.iconst 0, 1) := by decide +kernel
theorem dX2_ofRank_45 : decode cX2_ofRank 45 = .ok (.istore 7, 2) := by decide +kernel
theorem dX2_ofRank_47 : decode cX2_ofRank 47 = .ok (.iload 6, 2) := by decide +kernel
theorem dX2_ofRank_49 : decode cX2_ofRank 49 = .ok (.ifCond .le 11, 3) := by decide +kernel
theorem dX2_ofRank_52 : decode cX2_ofRank 52 = .ok (.iload 4, 2) := by decide +kernel
theorem dX2_ofRank_54 : decode cX2_ofRank 54 = .ok (.iload 6, 2) := by decide +kernel
theorem dX2_ofRank_56 : decode cX2_ofRank 56 = .ok (.irem, 1) := by decide +kernel
theorem dX2_ofRank_57 : decode cX2_ofRank 57 = .ok (.goto 4, 3) := by decide +kernel
theorem dX2_ofRank_60 : decode cX2_ofRank 60 = .ok (.iconst 0, 1) := by decide +kernel
theorem dX2_ofRank_61 : decode cX2_ofRank 61 = .ok (.istore 4, 2) := by decide +kernel
theorem dX2_ofRank_63 : decode cX2_ofRank 63 = .ok (.iload_n 3, 1) := by decide +kernel
theorem dX2_ofRank_64 : decode cX2_ofRank 64 = .ok (.iconst 1, 1) := by decide +kernel
theorem dX2_ofRank_65 : decode cX2_ofRank 65 = .ok (.iload 7, 2) := by decide +kernel
theorem dX2_ofRank_67 : decode cX2_ofRank 67 = .ok (.ishl, 1) := by decide +kernel
theorem dX2_ofRank_68 : decode cX2_ofRank 68 = .ok (.ior, 1) := by decide +kernel
theorem dX2_ofRank_69 : decode cX2_ofRank 69 = .ok (.istore_n 3, 1) := by decide +kernel
theorem dX2_ofRank_70 : decode cX2_ofRank 70 = .ok (.iload_n 2, 1) := by decide +kernel
theorem dX2_ofRank_71 : decode cX2_ofRank 71 = .ok (.bipush 10, 2) := by decide +kernel
theorem dX2_ofRank_73 : decode cX2_ofRank 73 = .ok (.imul, 1) := by decide +kernel
theorem dX2_ofRank_74 : decode cX2_ofRank 74 = .ok (.iload 7, 2) := by decide +kernel
theorem dX2_ofRank_76 : decode cX2_ofRank 76 = .ok (.iadd, 1) := by decide +kernel
theorem dX2_ofRank_77 : decode cX2_ofRank 77 = .ok (.istore_n 2, 1) := by decide +kernel
theorem dX2_ofRank_78 : decode cX2_ofRank 78 = .ok (.iinc 5 (-1), 3) := by decide +kernel
theorem dX2_ofRank_81 : decode cX2_ofRank 81 = .ok (.goto (-69), 3) := by decide +kernel
theorem dX2_ofRank_84 : decode cX2_ofRank 84 = .ok (.iload_n 2, 1) := by decide +kernel
theorem dX2_ofRank_85 : decode cX2_ofRank 85 = .ok (.ireturn, 1) := by decide +kernel
theorem dX2_freeNumber_0 : decode cX2_freeNumber 0 = .ok (.iload_n 1, 1) := by decide +kernel
theorem dX2_freeNumber_1 : decode cX2_freeNumber 1 = .ok (.istore_n 2, 1) := by decide +kernel
theorem dX2_freeNumber_2 : decode cX2_freeNumber 2 = .ok (.iconst 1, 1) := by decide +kernel
theorem dX2_freeNumber_3 : decode cX2_freeNumber 3 = .ok (.istore_n 3, 1) := by decide +kernel
theorem dX2_freeNumber_4 : decode cX2_freeNumber 4 = .ok (.iload_n 3, 1) := by decide +kernel
theorem dX2_freeNumber_5 : decode cX2_freeNumber 5 = .ok (.bipush 6, 2) := by decide +kernel
theorem dX2_freeNumber_7 : decode cX2_freeNumber 7 = .ok (.if_icmp .gt 48, 3) := by decide +kernel
theorem dX2_freeNumber_10 : decode cX2_freeNumber 10 = .ok (.iload_n 0, 1) := by decide +kernel
theorem dX2_freeNumber_11 : decode cX2_freeNumber 11 = .ok (.iload_n 3, 1) := by decide +kernel
theorem dX2_freeNumber_12 : decode cX2_freeNumber 12 = .ok (.ishr, 1) := by decide +kernel
theorem dX2_freeNumber_13 : decode cX2_freeNumber 13 = .ok (.iconst 1, 1) := by decide +kernel
theorem dX2_freeNumber_14 : decode cX2_freeNumber 14 = .ok (.iand, 1) := by decide +kernel
theorem dX2_freeNumber_15 : decode cX2_freeNumber 15 = .ok (.ifCond .ne 7, 3) := by decide +kernel
theorem dX2_freeNumber_18 : decode cX2_freeNumber 18 = .ok (.iconst 1, 1) := by decide +kernel
theorem dX2_freeNumber_19 : decode cX2_freeNumber 19 = .ok (.goto 4, 3) := by decide +kernel
theorem dX2_freeNumber_22 : decode cX2_freeNumber 22 = .ok (.iconst 0, 1) := by decide +kernel
theorem dX2_freeNumber_23 : decode cX2_freeNumber 23 = .ok (.istore 4, 2) := by decide +kernel
theorem dX2_freeNumber_25 : decode cX2_freeNumber 25 = .ok (.iload 4, 2) := by decide +kernel
theorem dX2_freeNumber_27 : decode cX2_freeNumber 27 = .ok (.ifCond .eq 9, 3) := by decide +kernel
theorem dX2_freeNumber_30 : decode cX2_freeNumber 30 = .ok (.iload_n 2, 1) := by decide +kernel
theorem dX2_freeNumber_31 : decode cX2_freeNumber 31 = .ok (.ifCond .ne 5, 3) := by decide +kernel
theorem dX2_freeNumber_34 : decode cX2_freeNumber 34 = .ok (.iload_n 3, 1) := by decide +kernel
theorem dX2_freeNumber_35 : decode cX2_freeNumber 35 = .ok (.ireturn, 1) := by decide +kernel
theorem dX2_freeNumber_36 : decode cX2_freeNumber 36 = .ok (.iload_n 2, 1) := by decide +kernel
theorem dX2_freeNumber_37 : decode cX2_freeNumber 37 = .ok (.iload 4, 2) := by decide +kernel
theorem dX2_freeNumber_39 : decode cX2_freeNumber 39 = .ok (.ifCond .eq 7, 3) := by decide +kernel
theorem dX2_freeNumber_42 : decode cX2_freeNumber 42 = .ok (.iconst 1, 1) := by decide +kernel
theorem dX2_freeNumber_43 : decode cX2_freeNumber 43 = .ok (.goto 4, 3) := by decide +kernel
theorem dX2_freeNumber_46 : decode cX2_freeNumber 46 = .ok (.iconst 0, 1) := by decide +kernel
theorem dX2_freeNumber_47 : decode cX2_freeNumber 47 = .ok (.isub, 1) := by decide +kernel
theorem dX2_freeNumber_48 : decode cX2_freeNumber 48 = .ok (.istore_n 2, 1) := by decide +kernel
theorem dX2_freeNumber_49 : decode cX2_freeNumber 49 = .ok (.iinc 3 1, 3) := by decide +kernel
theorem dX2_freeNumber_52 : decode cX2_freeNumber 52 = .ok (.goto (-48), 3) := by decide +kernel
theorem dX2_freeNumber_55 : decode cX2_freeNumber 55 = .ok (.iconst 0, 1) := by decide +kernel
theorem dX2_freeNumber_56 : decode cX2_freeNumber 56 = .ok (.ireturn, 1) := by decide +kernel
theorem dX2_shape_0 : decode cX2_shape 0 = .ok (.iload_n 2, 1) := by decide +kernel
theorem dX2_shape_1 : decode cX2_shape 1 = .ok (.iconst 1, 1) := by decide +kernel
theorem dX2_shape_2 : decode cX2_shape 2 = .ok (.if_icmp .lt 19, 3) := by decide +kernel
theorem dX2_shape_5 : decode cX2_shape 5 = .ok (.iload_n 3, 1) := by decide +kernel
theorem dX2_shape_6 : decode cX2_shape 6 = .ok (.iload_n 1, 1) := by decide +kernel
theorem dX2_shape_7 : decode cX2_shape 7 = .ok (.if_icmp .gt 14, 3) := by decide +kernel
theorem dX2_shape_10 : decode cX2_shape 10 = .ok (.iload_n 2, 1) := by decide +kernel
theorem dX2_shape_11 : decode cX2_shape 11 = .ok (.iload_n 3, 1) := by decide +kernel
theorem dX2_shape_12 : decode cX2_shape 12 = .ok (.if_icmp .gt 9, 3) := by decide +kernel
theorem dX2_shape_15 : decode cX2_shape 15 = .ok (.iload_n 1, 1) := by decide +kernel
theorem dX2_shape_16 : decode cX2_shape 16 = .ok (.bipush 6, 2) := by decide +kernel
theorem dX2_shape_18 : decode cX2_shape 18 = .ok (.if_icmp .le 5, 3) := by decide +kernel
theorem dX2_shape_21 : decode cX2_shape 21 = .ok (.iconst 0, 1) := by decide +kernel
theorem dX2_shape_22 : decode cX2_shape 22 = .ok (.ireturn, 1) := by decide +kernel
theorem dX2_shape_23 : decode cX2_shape 23 = .ok (.iload_n 2, 1) := by decide +kernel
theorem dX2_shape_24 : decode cX2_shape 24 = .ok (.istore 4, 2) := by decide +kernel
theorem dX2_shape_26 : decode cX2_shape 26 = .ok (.iload_n 2, 1) := by decide +kernel
theorem dX2_shape_27 : decode cX2_shape 27 = .ok (.iconst 1, 1) := by decide +kernel
theorem dX2_shape_28 : decode cX2_shape 28 = .ok (.iadd, 1) := by decide +kernel
theorem dX2_shape_29 : decode cX2_shape 29 = .ok (.istore 5, 2) := by decide +kernel
theorem dX2_shape_31 : decode cX2_shape 31 = .ok (.iload 5, 2) := by decide +kernel
theorem dX2_shape_33 : decode cX2_shape 33 = .ok (.iload_n 3, 1) := by decide +kernel
theorem dX2_shape_34 : decode cX2_shape 34 = .ok (.if_icmp .gt 30, 3) := by decide +kernel
theorem dX2_shape_37 : decode cX2_shape 37 = .ok (.iload_n 0, 1) := by decide +kernel
theorem dX2_shape_38 : decode cX2_shape 38 = .ok (.iload_n 1, 1) := by decide +kernel
theorem dX2_shape_39 : decode cX2_shape 39 = .ok (.iload 5, 2) := by decide +kernel
theorem dX2_shape_41 : decode cX2_shape 41 = .ok (.invokestatic 25, 3) := by decide +kernel
theorem dX2_shape_44 : decode cX2_shape 44 = .ok (.iload_n 0, 1) := by decide +kernel
theorem dX2_shape_45 : decode cX2_shape 45 = .ok (.iload_n 1, 1) := by decide +kernel
theorem dX2_shape_46 : decode cX2_shape 46 = .ok (.iload 4, 2) := by decide +kernel
theorem dX2_shape_48 : decode cX2_shape 48 = .ok (.invokestatic 25, 3) := by decide +kernel
theorem dX2_shape_51 : decode cX2_shape 51 = .ok (.if_icmp .le 7, 3) := by decide +kernel
theorem dX2_shape_54 : decode cX2_shape 54 = .ok (.iload 5, 2) := by decide +kernel
theorem dX2_shape_56 : decode cX2_shape 56 = .ok (.istore 4, 2) := by decide +kernel
theorem dX2_shape_58 : decode cX2_shape 58 = .ok (.iinc 5 1, 3) := by decide +kernel
theorem dX2_shape_61 : decode cX2_shape 61 = .ok (.goto (-30), 3) := by decide +kernel
theorem dX2_shape_64 : decode cX2_shape 64 = .ok (.iload_n 0, 1) := by decide +kernel
theorem dX2_shape_65 : decode cX2_shape 65 = .ok (.iload_n 1, 1) := by decide +kernel
theorem dX2_shape_66 : decode cX2_shape 66 = .ok (.iload_n 2, 1) := by decide +kernel
theorem dX2_shape_67 : decode cX2_shape 67 = .ok (.iload 4, 2) := by decide +kernel
theorem dX2_shape_69 : decode cX2_shape 69 = .ok (.iconst 1, 1) := by decide +kernel
theorem dX2_shape_70 : decode cX2_shape 70 = .ok (.isub, 1) := by decide +kernel
theorem dX2_shape_71 : decode cX2_shape 71 = .ok (.invokestatic 28, 3) := by decide +kernel
theorem dX2_shape_74 : decode cX2_shape 74 = .ok (.istore 5, 2) := by decide +kernel
theorem dX2_shape_76 : decode cX2_shape 76 = .ok (.iload_n 0, 1) := by decide +kernel
theorem dX2_shape_77 : decode cX2_shape 77 = .ok (.iload_n 1, 1) := by decide +kernel
theorem dX2_shape_78 : decode cX2_shape 78 = .ok (.iload 4, 2) := by decide +kernel
theorem dX2_shape_80 : decode cX2_shape 80 = .ok (.iconst 1, 1) := by decide +kernel
theorem dX2_shape_81 : decode cX2_shape 81 = .ok (.iadd, 1) := by decide +kernel
theorem dX2_shape_82 : decode cX2_shape 82 = .ok (.iload_n 3, 1) := by decide +kernel
theorem dX2_shape_83 : decode cX2_shape 83 = .ok (.invokestatic 28, 3) := by decide +kernel
theorem dX2_shape_86 : decode cX2_shape 86 = .ok (.istore 6, 2) := by decide +kernel
theorem dX2_shape_88 : decode cX2_shape 88 = .ok (.iload 5, 2) := by decide +kernel
theorem dX2_shape_90 : decode cX2_shape 90 = .ok (.iload 4, 2) := by decide +kernel
theorem dX2_shape_92 : decode cX2_shape 92 = .ok (.iload_n 2, 1) := by decide +kernel
theorem dX2_shape_93 : decode cX2_shape 93 = .ok (.isub, 1) := by decide +kernel
theorem dX2_shape_94 : decode cX2_shape 94 = .ok (.iload 6, 2) := by decide +kernel
theorem dX2_shape_96 : decode cX2_shape 96 = .ok (.iload_n 3, 1) := by decide +kernel
theorem dX2_shape_97 : decode cX2_shape 97 = .ok (.iload 4, 2) := by decide +kernel
theorem dX2_shape_99 : decode cX2_shape 99 = .ok (.isub, 1) := by decide +kernel
theorem dX2_shape_100 : decode cX2_shape 100 = .ok (.invokestatic 32, 3) := by decide +kernel
theorem dX2_shape_103 : decode cX2_shape 103 = .ok (.ireturn, 1) := by decide +kernel
theorem dX2_invert_0 : decode cX2_invert 0 = .ok (.iconst 0, 1) := by decide +kernel
theorem dX2_invert_1 : decode cX2_invert 1 = .ok (.istore_n 2, 1) := by decide +kernel
theorem dX2_invert_2 : decode cX2_invert 2 = .ok (.iconst 1, 1) := by decide +kernel
theorem dX2_invert_3 : decode cX2_invert 3 = .ok (.istore_n 3, 1) := by decide +kernel
theorem dX2_invert_4 : decode cX2_invert 4 = .ok (.iload_n 3, 1) := by decide +kernel
theorem dX2_invert_5 : decode cX2_invert 5 = .ok (.iload_n 1, 1) := by decide +kernel
theorem dX2_invert_6 : decode cX2_invert 6 = .ok (.if_icmp .gt 28, 3) := by decide +kernel
theorem dX2_invert_9 : decode cX2_invert 9 = .ok (.iload_n 2, 1) := by decide +kernel
theorem dX2_invert_10 : decode cX2_invert 10 = .ok (.iload_n 3, 1) := by decide +kernel
theorem dX2_invert_11 : decode cX2_invert 11 = .ok (.getstatic 37, 3) := by decide +kernel
theorem dX2_invert_14 : decode cX2_invert 14 = .ok (.iload_n 1, 1) := by decide +kernel
theorem dX2_invert_15 : decode cX2_invert 15 = .ok (.iload_n 0, 1) := by decide +kernel
theorem dX2_invert_16 : decode cX2_invert 16 = .ok (.iload_n 1, 1) := by decide +kernel
theorem dX2_invert_17 : decode cX2_invert 17 = .ok (.iload_n 3, 1) := by decide +kernel
theorem dX2_invert_18 : decode cX2_invert 18 = .ok (.invokestatic 25, 3) := by decide +kernel
theorem dX2_invert_21 : decode cX2_invert 21 = .ok (.isub, 1) := by decide +kernel
theorem dX2_invert_22 : decode cX2_invert 22 = .ok (.invokestatic 13, 3) := by decide +kernel
theorem dX2_invert_25 : decode cX2_invert 25 = .ok (.imul, 1) := by decide +kernel
theorem dX2_invert_26 : decode cX2_invert 26 = .ok (.iadd, 1) := by decide +kernel
theorem dX2_invert_27 : decode cX2_invert 27 = .ok (.istore_n 2, 1) := by decide +kernel
theorem dX2_invert_28 : decode cX2_invert 28 = .ok (.iinc 3 1, 3) := by decide +kernel
theorem dX2_invert_31 : decode cX2_invert 31 = .ok (.goto (-27), 3) := by decide +kernel
theorem dX2_invert_34 : decode cX2_invert 34 = .ok (.iload_n 2, 1) := by decide +kernel
theorem dX2_invert_35 : decode cX2_invert 35 = .ok (.ireturn, 1) := by decide +kernel
theorem dX2_turn_0 : decode cX2_turn 0 = .ok (.iconst 0, 1) := by decide +kernel
theorem dX2_turn_1 : decode cX2_turn 1 = .ok (.istore_n 2, 1) := by decide +kernel
theorem dX2_turn_2 : decode cX2_turn 2 = .ok (.iload_n 0, 1) := by decide +kernel
theorem dX2_turn_3 : decode cX2_turn 3 = .ok (.istore_n 3, 1) := by decide +kernel
theorem dX2_turn_4 : decode cX2_turn 4 = .ok (.iload_n 1, 1) := by decide +kernel
theorem dX2_turn_5 : decode cX2_turn 5 = .ok (.istore 4, 2) := by decide +kernel
theorem dX2_turn_7 : decode cX2_turn 7 = .ok (.iload 4, 2) := by decide +kernel
theorem dX2_turn_9 : decode cX2_turn 9 = .ok (.iconst 1, 1) := by decide +kernel
theorem dX2_turn_10 : decode cX2_turn 10 = .ok (.if_icmp .lt 24, 3) := by decide +kernel
theorem dX2_turn_13 : decode cX2_turn 13 = .ok (.iload_n 2, 1) := by decide +kernel
theorem dX2_turn_14 : decode cX2_turn 14 = .ok (.bipush 10, 2) := by decide +kernel
theorem dX2_turn_16 : decode cX2_turn 16 = .ok (.imul, 1) := by decide +kernel
theorem dX2_turn_17 : decode cX2_turn 17 = .ok (.iload_n 3, 1) := by decide +kernel
theorem dX2_turn_18 : decode cX2_turn 18 = .ok (.bipush 10, 2) := by decide +kernel
theorem dX2_turn_20 : decode cX2_turn 20 = .ok (.irem, 1) := by decide +kernel
theorem dX2_turn_21 : decode cX2_turn 21 = .ok (.iadd, 1) := by decide +kernel
theorem dX2_turn_22 : decode cX2_turn 22 = .ok (.istore_n 2, 1) := by decide +kernel
theorem dX2_turn_23 : decode cX2_turn 23 = .ok (.iload_n 3, 1) := by decide +kernel
theorem dX2_turn_24 : decode cX2_turn 24 = .ok (.bipush 10, 2) := by decide +kernel
theorem dX2_turn_26 : decode cX2_turn 26 = .ok (.idiv, 1) := by decide +kernel
theorem dX2_turn_27 : decode cX2_turn 27 = .ok (.istore_n 3, 1) := by decide +kernel
theorem dX2_turn_28 : decode cX2_turn 28 = .ok (.iinc 4 (-1), 3) := by decide +kernel
theorem dX2_turn_31 : decode cX2_turn 31 = .ok (.goto (-24), 3) := by decide +kernel
theorem dX2_turn_34 : decode cX2_turn 34 = .ok (.iload_n 2, 1) := by decide +kernel
theorem dX2_turn_35 : decode cX2_turn 35 = .ok (.ireturn, 1) := by decide +kernel
theorem dX2_sort_0 : decode cX2_sort 0 = .ok (.iconst 0, 1) := by decide +kernel
theorem dX2_sort_1 : decode cX2_sort 1 = .ok (.istore_n 2, 1) := by decide +kernel
theorem dX2_sort_2 : decode cX2_sort 2 = .ok (.iconst 0, 1) := by decide +kernel
theorem dX2_sort_3 : decode cX2_sort 3 = .ok (.istore_n 3, 1) := by decide +kernel
theorem dX2_sort_4 : decode cX2_sort 4 = .ok (.iconst 1, 1) := by decide +kernel
theorem dX2_sort_5 : decode cX2_sort 5 = .ok (.istore 4, 2) := by decide +kernel
theorem dX2_sort_7 : decode cX2_sort 7 = .ok (.iload 4, 2) := by decide +kernel
theorem dX2_sort_9 : decode cX2_sort 9 = .ok (.iload_n 1, 1) := by decide +kernel
theorem dX2_sort_10 : decode cX2_sort 10 = .ok (.if_icmp .gt 57, 3) := by decide +kernel
theorem dX2_sort_13 : decode cX2_sort 13 = .ok (.iload_n 0, 1) := by decide +kernel
theorem dX2_sort_14 : decode cX2_sort 14 = .ok (.iload_n 1, 1) := by decide +kernel
theorem dX2_sort_15 : decode cX2_sort 15 = .ok (.iload 4, 2) := by decide +kernel
theorem dX2_sort_17 : decode cX2_sort 17 = .ok (.invokestatic 25, 3) := by decide +kernel
theorem dX2_sort_20 : decode cX2_sort 20 = .ok (.istore 5, 2) := by decide +kernel
theorem dX2_sort_22 : decode cX2_sort 22 = .ok (.iload_n 3, 1) := by decide +kernel
theorem dX2_sort_23 : decode cX2_sort 23 = .ok (.ifCond .le 30, 3) := by decide +kernel
theorem dX2_sort_26 : decode cX2_sort 26 = .ok (.iload_n 3, 1) := by decide +kernel
theorem dX2_sort_27 : decode cX2_sort 27 = .ok (.bipush 10, 2) := by decide +kernel
theorem dX2_sort_29 : decode cX2_sort 29 = .ok (.irem, 1) := by decide +kernel
theorem dX2_sort_30 : decode cX2_sort 30 = .ok (.iload 5, 2) := by decide +kernel
theorem dX2_sort_32 : decode cX2_sort 32 = .ok (.if_icmp .ge 21, 3) := by decide +kernel
theorem dX2_sort_35 : decode cX2_sort 35 = .ok (.iload_n 2, 1) := by decide +kernel
theorem dX2_sort_36 : decode cX2_sort 36 = .ok (.bipush 10, 2) := by decide +kernel
theorem dX2_sort_38 : decode cX2_sort 38 = .ok (.imul, 1) := by decide +kernel
theorem dX2_sort_39 : decode cX2_sort 39 = .ok (.iload_n 3, 1) := by decide +kernel
theorem dX2_sort_40 : decode cX2_sort 40 = .ok (.bipush 10, 2) := by decide +kernel
theorem dX2_sort_42 : decode cX2_sort 42 = .ok (.irem, 1) := by decide +kernel
theorem dX2_sort_43 : decode cX2_sort 43 = .ok (.iadd, 1) := by decide +kernel
theorem dX2_sort_44 : decode cX2_sort 44 = .ok (.istore_n 2, 1) := by decide +kernel
theorem dX2_sort_45 : decode cX2_sort 45 = .ok (.iload_n 3, 1) := by decide +kernel
theorem dX2_sort_46 : decode cX2_sort 46 = .ok (.bipush 10, 2) := by decide +kernel
theorem dX2_sort_48 : decode cX2_sort 48 = .ok (.idiv, 1) := by decide +kernel
theorem dX2_sort_49 : decode cX2_sort 49 = .ok (.istore_n 3, 1) := by decide +kernel
theorem dX2_sort_50 : decode cX2_sort 50 = .ok (.goto (-28), 3) := by decide +kernel
theorem dX2_sort_53 : decode cX2_sort 53 = .ok (.iload_n 3, 1) := by decide +kernel
theorem dX2_sort_54 : decode cX2_sort 54 = .ok (.bipush 10, 2) := by decide +kernel
theorem dX2_sort_56 : decode cX2_sort 56 = .ok (.imul, 1) := by decide +kernel
theorem dX2_sort_57 : decode cX2_sort 57 = .ok (.iload 5, 2) := by decide +kernel
theorem dX2_sort_59 : decode cX2_sort 59 = .ok (.iadd, 1) := by decide +kernel
theorem dX2_sort_60 : decode cX2_sort 60 = .ok (.istore_n 3, 1) := by decide +kernel
theorem dX2_sort_61 : decode cX2_sort 61 = .ok (.iinc 4 1, 3) := by decide +kernel
theorem dX2_sort_64 : decode cX2_sort 64 = .ok (.goto (-57), 3) := by decide +kernel
theorem dX2_sort_67 : decode cX2_sort 67 = .ok (.iload_n 3, 1) := by decide +kernel
theorem dX2_sort_68 : decode cX2_sort 68 = .ok (.ifCond .le 21, 3) := by decide +kernel
theorem dX2_sort_71 : decode cX2_sort 71 = .ok (.iload_n 2, 1) := by decide +kernel
theorem dX2_sort_72 : decode cX2_sort 72 = .ok (.bipush 10, 2) := by decide +kernel
theorem dX2_sort_74 : decode cX2_sort 74 = .ok (.imul, 1) := by decide +kernel
theorem dX2_sort_75 : decode cX2_sort 75 = .ok (.iload_n 3, 1) := by decide +kernel
theorem dX2_sort_76 : decode cX2_sort 76 = .ok (.bipush 10, 2) := by decide +kernel
theorem dX2_sort_78 : decode cX2_sort 78 = .ok (.irem, 1) := by decide +kernel
theorem dX2_sort_79 : decode cX2_sort 79 = .ok (.iadd, 1) := by decide +kernel
theorem dX2_sort_80 : decode cX2_sort 80 = .ok (.istore_n 2, 1) := by decide +kernel
theorem dX2_sort_81 : decode cX2_sort 81 = .ok (.iload_n 3, 1) := by decide +kernel
theorem dX2_sort_82 : decode cX2_sort 82 = .ok (.bipush 10, 2) := by decide +kernel
theorem dX2_sort_84 : decode cX2_sort 84 = .ok (.idiv, 1) := by decide +kernel
theorem dX2_sort_85 : decode cX2_sort 85 = .ok (.istore_n 3, 1) := by decide +kernel
theorem dX2_sort_86 : decode cX2_sort 86 = .ok (.goto (-19), 3) := by decide +kernel
theorem dX2_sort_89 : decode cX2_sort 89 = .ok (.iload_n 2, 1) := by decide +kernel
theorem dX2_sort_90 : decode cX2_sort 90 = .ok (.ireturn, 1) := by decide +kernel
theorem dX2_valueOf_0 : decode cX2_valueOf 0 = .ok (.iload_n 0, 1) := by decide +kernel
theorem dX2_valueOf_1 : decode cX2_valueOf 1 = .ok (.tableswitch 45 0 2 #[27, 33, 39], 27) := by decide +kernel
theorem dX2_valueOf_28 : decode cX2_valueOf 28 = .ok (.iload_n 1, 1) := by decide +kernel
theorem dX2_valueOf_29 : decode cX2_valueOf 29 = .ok (.iload_n 2, 1) := by decide +kernel
theorem dX2_valueOf_30 : decode cX2_valueOf 30 = .ok (.invokestatic 40, 3) := by decide +kernel
theorem dX2_valueOf_33 : decode cX2_valueOf 33 = .ok (.ireturn, 1) := by decide +kernel
theorem dX2_valueOf_34 : decode cX2_valueOf 34 = .ok (.iload_n 1, 1) := by decide +kernel
theorem dX2_valueOf_35 : decode cX2_valueOf 35 = .ok (.iload_n 2, 1) := by decide +kernel
theorem dX2_valueOf_36 : decode cX2_valueOf 36 = .ok (.invokestatic 43, 3) := by decide +kernel
theorem dX2_valueOf_39 : decode cX2_valueOf 39 = .ok (.ireturn, 1) := by decide +kernel
theorem dX2_valueOf_40 : decode cX2_valueOf 40 = .ok (.iload_n 1, 1) := by decide +kernel
theorem dX2_valueOf_41 : decode cX2_valueOf 41 = .ok (.iload_n 2, 1) := by decide +kernel
theorem dX2_valueOf_42 : decode cX2_valueOf 42 = .ok (.invokestatic 46, 3) := by decide +kernel
theorem dX2_valueOf_45 : decode cX2_valueOf 45 = .ok (.ireturn, 1) := by decide +kernel
theorem dX2_valueOf_46 : decode cX2_valueOf 46 = .ok (.iload_n 1, 1) := by decide +kernel
theorem dX2_valueOf_47 : decode cX2_valueOf 47 = .ok (.iload_n 2, 1) := by decide +kernel
theorem dX2_valueOf_48 : decode cX2_valueOf 48 = .ok (.invokestatic 49, 3) := by decide +kernel
theorem dX2_valueOf_51 : decode cX2_valueOf 51 = .ok (.ireturn, 1) := by decide +kernel
theorem dX2_drops_0 : decode cX2_drops 0 = .ok (.iconst 0, 1) := by decide +kernel
theorem dX2_drops_1 : decode cX2_drops 1 = .ok (.istore_n 2, 1) := by decide +kernel
theorem dX2_drops_2 : decode cX2_drops 2 = .ok (.iconst 2, 1) := by decide +kernel
theorem dX2_drops_3 : decode cX2_drops 3 = .ok (.istore_n 3, 1) := by decide +kernel
theorem dX2_drops_4 : decode cX2_drops 4 = .ok (.iload_n 3, 1) := by decide +kernel
theorem dX2_drops_5 : decode cX2_drops 5 = .ok (.iload_n 1, 1) := by decide +kernel
theorem dX2_drops_6 : decode cX2_drops 6 = .ok (.if_icmp .gt 29, 3) := by decide +kernel
theorem dX2_drops_9 : decode cX2_drops 9 = .ok (.iload_n 0, 1) := by decide +kernel
theorem dX2_drops_10 : decode cX2_drops 10 = .ok (.iload_n 1, 1) := by decide +kernel
theorem dX2_drops_11 : decode cX2_drops 11 = .ok (.iload_n 3, 1) := by decide +kernel
theorem dX2_drops_12 : decode cX2_drops 12 = .ok (.iconst 1, 1) := by decide +kernel
theorem dX2_drops_13 : decode cX2_drops 13 = .ok (.isub, 1) := by decide +kernel
theorem dX2_drops_14 : decode cX2_drops 14 = .ok (.invokestatic 25, 3) := by decide +kernel
theorem dX2_drops_17 : decode cX2_drops 17 = .ok (.iload_n 0, 1) := by decide +kernel
theorem dX2_drops_18 : decode cX2_drops 18 = .ok (.iload_n 1, 1) := by decide +kernel
theorem dX2_drops_19 : decode cX2_drops 19 = .ok (.iload_n 3, 1) := by decide +kernel
theorem dX2_drops_20 : decode cX2_drops 20 = .ok (.invokestatic 25, 3) := by decide +kernel
theorem dX2_drops_23 : decode cX2_drops 23 = .ok (.if_icmp .le 6, 3) := by decide +kernel
theorem dX2_drops_26 : decode cX2_drops 26 = .ok (.iinc 2 1, 3) := by decide +kernel
theorem dX2_drops_29 : decode cX2_drops 29 = .ok (.iinc 3 1, 3) := by decide +kernel
theorem dX2_drops_32 : decode cX2_drops 32 = .ok (.goto (-28), 3) := by decide +kernel
theorem dX2_drops_35 : decode cX2_drops 35 = .ok (.iload_n 2, 1) := by decide +kernel
theorem dX2_drops_36 : decode cX2_drops 36 = .ok (.ireturn, 1) := by decide +kernel
theorem dX2_inversions_0 : decode cX2_inversions 0 = .ok (.iconst 0, 1) := by decide +kernel
theorem dX2_inversions_1 : decode cX2_inversions 1 = .ok (.istore_n 2, 1) := by decide +kernel
theorem dX2_inversions_2 : decode cX2_inversions 2 = .ok (.iconst 2, 1) := by decide +kernel
theorem dX2_inversions_3 : decode cX2_inversions 3 = .ok (.istore_n 3, 1) := by decide +kernel
theorem dX2_inversions_4 : decode cX2_inversions 4 = .ok (.iload_n 3, 1) := by decide +kernel
theorem dX2_inversions_5 : decode cX2_inversions 5 = .ok (.iload_n 1, 1) := by decide +kernel
theorem dX2_inversions_6 : decode cX2_inversions 6 = .ok (.if_icmp .gt 43, 3) := by decide +kernel
theorem dX2_inversions_9 : decode cX2_inversions 9 = .ok (.iconst 1, 1) := by decide +kernel
theorem dX2_inversions_10 : decode cX2_inversions 10 = .ok (.istore 4, 2) := by decide +kernel
theorem dX2_inversions_12 : decode cX2_inversions 12 = .ok (.iload 4, 2) := by decide +kernel
theorem dX2_inversions_14 : decode cX2_inversions 14 = .ok (.iload_n 3, 1) := by decide +kernel
theorem dX2_inversions_15 : decode cX2_inversions 15 = .ok (.if_icmp .ge 28, 3) := by decide +kernel
theorem dX2_inversions_18 : decode cX2_inversions 18 = .ok (.iload_n 0, 1) := by decide +kernel
theorem dX2_inversions_19 : decode cX2_inversions 19 = .ok (.iload_n 1, 1) := by decide +kernel
theorem dX2_inversions_20 : decode cX2_inversions 20 = .ok (.iload 4, 2) := by decide +kernel
theorem dX2_inversions_22 : decode cX2_inversions 22 = .ok (.invokestatic 25, 3) := by decide +kernel
theorem dX2_inversions_25 : decode cX2_inversions 25 = .ok (.iload_n 0, 1) := by decide +kernel
theorem dX2_inversions_26 : decode cX2_inversions 26 = .ok (.iload_n 1, 1) := by decide +kernel
theorem dX2_inversions_27 : decode cX2_inversions 27 = .ok (.iload_n 3, 1) := by decide +kernel
theorem dX2_inversions_28 : decode cX2_inversions 28 = .ok (.invokestatic 25, 3) := by decide +kernel
theorem dX2_inversions_31 : decode cX2_inversions 31 = .ok (.if_icmp .le 6, 3) := by decide +kernel
theorem dX2_inversions_34 : decode cX2_inversions 34 = .ok (.iinc 2 1, 3) := by decide +kernel
theorem dX2_inversions_37 : decode cX2_inversions 37 = .ok (.iinc 4 1, 3) := by decide +kernel
theorem dX2_inversions_40 : decode cX2_inversions 40 = .ok (.goto (-28), 3) := by decide +kernel
theorem dX2_inversions_43 : decode cX2_inversions 43 = .ok (.iinc 3 1, 3) := by decide +kernel
theorem dX2_inversions_46 : decode cX2_inversions 46 = .ok (.goto (-42), 3) := by decide +kernel
theorem dX2_inversions_49 : decode cX2_inversions 49 = .ok (.iload_n 2, 1) := by decide +kernel
theorem dX2_inversions_50 : decode cX2_inversions 50 = .ok (.ireturn, 1) := by decide +kernel
theorem dX2_records_0 : decode cX2_records 0 = .ok (.iconst 0, 1) := by decide +kernel
theorem dX2_records_1 : decode cX2_records 1 = .ok (.istore_n 2, 1) := by decide +kernel
theorem dX2_records_2 : decode cX2_records 2 = .ok (.iconst 0, 1) := by decide +kernel
theorem dX2_records_3 : decode cX2_records 3 = .ok (.istore_n 3, 1) := by decide +kernel
theorem dX2_records_4 : decode cX2_records 4 = .ok (.iconst 1, 1) := by decide +kernel
theorem dX2_records_5 : decode cX2_records 5 = .ok (.istore 4, 2) := by decide +kernel
theorem dX2_records_7 : decode cX2_records 7 = .ok (.iload 4, 2) := by decide +kernel
theorem dX2_records_9 : decode cX2_records 9 = .ok (.iload_n 1, 1) := by decide +kernel
theorem dX2_records_10 : decode cX2_records 10 = .ok (.if_icmp .gt 30, 3) := by decide +kernel
theorem dX2_records_13 : decode cX2_records 13 = .ok (.iload_n 0, 1) := by decide +kernel
theorem dX2_records_14 : decode cX2_records 14 = .ok (.iload_n 1, 1) := by decide +kernel
theorem dX2_records_15 : decode cX2_records 15 = .ok (.iload 4, 2) := by decide +kernel
theorem dX2_records_17 : decode cX2_records 17 = .ok (.invokestatic 25, 3) := by decide +kernel
theorem dX2_records_20 : decode cX2_records 20 = .ok (.istore 5, 2) := by decide +kernel
theorem dX2_records_22 : decode cX2_records 22 = .ok (.iload 5, 2) := by decide +kernel
theorem dX2_records_24 : decode cX2_records 24 = .ok (.iload_n 3, 1) := by decide +kernel
theorem dX2_records_25 : decode cX2_records 25 = .ok (.if_icmp .le 9, 3) := by decide +kernel
theorem dX2_records_28 : decode cX2_records 28 = .ok (.iload 5, 2) := by decide +kernel
theorem dX2_records_30 : decode cX2_records 30 = .ok (.istore_n 3, 1) := by decide +kernel
theorem dX2_records_31 : decode cX2_records 31 = .ok (.iinc 2 1, 3) := by decide +kernel
theorem dX2_records_34 : decode cX2_records 34 = .ok (.iinc 4 1, 3) := by decide +kernel
theorem dX2_records_37 : decode cX2_records 37 = .ok (.goto (-30), 3) := by decide +kernel
theorem dX2_records_40 : decode cX2_records 40 = .ok (.iload_n 2, 1) := by decide +kernel
theorem dX2_records_41 : decode cX2_records 41 = .ok (.ireturn, 1) := by decide +kernel
theorem dX2_unmoved_0 : decode cX2_unmoved 0 = .ok (.iconst 0, 1) := by decide +kernel
theorem dX2_unmoved_1 : decode cX2_unmoved 1 = .ok (.istore_n 2, 1) := by decide +kernel
theorem dX2_unmoved_2 : decode cX2_unmoved 2 = .ok (.iconst 1, 1) := by decide +kernel
theorem dX2_unmoved_3 : decode cX2_unmoved 3 = .ok (.istore_n 3, 1) := by decide +kernel
theorem dX2_unmoved_4 : decode cX2_unmoved 4 = .ok (.iload_n 3, 1) := by decide +kernel
theorem dX2_unmoved_5 : decode cX2_unmoved 5 = .ok (.iload_n 1, 1) := by decide +kernel
theorem dX2_unmoved_6 : decode cX2_unmoved 6 = .ok (.if_icmp .gt 22, 3) := by decide +kernel
theorem dX2_unmoved_9 : decode cX2_unmoved 9 = .ok (.iload_n 0, 1) := by decide +kernel
theorem dX2_unmoved_10 : decode cX2_unmoved 10 = .ok (.iload_n 1, 1) := by decide +kernel
theorem dX2_unmoved_11 : decode cX2_unmoved 11 = .ok (.iload_n 3, 1) := by decide +kernel
theorem dX2_unmoved_12 : decode cX2_unmoved 12 = .ok (.invokestatic 25, 3) := by decide +kernel
theorem dX2_unmoved_15 : decode cX2_unmoved 15 = .ok (.iload_n 3, 1) := by decide +kernel
theorem dX2_unmoved_16 : decode cX2_unmoved 16 = .ok (.if_icmp .ne 6, 3) := by decide +kernel
theorem dX2_unmoved_19 : decode cX2_unmoved 19 = .ok (.iinc 2 1, 3) := by decide +kernel
theorem dX2_unmoved_22 : decode cX2_unmoved 22 = .ok (.iinc 3 1, 3) := by decide +kernel
theorem dX2_unmoved_25 : decode cX2_unmoved 25 = .ok (.goto (-21), 3) := by decide +kernel
theorem dX2_unmoved_28 : decode cX2_unmoved 28 = .ok (.iload_n 2, 1) := by decide +kernel
theorem dX2_unmoved_29 : decode cX2_unmoved 29 = .ok (.ireturn, 1) := by decide +kernel
theorem dX2_timesContained_0 : decode cX2_timesContained 0 = .ok (.iconst 0, 1) := by decide +kernel
theorem dX2_timesContained_1 : decode cX2_timesContained 1 = .ok (.istore 4, 2) := by decide +kernel
theorem dX2_timesContained_3 : decode cX2_timesContained 3 = .ok (.iconst 0, 1) := by decide +kernel
theorem dX2_timesContained_4 : decode cX2_timesContained 4 = .ok (.istore 5, 2) := by decide +kernel
theorem dX2_timesContained_6 : decode cX2_timesContained 6 = .ok (.iload 5, 2) := by decide +kernel
theorem dX2_timesContained_8 : decode cX2_timesContained 8 = .ok (.iconst 1, 1) := by decide +kernel
theorem dX2_timesContained_9 : decode cX2_timesContained 9 = .ok (.iload_n 1, 1) := by decide +kernel
theorem dX2_timesContained_10 : decode cX2_timesContained 10 = .ok (.ishl, 1) := by decide +kernel
theorem dX2_timesContained_11 : decode cX2_timesContained 11 = .ok (.if_icmp .ge 36, 3) := by decide +kernel
theorem dX2_timesContained_14 : decode cX2_timesContained 14 = .ok (.iload 5, 2) := by decide +kernel
theorem dX2_timesContained_16 : decode cX2_timesContained 16 = .ok (.invokestatic 52, 3) := by decide +kernel
theorem dX2_timesContained_19 : decode cX2_timesContained 19 = .ok (.iload_n 3, 1) := by decide +kernel
theorem dX2_timesContained_20 : decode cX2_timesContained 20 = .ok (.if_icmp .ne 21, 3) := by decide +kernel
theorem dX2_timesContained_23 : decode cX2_timesContained 23 = .ok (.iload_n 0, 1) := by decide +kernel
theorem dX2_timesContained_24 : decode cX2_timesContained 24 = .ok (.iload_n 1, 1) := by decide +kernel
theorem dX2_timesContained_25 : decode cX2_timesContained 25 = .ok (.iload 5, 2) := by decide +kernel
theorem dX2_timesContained_27 : decode cX2_timesContained 27 = .ok (.invokestatic 58, 3) := by decide +kernel
theorem dX2_timesContained_30 : decode cX2_timesContained 30 = .ok (.iload_n 3, 1) := by decide +kernel
theorem dX2_timesContained_31 : decode cX2_timesContained 31 = .ok (.invokestatic 61, 3) := by decide +kernel
theorem dX2_timesContained_34 : decode cX2_timesContained 34 = .ok (.iload_n 2, 1) := by decide +kernel
theorem dX2_timesContained_35 : decode cX2_timesContained 35 = .ok (.if_icmp .ne 6, 3) := by decide +kernel
theorem dX2_timesContained_38 : decode cX2_timesContained 38 = .ok (.iinc 4 1, 3) := by decide +kernel
theorem dX2_timesContained_41 : decode cX2_timesContained 41 = .ok (.iinc 5 1, 3) := by decide +kernel
theorem dX2_timesContained_44 : decode cX2_timesContained 44 = .ok (.goto (-38), 3) := by decide +kernel
theorem dX2_timesContained_47 : decode cX2_timesContained 47 = .ok (.iload 4, 2) := by decide +kernel
theorem dX2_timesContained_49 : decode cX2_timesContained 49 = .ok (.ireturn, 1) := by decide +kernel
theorem dX2_chosen_0 : decode cX2_chosen 0 = .ok (.iconst 0, 1) := by decide +kernel
theorem dX2_chosen_1 : decode cX2_chosen 1 = .ok (.istore_n 3, 1) := by decide +kernel
theorem dX2_chosen_2 : decode cX2_chosen 2 = .ok (.iconst 1, 1) := by decide +kernel
theorem dX2_chosen_3 : decode cX2_chosen 3 = .ok (.istore 4, 2) := by decide +kernel
theorem dX2_chosen_5 : decode cX2_chosen 5 = .ok (.iload 4, 2) := by decide +kernel
theorem dX2_chosen_7 : decode cX2_chosen 7 = .ok (.iload_n 1, 1) := by decide +kernel
theorem dX2_chosen_8 : decode cX2_chosen 8 = .ok (.if_icmp .gt 34, 3) := by decide +kernel
theorem dX2_chosen_11 : decode cX2_chosen 11 = .ok (.iload_n 2, 1) := by decide +kernel
theorem dX2_chosen_12 : decode cX2_chosen 12 = .ok (.iload 4, 2) := by decide +kernel
theorem dX2_chosen_14 : decode cX2_chosen 14 = .ok (.iconst 1, 1) := by decide +kernel
theorem dX2_chosen_15 : decode cX2_chosen 15 = .ok (.isub, 1) := by decide +kernel
theorem dX2_chosen_16 : decode cX2_chosen 16 = .ok (.ishr, 1) := by decide +kernel
theorem dX2_chosen_17 : decode cX2_chosen 17 = .ok (.iconst 1, 1) := by decide +kernel
theorem dX2_chosen_18 : decode cX2_chosen 18 = .ok (.iand, 1) := by decide +kernel
theorem dX2_chosen_19 : decode cX2_chosen 19 = .ok (.iconst 1, 1) := by decide +kernel
theorem dX2_chosen_20 : decode cX2_chosen 20 = .ok (.if_icmp .ne 16, 3) := by decide +kernel
theorem dX2_chosen_23 : decode cX2_chosen 23 = .ok (.iload_n 3, 1) := by decide +kernel
theorem dX2_chosen_24 : decode cX2_chosen 24 = .ok (.bipush 10, 2) := by decide +kernel
theorem dX2_chosen_26 : decode cX2_chosen 26 = .ok (.imul, 1) := by decide +kernel
theorem dX2_chosen_27 : decode cX2_chosen 27 = .ok (.iload_n 0, 1) := by decide +kernel
theorem dX2_chosen_28 : decode cX2_chosen 28 = .ok (.iload_n 1, 1) := by decide +kernel
theorem dX2_chosen_29 : decode cX2_chosen 29 = .ok (.iload 4, 2) := by decide +kernel
theorem dX2_chosen_31 : decode cX2_chosen 31 = .ok (.invokestatic 25, 3) := by decide +kernel
theorem dX2_chosen_34 : decode cX2_chosen 34 = .ok (.iadd, 1) := by decide +kernel
theorem dX2_chosen_35 : decode cX2_chosen 35 = .ok (.istore_n 3, 1) := by decide +kernel
theorem dX2_chosen_36 : decode cX2_chosen 36 = .ok (.iinc 4 1, 3) := by decide +kernel
theorem dX2_chosen_39 : decode cX2_chosen 39 = .ok (.goto (-34), 3) := by decide +kernel
theorem dX2_chosen_42 : decode cX2_chosen 42 = .ok (.iload_n 3, 1) := by decide +kernel
theorem dX2_chosen_43 : decode cX2_chosen 43 = .ok (.ireturn, 1) := by decide +kernel
theorem dX2_patternOf_0 : decode cX2_patternOf 0 = .ok (.iconst 0, 1) := by decide +kernel
theorem dX2_patternOf_1 : decode cX2_patternOf 1 = .ok (.istore_n 2, 1) := by decide +kernel
theorem dX2_patternOf_2 : decode cX2_patternOf 2 = .ok (.iconst 1, 1) := by decide +kernel
theorem dX2_patternOf_3 : decode cX2_patternOf 3 = .ok (.istore_n 3, 1) := by decide +kernel
theorem dX2_patternOf_4 : decode cX2_patternOf 4 = .ok (.iload_n 3, 1) := by decide +kernel
theorem dX2_patternOf_5 : decode cX2_patternOf 5 = .ok (.iload_n 1, 1) := by decide +kernel
theorem dX2_patternOf_6 : decode cX2_patternOf 6 = .ok (.if_icmp .gt 54, 3) := by decide +kernel
theorem dX2_patternOf_9 : decode cX2_patternOf 9 = .ok (.iconst 1, 1) := by decide +kernel
theorem dX2_patternOf_10 : decode cX2_patternOf 10 = .ok (.istore 4, 2) := by decide +kernel
theorem dX2_patternOf_12 : decode cX2_patternOf 12 = .ok (.iconst 1, 1) := by decide +kernel
theorem dX2_patternOf_13 : decode cX2_patternOf 13 = .ok (.istore 5, 2) := by decide +kernel
theorem dX2_patternOf_15 : decode cX2_patternOf 15 = .ok (.iload 5, 2) := by decide +kernel
theorem dX2_patternOf_17 : decode cX2_patternOf 17 = .ok (.iload_n 1, 1) := by decide +kernel
theorem dX2_patternOf_18 : decode cX2_patternOf 18 = .ok (.if_icmp .gt 28, 3) := by decide +kernel
theorem dX2_patternOf_21 : decode cX2_patternOf 21 = .ok (.iload_n 0, 1) := by decide +kernel
theorem dX2_patternOf_22 : decode cX2_patternOf 22 = .ok (.iload_n 1, 1) := by decide +kernel
theorem dX2_patternOf_23 : decode cX2_patternOf 23 = .ok (.iload 5, 2) := by decide +kernel
theorem dX2_patternOf_25 : decode cX2_patternOf 25 = .ok (.invokestatic 25, 3) := by decide +kernel
theorem dX2_patternOf_28 : decode cX2_patternOf 28 = .ok (.iload_n 0, 1) := by decide +kernel
theorem dX2_patternOf_29 : decode cX2_patternOf 29 = .ok (.iload_n 1, 1) := by decide +kernel
theorem dX2_patternOf_30 : decode cX2_patternOf 30 = .ok (.iload_n 3, 1) := by decide +kernel
theorem dX2_patternOf_31 : decode cX2_patternOf 31 = .ok (.invokestatic 25, 3) := by decide +kernel
theorem dX2_patternOf_34 : decode cX2_patternOf 34 = .ok (.if_icmp .ge 6, 3) := by decide +kernel
theorem dX2_patternOf_37 : decode cX2_patternOf 37 = .ok (.iinc 4 1, 3) := by decide +kernel
theorem dX2_patternOf_40 : decode cX2_patternOf 40 = .ok (.iinc 5 1, 3) := by decide +kernel
theorem dX2_patternOf_43 : decode cX2_patternOf 43 = .ok (.goto (-28), 3) := by decide +kernel
theorem dX2_patternOf_46 : decode cX2_patternOf 46 = .ok (.iload_n 2, 1) := by decide +kernel
theorem dX2_patternOf_47 : decode cX2_patternOf 47 = .ok (.bipush 10, 2) := by decide +kernel
theorem dX2_patternOf_49 : decode cX2_patternOf 49 = .ok (.imul, 1) := by decide +kernel
theorem dX2_patternOf_50 : decode cX2_patternOf 50 = .ok (.iload 4, 2) := by decide +kernel
theorem dX2_patternOf_52 : decode cX2_patternOf 52 = .ok (.iadd, 1) := by decide +kernel
theorem dX2_patternOf_53 : decode cX2_patternOf 53 = .ok (.istore_n 2, 1) := by decide +kernel
theorem dX2_patternOf_54 : decode cX2_patternOf 54 = .ok (.iinc 3 1, 3) := by decide +kernel
theorem dX2_patternOf_57 : decode cX2_patternOf 57 = .ok (.goto (-53), 3) := by decide +kernel
theorem dX2_patternOf_60 : decode cX2_patternOf 60 = .ok (.iload_n 2, 1) := by decide +kernel
theorem dX2_patternOf_61 : decode cX2_patternOf 61 = .ok (.ireturn, 1) := by decide +kernel
theorem dX7_node_0 : decode cX7_node 0 = .ok (.iconst 1, 1) := by decide +kernel
theorem dX7_node_1 : decode cX7_node 1 = .ok (.iconst 2, 1) := by decide +kernel
theorem dX7_node_2 : decode cX7_node 2 = .ok (.iload_n 1, 1) := by decide +kernel
theorem dX7_node_3 : decode cX7_node 3 = .ok (.imul, 1) := by decide +kernel
theorem dX7_node_4 : decode cX7_node 4 = .ok (.ishl, 1) := by decide +kernel
theorem dX7_node_5 : decode cX7_node 5 = .ok (.iload_n 0, 1) := by decide +kernel
theorem dX7_node_6 : decode cX7_node 6 = .ok (.ior, 1) := by decide +kernel
theorem dX7_node_7 : decode cX7_node 7 = .ok (.iconst 1, 1) := by decide +kernel
theorem dX7_node_8 : decode cX7_node 8 = .ok (.ishl, 1) := by decide +kernel
theorem dX7_node_9 : decode cX7_node 9 = .ok (.iconst 2, 1) := by decide +kernel
theorem dX7_node_10 : decode cX7_node 10 = .ok (.iload_n 3, 1) := by decide +kernel
theorem dX7_node_11 : decode cX7_node 11 = .ok (.imul, 1) := by decide +kernel
theorem dX7_node_12 : decode cX7_node 12 = .ok (.ishl, 1) := by decide +kernel
theorem dX7_node_13 : decode cX7_node 13 = .ok (.iload_n 2, 1) := by decide +kernel
theorem dX7_node_14 : decode cX7_node 14 = .ok (.ior, 1) := by decide +kernel
theorem dX7_node_15 : decode cX7_node 15 = .ok (.ireturn, 1) := by decide +kernel
theorem dX7_leftOf_0 : decode cX7_leftOf 0 = .ok (.iload_n 0, 1) := by decide +kernel
theorem dX7_leftOf_1 : decode cX7_leftOf 1 = .ok (.iconst 2, 1) := by decide +kernel
theorem dX7_leftOf_2 : decode cX7_leftOf 2 = .ok (.iload_n 1, 1) := by decide +kernel
theorem dX7_leftOf_3 : decode cX7_leftOf 3 = .ok (.iload_n 2, 1) := by decide +kernel
theorem dX7_leftOf_4 : decode cX7_leftOf 4 = .ok (.isub, 1) := by decide +kernel
theorem dX7_leftOf_5 : decode cX7_leftOf 5 = .ok (.imul, 1) := by decide +kernel
theorem dX7_leftOf_6 : decode cX7_leftOf 6 = .ok (.iconst 1, 1) := by decide +kernel
theorem dX7_leftOf_7 : decode cX7_leftOf 7 = .ok (.isub, 1) := by decide +kernel
theorem dX7_leftOf_8 : decode cX7_leftOf 8 = .ok (.iconst 2, 1) := by decide +kernel
theorem dX7_leftOf_9 : decode cX7_leftOf 9 = .ok (.iload_n 2, 1) := by decide +kernel
theorem dX7_leftOf_10 : decode cX7_leftOf 10 = .ok (.imul, 1) := by decide +kernel
theorem dX7_leftOf_11 : decode cX7_leftOf 11 = .ok (.invokestatic 9, 3) := by decide +kernel
theorem dX7_leftOf_14 : decode cX7_leftOf 14 = .ok (.ireturn, 1) := by decide +kernel
theorem dX7_rightOf_0 : decode cX7_rightOf 0 = .ok (.iload_n 0, 1) := by decide +kernel
theorem dX7_rightOf_1 : decode cX7_rightOf 1 = .ok (.iconst 0, 1) := by decide +kernel
theorem dX7_rightOf_2 : decode cX7_rightOf 2 = .ok (.iconst 2, 1) := by decide +kernel
theorem dX7_rightOf_3 : decode cX7_rightOf 3 = .ok (.iload_n 1, 1) := by decide +kernel
theorem dX7_rightOf_4 : decode cX7_rightOf 4 = .ok (.imul, 1) := by decide +kernel
theorem dX7_rightOf_5 : decode cX7_rightOf 5 = .ok (.invokestatic 9, 3) := by decide +kernel
theorem dX7_rightOf_8 : decode cX7_rightOf 8 = .ok (.ireturn, 1) := by decide +kernel
theorem dX7_mirror_0 : decode cX7_mirror 0 = .ok (.iload_n 1, 1) := by decide +kernel
theorem dX7_mirror_1 : decode cX7_mirror 1 = .ok (.iconst 1, 1) := by decide +kernel
theorem dX7_mirror_2 : decode cX7_mirror 2 = .ok (.if_icmp .lt 9, 3) := by decide +kernel
theorem dX7_mirror_5 : decode cX7_mirror 5 = .ok (.iload_n 1, 1) := by decide +kernel
theorem dX7_mirror_6 : decode cX7_mirror 6 = .ok (.bipush 6, 2) := by decide +kernel
theorem dX7_mirror_8 : decode cX7_mirror 8 = .ok (.if_icmp .le 5, 3) := by decide +kernel
theorem dX7_mirror_11 : decode cX7_mirror 11 = .ok (.iconst 0, 1) := by decide +kernel
theorem dX7_mirror_12 : decode cX7_mirror 12 = .ok (.ireturn, 1) := by decide +kernel
theorem dX7_mirror_13 : decode cX7_mirror 13 = .ok (.iload_n 0, 1) := by decide +kernel
theorem dX7_mirror_14 : decode cX7_mirror 14 = .ok (.iload_n 1, 1) := by decide +kernel
theorem dX7_mirror_15 : decode cX7_mirror 15 = .ok (.invokestatic 15, 3) := by decide +kernel
theorem dX7_mirror_18 : decode cX7_mirror 18 = .ok (.istore_n 2, 1) := by decide +kernel
theorem dX7_mirror_19 : decode cX7_mirror 19 = .ok (.iload_n 1, 1) := by decide +kernel
theorem dX7_mirror_20 : decode cX7_mirror 20 = .ok (.iconst 1, 1) := by decide +kernel
theorem dX7_mirror_21 : decode cX7_mirror 21 = .ok (.isub, 1) := by decide +kernel
theorem dX7_mirror_22 : decode cX7_mirror 22 = .ok (.iload_n 2, 1) := by decide +kernel
theorem dX7_mirror_23 : decode cX7_mirror 23 = .ok (.isub, 1) := by decide +kernel
theorem dX7_mirror_24 : decode cX7_mirror 24 = .ok (.istore_n 3, 1) := by decide +kernel
theorem dX7_mirror_25 : decode cX7_mirror 25 = .ok (.iload_n 0, 1) := by decide +kernel
theorem dX7_mirror_26 : decode cX7_mirror 26 = .ok (.iload_n 1, 1) := by decide +kernel
theorem dX7_mirror_27 : decode cX7_mirror 27 = .ok (.iload_n 2, 1) := by decide +kernel
theorem dX7_mirror_28 : decode cX7_mirror 28 = .ok (.invokestatic 19, 3) := by decide +kernel
theorem dX7_mirror_31 : decode cX7_mirror 31 = .ok (.iload_n 2, 1) := by decide +kernel
theorem dX7_mirror_32 : decode cX7_mirror 32 = .ok (.invokestatic 24, 3) := by decide +kernel
theorem dX7_mirror_35 : decode cX7_mirror 35 = .ok (.istore 4, 2) := by decide +kernel
theorem dX7_mirror_37 : decode cX7_mirror 37 = .ok (.iload_n 0, 1) := by decide +kernel
theorem dX7_mirror_38 : decode cX7_mirror 38 = .ok (.iload_n 3, 1) := by decide +kernel
theorem dX7_mirror_39 : decode cX7_mirror 39 = .ok (.invokestatic 27, 3) := by decide +kernel
theorem dX7_mirror_42 : decode cX7_mirror 42 = .ok (.iload_n 3, 1) := by decide +kernel
theorem dX7_mirror_43 : decode cX7_mirror 43 = .ok (.invokestatic 24, 3) := by decide +kernel
theorem dX7_mirror_46 : decode cX7_mirror 46 = .ok (.istore 5, 2) := by decide +kernel
theorem dX7_mirror_48 : decode cX7_mirror 48 = .ok (.iload 5, 2) := by decide +kernel
theorem dX7_mirror_50 : decode cX7_mirror 50 = .ok (.iload_n 3, 1) := by decide +kernel
theorem dX7_mirror_51 : decode cX7_mirror 51 = .ok (.iload 4, 2) := by decide +kernel
theorem dX7_mirror_53 : decode cX7_mirror 53 = .ok (.iload_n 2, 1) := by decide +kernel
theorem dX7_mirror_54 : decode cX7_mirror 54 = .ok (.invokestatic 30, 3) := by decide +kernel
theorem dX7_mirror_57 : decode cX7_mirror 57 = .ok (.ireturn, 1) := by decide +kernel
theorem dX7_label_0 : decode cX7_label 0 = .ok (.iload_n 1, 1) := by decide +kernel
theorem dX7_label_1 : decode cX7_label 1 = .ok (.iconst 1, 1) := by decide +kernel
theorem dX7_label_2 : decode cX7_label 2 = .ok (.if_icmp .lt 9, 3) := by decide +kernel
theorem dX7_label_5 : decode cX7_label 5 = .ok (.iload_n 1, 1) := by decide +kernel
theorem dX7_label_6 : decode cX7_label 6 = .ok (.bipush 6, 2) := by decide +kernel
theorem dX7_label_8 : decode cX7_label 8 = .ok (.if_icmp .le 5, 3) := by decide +kernel
theorem dX7_label_11 : decode cX7_label 11 = .ok (.iconst 0, 1) := by decide +kernel
theorem dX7_label_12 : decode cX7_label 12 = .ok (.ireturn, 1) := by decide +kernel
theorem dX7_label_13 : decode cX7_label 13 = .ok (.iload_n 0, 1) := by decide +kernel
theorem dX7_label_14 : decode cX7_label 14 = .ok (.iload_n 1, 1) := by decide +kernel
theorem dX7_label_15 : decode cX7_label 15 = .ok (.invokestatic 15, 3) := by decide +kernel
theorem dX7_label_18 : decode cX7_label 18 = .ok (.istore_n 3, 1) := by decide +kernel
theorem dX7_label_19 : decode cX7_label 19 = .ok (.iload_n 1, 1) := by decide +kernel
theorem dX7_label_20 : decode cX7_label 20 = .ok (.iconst 1, 1) := by decide +kernel
theorem dX7_label_21 : decode cX7_label 21 = .ok (.isub, 1) := by decide +kernel
theorem dX7_label_22 : decode cX7_label 22 = .ok (.iload_n 3, 1) := by decide +kernel
theorem dX7_label_23 : decode cX7_label 23 = .ok (.isub, 1) := by decide +kernel
theorem dX7_label_24 : decode cX7_label 24 = .ok (.istore 4, 2) := by decide +kernel
theorem dX7_label_26 : decode cX7_label 26 = .ok (.iload_n 0, 1) := by decide +kernel
theorem dX7_label_27 : decode cX7_label 27 = .ok (.iload_n 1, 1) := by decide +kernel
theorem dX7_label_28 : decode cX7_label 28 = .ok (.iload_n 3, 1) := by decide +kernel
theorem dX7_label_29 : decode cX7_label 29 = .ok (.invokestatic 19, 3) := by decide +kernel
theorem dX7_label_32 : decode cX7_label 32 = .ok (.iload_n 3, 1) := by decide +kernel
theorem dX7_label_33 : decode cX7_label 33 = .ok (.iload_n 2, 1) := by decide +kernel
theorem dX7_label_34 : decode cX7_label 34 = .ok (.invokestatic 34, 3) := by decide +kernel
theorem dX7_label_37 : decode cX7_label 37 = .ok (.istore 5, 2) := by decide +kernel
theorem dX7_label_39 : decode cX7_label 39 = .ok (.iload_n 0, 1) := by decide +kernel
theorem dX7_label_40 : decode cX7_label 40 = .ok (.iload 4, 2) := by decide +kernel
theorem dX7_label_42 : decode cX7_label 42 = .ok (.invokestatic 27, 3) := by decide +kernel
theorem dX7_label_45 : decode cX7_label 45 = .ok (.iload 4, 2) := by decide +kernel
theorem dX7_label_47 : decode cX7_label 47 = .ok (.iload_n 2, 1) := by decide +kernel
theorem dX7_label_48 : decode cX7_label 48 = .ok (.iload_n 3, 1) := by decide +kernel
theorem dX7_label_49 : decode cX7_label 49 = .ok (.iadd, 1) := by decide +kernel
theorem dX7_label_50 : decode cX7_label 50 = .ok (.invokestatic 34, 3) := by decide +kernel
theorem dX7_label_53 : decode cX7_label 53 = .ok (.istore 6, 2) := by decide +kernel
theorem dX7_label_55 : decode cX7_label 55 = .ok (.iload 5, 2) := by decide +kernel
theorem dX7_label_57 : decode cX7_label 57 = .ok (.bipush 10, 2) := by decide +kernel
theorem dX7_label_59 : decode cX7_label 59 = .ok (.imul, 1) := by decide +kernel
theorem dX7_label_60 : decode cX7_label 60 = .ok (.iload_n 1, 1) := by decide +kernel
theorem dX7_label_61 : decode cX7_label 61 = .ok (.iadd, 1) := by decide +kernel
theorem dX7_label_62 : decode cX7_label 62 = .ok (.iload_n 2, 1) := by decide +kernel
theorem dX7_label_63 : decode cX7_label 63 = .ok (.iadd, 1) := by decide +kernel
theorem dX7_label_64 : decode cX7_label 64 = .ok (.getstatic 37, 3) := by decide +kernel
theorem dX7_label_67 : decode cX7_label 67 = .ok (.iload 4, 2) := by decide +kernel
theorem dX7_label_69 : decode cX7_label 69 = .ok (.invokestatic 41, 3) := by decide +kernel
theorem dX7_label_72 : decode cX7_label 72 = .ok (.imul, 1) := by decide +kernel
theorem dX7_label_73 : decode cX7_label 73 = .ok (.iload 6, 2) := by decide +kernel
theorem dX7_label_75 : decode cX7_label 75 = .ok (.iadd, 1) := by decide +kernel
theorem dX7_label_76 : decode cX7_label 76 = .ok (.ireturn, 1) := by decide +kernel
theorem dX7_valueOf_0 : decode cX7_valueOf 0 = .ok (.iload_n 2, 1) := by decide +kernel
theorem dX7_valueOf_1 : decode cX7_valueOf 1 = .ok (.iconst 1, 1) := by decide +kernel
theorem dX7_valueOf_2 : decode cX7_valueOf 2 = .ok (.if_icmp .lt 9, 3) := by decide +kernel
theorem dX7_valueOf_5 : decode cX7_valueOf 5 = .ok (.iload_n 2, 1) := by decide +kernel
theorem dX7_valueOf_6 : decode cX7_valueOf 6 = .ok (.bipush 6, 2) := by decide +kernel
theorem dX7_valueOf_8 : decode cX7_valueOf 8 = .ok (.if_icmp .le 5, 3) := by decide +kernel
theorem dX7_valueOf_11 : decode cX7_valueOf 11 = .ok (.iconst 0, 1) := by decide +kernel
theorem dX7_valueOf_12 : decode cX7_valueOf 12 = .ok (.ireturn, 1) := by decide +kernel
theorem dX7_valueOf_13 : decode cX7_valueOf 13 = .ok (.iload_n 1, 1) := by decide +kernel
theorem dX7_valueOf_14 : decode cX7_valueOf 14 = .ok (.iload_n 2, 1) := by decide +kernel
theorem dX7_valueOf_15 : decode cX7_valueOf 15 = .ok (.invokestatic 15, 3) := by decide +kernel
theorem dX7_valueOf_18 : decode cX7_valueOf 18 = .ok (.istore_n 3, 1) := by decide +kernel
theorem dX7_valueOf_19 : decode cX7_valueOf 19 = .ok (.iload_n 2, 1) := by decide +kernel
theorem dX7_valueOf_20 : decode cX7_valueOf 20 = .ok (.iconst 1, 1) := by decide +kernel
theorem dX7_valueOf_21 : decode cX7_valueOf 21 = .ok (.isub, 1) := by decide +kernel
theorem dX7_valueOf_22 : decode cX7_valueOf 22 = .ok (.iload_n 3, 1) := by decide +kernel
theorem dX7_valueOf_23 : decode cX7_valueOf 23 = .ok (.isub, 1) := by decide +kernel
theorem dX7_valueOf_24 : decode cX7_valueOf 24 = .ok (.istore 4, 2) := by decide +kernel
theorem dX7_valueOf_26 : decode cX7_valueOf 26 = .ok (.iload_n 0, 1) := by decide +kernel
theorem dX7_valueOf_27 : decode cX7_valueOf 27 = .ok (.iload_n 1, 1) := by decide +kernel
theorem dX7_valueOf_28 : decode cX7_valueOf 28 = .ok (.iload_n 2, 1) := by decide +kernel
theorem dX7_valueOf_29 : decode cX7_valueOf 29 = .ok (.iload_n 3, 1) := by decide +kernel
theorem dX7_valueOf_30 : decode cX7_valueOf 30 = .ok (.invokestatic 19, 3) := by decide +kernel
theorem dX7_valueOf_33 : decode cX7_valueOf 33 = .ok (.iload_n 3, 1) := by decide +kernel
theorem dX7_valueOf_34 : decode cX7_valueOf 34 = .ok (.invokestatic 47, 3) := by decide +kernel
theorem dX7_valueOf_37 : decode cX7_valueOf 37 = .ok (.istore 5, 2) := by decide +kernel
theorem dX7_valueOf_39 : decode cX7_valueOf 39 = .ok (.iload_n 0, 1) := by decide +kernel
theorem dX7_valueOf_40 : decode cX7_valueOf 40 = .ok (.iload_n 1, 1) := by decide +kernel
theorem dX7_valueOf_41 : decode cX7_valueOf 41 = .ok (.iload 4, 2) := by decide +kernel
theorem dX7_valueOf_43 : decode cX7_valueOf 43 = .ok (.invokestatic 27, 3) := by decide +kernel
theorem dX7_valueOf_46 : decode cX7_valueOf 46 = .ok (.iload 4, 2) := by decide +kernel
theorem dX7_valueOf_48 : decode cX7_valueOf 48 = .ok (.invokestatic 47, 3) := by decide +kernel
theorem dX7_valueOf_51 : decode cX7_valueOf 51 = .ok (.istore 6, 2) := by decide +kernel
theorem dX7_valueOf_53 : decode cX7_valueOf 53 = .ok (.iload_n 0, 1) := by decide +kernel
theorem dX7_valueOf_54 : decode cX7_valueOf 54 = .ok (.tableswitch 56 0 2 #[26, 41, 46], 26) := by decide +kernel
theorem dX7_valueOf_80 : decode cX7_valueOf 80 = .ok (.iload_n 2, 1) := by decide +kernel
theorem dX7_valueOf_81 : decode cX7_valueOf 81 = .ok (.iconst 1, 1) := by decide +kernel
theorem dX7_valueOf_82 : decode cX7_valueOf 82 = .ok (.if_icmp .ne 7, 3) := by decide +kernel
theorem dX7_valueOf_85 : decode cX7_valueOf 85 = .ok (.iconst 1, 1) := by decide +kernel
theorem dX7_valueOf_86 : decode cX7_valueOf 86 = .ok (.goto 8, 3) := by decide +kernel
theorem dX7_valueOf_89 : decode cX7_valueOf 89 = .ok (.iload 5, 2) := by decide +kernel
theorem dX7_valueOf_91 : decode cX7_valueOf 91 = .ok (.iload 6, 2) := by decide +kernel
theorem dX7_valueOf_93 : decode cX7_valueOf 93 = .ok (.iadd, 1) := by decide +kernel
theorem dX7_valueOf_94 : decode cX7_valueOf 94 = .ok (.ireturn, 1) := by decide +kernel
theorem dX7_valueOf_95 : decode cX7_valueOf 95 = .ok (.iconst 1, 1) := by decide +kernel
theorem dX7_valueOf_96 : decode cX7_valueOf 96 = .ok (.iload 5, 2) := by decide +kernel
theorem dX7_valueOf_98 : decode cX7_valueOf 98 = .ok (.iadd, 1) := by decide +kernel
theorem dX7_valueOf_99 : decode cX7_valueOf 99 = .ok (.ireturn, 1) := by decide +kernel
theorem dX7_valueOf_100 : decode cX7_valueOf 100 = .ok (.iconst 1, 1) := by decide +kernel
theorem dX7_valueOf_101 : decode cX7_valueOf 101 = .ok (.iload 5, 2) := by decide +kernel
theorem dX7_valueOf_103 : decode cX7_valueOf 103 = .ok (.iload 6, 2) := by decide +kernel
theorem dX7_valueOf_105 : decode cX7_valueOf 105 = .ok (.invokestatic 50, 3) := by decide +kernel
theorem dX7_valueOf_108 : decode cX7_valueOf 108 = .ok (.iadd, 1) := by decide +kernel
theorem dX7_valueOf_109 : decode cX7_valueOf 109 = .ok (.ireturn, 1) := by decide +kernel
theorem dX7_valueOf_110 : decode cX7_valueOf 110 = .ok (.iload 5, 2) := by decide +kernel
theorem dX7_valueOf_112 : decode cX7_valueOf 112 = .ok (.iload 6, 2) := by decide +kernel
theorem dX7_valueOf_114 : decode cX7_valueOf 114 = .ok (.iadd, 1) := by decide +kernel
theorem dX7_valueOf_115 : decode cX7_valueOf 115 = .ok (.iload 4, 2) := by decide +kernel
theorem dX7_valueOf_117 : decode cX7_valueOf 117 = .ok (.ifCond .le 7, 3) := by decide +kernel
theorem dX7_valueOf_120 : decode cX7_valueOf 120 = .ok (.iconst 1, 1) := by decide +kernel
theorem dX7_valueOf_121 : decode cX7_valueOf 121 = .ok (.goto 4, 3) := by decide +kernel
theorem dX7_valueOf_124 : decode cX7_valueOf 124 = .ok (.iconst 0, 1) := by decide +kernel
theorem dX7_valueOf_125 : decode cX7_valueOf 125 = .ok (.iadd, 1) := by decide +kernel
theorem dX7_valueOf_126 : decode cX7_valueOf 126 = .ok (.ireturn, 1) := by decide +kernel
theorem dJ6_bitCount_0f7a4_0 : decode cJ6_bitCount_0f7a4 0 = .ok (.iload_n 0, 1) := by decide +kernel
theorem dJ6_bitCount_0f7a4_1 : decode cJ6_bitCount_0f7a4 1 = .ok (.iload_n 0, 1) := by decide +kernel
theorem dJ6_bitCount_0f7a4_2 : decode cJ6_bitCount_0f7a4 2 = .ok (.iconst 1, 1) := by decide +kernel
theorem dJ6_bitCount_0f7a4_3 : decode cJ6_bitCount_0f7a4 3 = .ok (.iushr, 1) := by decide +kernel
theorem dJ6_bitCount_0f7a4_4 : decode cJ6_bitCount_0f7a4 4 = .ok (.ldc_w 265, 3) := by decide +kernel
theorem dJ6_bitCount_0f7a4_7 : decode cJ6_bitCount_0f7a4 7 = .ok (.iand, 1) := by decide +kernel
theorem dJ6_bitCount_0f7a4_8 : decode cJ6_bitCount_0f7a4 8 = .ok (.isub, 1) := by decide +kernel
theorem dJ6_bitCount_0f7a4_9 : decode cJ6_bitCount_0f7a4 9 = .ok (.istore_n 0, 1) := by decide +kernel
theorem dJ6_bitCount_0f7a4_10 : decode cJ6_bitCount_0f7a4 10 = .ok (.iload_n 0, 1) := by decide +kernel
theorem dJ6_bitCount_0f7a4_11 : decode cJ6_bitCount_0f7a4 11 = .ok (.ldc_w 266, 3) := by decide +kernel
theorem dJ6_bitCount_0f7a4_14 : decode cJ6_bitCount_0f7a4 14 = .ok (.iand, 1) := by decide +kernel
theorem dJ6_bitCount_0f7a4_15 : decode cJ6_bitCount_0f7a4 15 = .ok (.iload_n 0, 1) := by decide +kernel
theorem dJ6_bitCount_0f7a4_16 : decode cJ6_bitCount_0f7a4 16 = .ok (.iconst 2, 1) := by decide +kernel
theorem dJ6_bitCount_0f7a4_17 : decode cJ6_bitCount_0f7a4 17 = .ok (.iushr, 1) := by decide +kernel
theorem dJ6_bitCount_0f7a4_18 : decode cJ6_bitCount_0f7a4 18 = .ok (.ldc_w 266, 3) := by decide +kernel
theorem dJ6_bitCount_0f7a4_21 : decode cJ6_bitCount_0f7a4 21 = .ok (.iand, 1) := by decide +kernel
theorem dJ6_bitCount_0f7a4_22 : decode cJ6_bitCount_0f7a4 22 = .ok (.iadd, 1) := by decide +kernel
theorem dJ6_bitCount_0f7a4_23 : decode cJ6_bitCount_0f7a4 23 = .ok (.istore_n 0, 1) := by decide +kernel
theorem dJ6_bitCount_0f7a4_24 : decode cJ6_bitCount_0f7a4 24 = .ok (.iload_n 0, 1) := by decide +kernel
theorem dJ6_bitCount_0f7a4_25 : decode cJ6_bitCount_0f7a4 25 = .ok (.iload_n 0, 1) := by decide +kernel
theorem dJ6_bitCount_0f7a4_26 : decode cJ6_bitCount_0f7a4 26 = .ok (.iconst 4, 1) := by decide +kernel
theorem dJ6_bitCount_0f7a4_27 : decode cJ6_bitCount_0f7a4 27 = .ok (.iushr, 1) := by decide +kernel
theorem dJ6_bitCount_0f7a4_28 : decode cJ6_bitCount_0f7a4 28 = .ok (.iadd, 1) := by decide +kernel
theorem dJ6_bitCount_0f7a4_29 : decode cJ6_bitCount_0f7a4 29 = .ok (.ldc_w 267, 3) := by decide +kernel
theorem dJ6_bitCount_0f7a4_32 : decode cJ6_bitCount_0f7a4 32 = .ok (.iand, 1) := by decide +kernel
theorem dJ6_bitCount_0f7a4_33 : decode cJ6_bitCount_0f7a4 33 = .ok (.istore_n 0, 1) := by decide +kernel
theorem dJ6_bitCount_0f7a4_34 : decode cJ6_bitCount_0f7a4 34 = .ok (.iload_n 0, 1) := by decide +kernel
theorem dJ6_bitCount_0f7a4_35 : decode cJ6_bitCount_0f7a4 35 = .ok (.iload_n 0, 1) := by decide +kernel
theorem dJ6_bitCount_0f7a4_36 : decode cJ6_bitCount_0f7a4 36 = .ok (.bipush 8, 2) := by decide +kernel
theorem dJ6_bitCount_0f7a4_38 : decode cJ6_bitCount_0f7a4 38 = .ok (.iushr, 1) := by decide +kernel
theorem dJ6_bitCount_0f7a4_39 : decode cJ6_bitCount_0f7a4 39 = .ok (.iadd, 1) := by decide +kernel
theorem dJ6_bitCount_0f7a4_40 : decode cJ6_bitCount_0f7a4 40 = .ok (.istore_n 0, 1) := by decide +kernel
theorem dJ6_bitCount_0f7a4_41 : decode cJ6_bitCount_0f7a4 41 = .ok (.iload_n 0, 1) := by decide +kernel
theorem dJ6_bitCount_0f7a4_42 : decode cJ6_bitCount_0f7a4 42 = .ok (.iload_n 0, 1) := by decide +kernel
theorem dJ6_bitCount_0f7a4_43 : decode cJ6_bitCount_0f7a4 43 = .ok (.bipush 16, 2) := by decide +kernel
theorem dJ6_bitCount_0f7a4_45 : decode cJ6_bitCount_0f7a4 45 = .ok (.iushr, 1) := by decide +kernel
theorem dJ6_bitCount_0f7a4_46 : decode cJ6_bitCount_0f7a4 46 = .ok (.iadd, 1) := by decide +kernel
theorem dJ6_bitCount_0f7a4_47 : decode cJ6_bitCount_0f7a4 47 = .ok (.istore_n 0, 1) := by decide +kernel
theorem dJ6_bitCount_0f7a4_48 : decode cJ6_bitCount_0f7a4 48 = .ok (.iload_n 0, 1) := by decide +kernel
theorem dJ6_bitCount_0f7a4_49 : decode cJ6_bitCount_0f7a4 49 = .ok (.bipush 63, 2) := by decide +kernel
theorem dJ6_bitCount_0f7a4_51 : decode cJ6_bitCount_0f7a4 51 = .ok (.iand, 1) := by decide +kernel
theorem dJ6_bitCount_0f7a4_52 : decode cJ6_bitCount_0f7a4 52 = .ok (.ireturn, 1) := by decide +kernel
theorem dX4_init_0 : decode cX4_init 0 = .ok (.aload_n 0, 1) := by decide +kernel
theorem dX4_init_1 : decode cX4_init 1 = .ok (.invokespecial 3, 3) := by decide +kernel
theorem dX4_init_4 : decode cX4_init 4 = .ok (.getstatic 9, 3) := by decide +kernel
theorem dX4_init_7 : decode cX4_init 7 = .ok (.iload_n 1, 1) := by decide +kernel
theorem dX4_init_8 : decode cX4_init 8 = .ok (.invokestatic 13, 3) := by decide +kernel
theorem dX4_init_11 : decode cX4_init 11 = .ok (.iconst 0, 1) := by decide +kernel
theorem dX4_init_12 : decode cX4_init 12 = .ok (.invokestatic 19, 3) := by decide +kernel
theorem dX4_init_15 : decode cX4_init 15 = .ok (.istore_n 2, 1) := by decide +kernel
theorem dX4_init_16 : decode cX4_init 16 = .ok (.getstatic 25, 3) := by decide +kernel
theorem dX4_init_19 : decode cX4_init 19 = .ok (.iload_n 1, 1) := by decide +kernel
theorem dX4_init_20 : decode cX4_init 20 = .ok (.invokestatic 13, 3) := by decide +kernel
theorem dX4_init_23 : decode cX4_init 23 = .ok (.iconst 0, 1) := by decide +kernel
theorem dX4_init_24 : decode cX4_init 24 = .ok (.invokestatic 19, 3) := by decide +kernel
theorem dX4_init_27 : decode cX4_init 27 = .ok (.istore_n 3, 1) := by decide +kernel
theorem dX4_init_28 : decode cX4_init 28 = .ok (.aload_n 0, 1) := by decide +kernel
theorem dX4_init_29 : decode cX4_init 29 = .ok (.iload_n 1, 1) := by decide +kernel
theorem dX4_init_30 : decode cX4_init 30 = .ok (.putfield 28, 3) := by decide +kernel
theorem dX4_init_33 : decode cX4_init 33 = .ok (.aload_n 0, 1) := by decide +kernel
theorem dX4_init_34 : decode cX4_init 34 = .ok (.iload_n 2, 1) := by decide +kernel
theorem dX4_init_35 : decode cX4_init 35 = .ok (.newarray .int, 2) := by decide +kernel
theorem dX4_init_37 : decode cX4_init 37 = .ok (.putfield 34, 3) := by decide +kernel
theorem dX4_init_40 : decode cX4_init 40 = .ok (.aload_n 0, 1) := by decide +kernel
theorem dX4_init_41 : decode cX4_init 41 = .ok (.iload_n 3, 1) := by decide +kernel
theorem dX4_init_42 : decode cX4_init 42 = .ok (.newarray .int, 2) := by decide +kernel
theorem dX4_init_44 : decode cX4_init 44 = .ok (.putfield 37, 3) := by decide +kernel
theorem dX4_init_47 : decode cX4_init 47 = .ok (.aload_n 0, 1) := by decide +kernel
theorem dX4_init_48 : decode cX4_init 48 = .ok (.bipush 11, 2) := by decide +kernel
theorem dX4_init_50 : decode cX4_init 50 = .ok (.iload_n 3, 1) := by decide +kernel
theorem dX4_init_51 : decode cX4_init 51 = .ok (.multianewarray 40 2, 4) := by decide +kernel
theorem dX4_init_55 : decode cX4_init 55 = .ok (.putfield 42, 3) := by decide +kernel
theorem dX4_init_58 : decode cX4_init 58 = .ok (.aload_n 0, 1) := by decide +kernel
theorem dX4_init_59 : decode cX4_init 59 = .ok (.bipush 12, 2) := by decide +kernel
theorem dX4_init_61 : decode cX4_init 61 = .ok (.iload_n 3, 1) := by decide +kernel
theorem dX4_init_62 : decode cX4_init 62 = .ok (.multianewarray 40 2, 4) := by decide +kernel
theorem dX4_init_66 : decode cX4_init 66 = .ok (.putfield 45, 3) := by decide +kernel
theorem dX4_init_69 : decode cX4_init 69 = .ok (.aload_n 0, 1) := by decide +kernel
theorem dX4_init_70 : decode cX4_init 70 = .ok (.bipush 12, 2) := by decide +kernel
theorem dX4_init_72 : decode cX4_init 72 = .ok (.bipush 37, 2) := by decide +kernel
theorem dX4_init_74 : decode cX4_init 74 = .ok (.multianewarray 40 2, 4) := by decide +kernel
theorem dX4_init_78 : decode cX4_init 78 = .ok (.putfield 48, 3) := by decide +kernel
theorem dX4_init_81 : decode cX4_init 81 = .ok (.return_, 1) := by decide +kernel
theorem dX4_of_0 : decode cX4_of 0 = .ok (.new 29, 3) := by decide +kernel
theorem dX4_of_3 : decode cX4_of 3 = .ok (.dup, 1) := by decide +kernel
theorem dX4_of_4 : decode cX4_of 4 = .ok (.iload_n 0, 1) := by decide +kernel
theorem dX4_of_5 : decode cX4_of 5 = .ok (.invokespecial 51, 3) := by decide +kernel
theorem dX4_of_8 : decode cX4_of 8 = .ok (.astore_n 1, 1) := by decide +kernel
theorem dX4_of_9 : decode cX4_of 9 = .ok (.aload_n 1, 1) := by decide +kernel
theorem dX4_of_10 : decode cX4_of 10 = .ok (.invokevirtual 54, 3) := by decide +kernel
theorem dX4_of_13 : decode cX4_of 13 = .ok (.aload_n 1, 1) := by decide +kernel
theorem dX4_of_14 : decode cX4_of 14 = .ok (.invokevirtual 57, 3) := by decide +kernel
theorem dX4_of_17 : decode cX4_of 17 = .ok (.iconst 0, 1) := by decide +kernel
theorem dX4_of_18 : decode cX4_of 18 = .ok (.istore_n 2, 1) := by decide +kernel
theorem dX4_of_19 : decode cX4_of 19 = .ok (.iload_n 2, 1) := by decide +kernel
theorem dX4_of_20 : decode cX4_of 20 = .ok (.bipush 11, 2) := by decide +kernel
theorem dX4_of_22 : decode cX4_of 22 = .ok (.if_icmp .ge 14, 3) := by decide +kernel
theorem dX4_of_25 : decode cX4_of 25 = .ok (.aload_n 1, 1) := by decide +kernel
theorem dX4_of_26 : decode cX4_of 26 = .ok (.iload_n 2, 1) := by decide +kernel
theorem dX4_of_27 : decode cX4_of 27 = .ok (.invokevirtual 60, 3) := by decide +kernel
theorem dX4_of_30 : decode cX4_of 30 = .ok (.iinc 2 1, 3) := by decide +kernel
theorem dX4_of_33 : decode cX4_of 33 = .ok (.goto (-14), 3) := by decide +kernel
theorem dX4_of_36 : decode cX4_of 36 = .ok (.iconst 0, 1) := by decide +kernel
theorem dX4_of_37 : decode cX4_of 37 = .ok (.istore_n 2, 1) := by decide +kernel
theorem dX4_of_38 : decode cX4_of 38 = .ok (.iload_n 2, 1) := by decide +kernel
theorem dX4_of_39 : decode cX4_of 39 = .ok (.iconst 3, 1) := by decide +kernel
theorem dX4_of_40 : decode cX4_of 40 = .ok (.if_icmp .ge 28, 3) := by decide +kernel
theorem dX4_of_43 : decode cX4_of 43 = .ok (.iconst 0, 1) := by decide +kernel
theorem dX4_of_44 : decode cX4_of 44 = .ok (.istore_n 3, 1) := by decide +kernel
theorem dX4_of_45 : decode cX4_of 45 = .ok (.iload_n 3, 1) := by decide +kernel
theorem dX4_of_46 : decode cX4_of 46 = .ok (.iconst 4, 1) := by decide +kernel
theorem dX4_of_47 : decode cX4_of 47 = .ok (.if_icmp .ge 15, 3) := by decide +kernel
theorem dX4_of_50 : decode cX4_of 50 = .ok (.aload_n 1, 1) := by decide +kernel
theorem dX4_of_51 : decode cX4_of 51 = .ok (.iload_n 2, 1) := by decide +kernel
theorem dX4_of_52 : decode cX4_of 52 = .ok (.iload_n 3, 1) := by decide +kernel
theorem dX4_of_53 : decode cX4_of 53 = .ok (.invokevirtual 63, 3) := by decide +kernel
theorem dX4_of_56 : decode cX4_of 56 = .ok (.iinc 3 1, 3) := by decide +kernel
theorem dX4_of_59 : decode cX4_of 59 = .ok (.goto (-14), 3) := by decide +kernel
theorem dX4_of_62 : decode cX4_of 62 = .ok (.iinc 2 1, 3) := by decide +kernel
theorem dX4_of_65 : decode cX4_of 65 = .ok (.goto (-27), 3) := by decide +kernel
theorem dX4_of_68 : decode cX4_of 68 = .ok (.aload_n 1, 1) := by decide +kernel
theorem dX4_of_69 : decode cX4_of 69 = .ok (.areturn, 1) := by decide +kernel
theorem dX4_listPaths_0 : decode cX4_listPaths 0 = .ok (.iconst 0, 1) := by decide +kernel
theorem dX4_listPaths_1 : decode cX4_listPaths 1 = .ok (.istore_n 1, 1) := by decide +kernel
theorem dX4_listPaths_2 : decode cX4_listPaths 2 = .ok (.iconst 0, 1) := by decide +kernel
theorem dX4_listPaths_3 : decode cX4_listPaths 3 = .ok (.istore_n 2, 1) := by decide +kernel
theorem dX4_listPaths_4 : decode cX4_listPaths 4 = .ok (.iload_n 2, 1) := by decide +kernel
theorem dX4_listPaths_5 : decode cX4_listPaths 5 = .ok (.iconst 1, 1) := by decide +kernel
theorem dX4_listPaths_6 : decode cX4_listPaths 6 = .ok (.iconst 2, 1) := by decide +kernel
theorem dX4_listPaths_7 : decode cX4_listPaths 7 = .ok (.aload_n 0, 1) := by decide +kernel
theorem dX4_listPaths_8 : decode cX4_listPaths 8 = .ok (.getfield 28, 3) := by decide +kernel
theorem dX4_listPaths_11 : decode cX4_listPaths 11 = .ok (.imul, 1) := by decide +kernel
theorem dX4_listPaths_12 : decode cX4_listPaths 12 = .ok (.ishl, 1) := by decide +kernel
theorem dX4_listPaths_13 : decode cX4_listPaths 13 = .ok (.if_icmp .ge 32, 3) := by decide +kernel
theorem dX4_listPaths_16 : decode cX4_listPaths 16 = .ok (.iload_n 2, 1) := by decide +kernel
theorem dX4_listPaths_17 : decode cX4_listPaths 17 = .ok (.aload_n 0, 1) := by decide +kernel
theorem dX4_listPaths_18 : decode cX4_listPaths 18 = .ok (.getfield 28, 3) := by decide +kernel
theorem dX4_listPaths_21 : decode cX4_listPaths 21 = .ok (.invokestatic 67, 3) := by decide +kernel
theorem dX4_listPaths_24 : decode cX4_listPaths 24 = .ok (.ifCond .eq 15, 3) := by decide +kernel
theorem dX4_listPaths_27 : decode cX4_listPaths 27 = .ok (.aload_n 0, 1) := by decide +kernel
theorem dX4_listPaths_28 : decode cX4_listPaths 28 = .ok (.getfield 34, 3) := by decide +kernel
theorem dX4_listPaths_31 : decode cX4_listPaths 31 = .ok (.iload_n 1, 1) := by decide +kernel
theorem dX4_listPaths_32 : decode cX4_listPaths 32 = .ok (.iload_n 2, 1) := by decide +kernel
theorem dX4_listPaths_33 : decode cX4_listPaths 33 = .ok (.invokestatic 73, 3) := by decide +kernel
theorem dX4_listPaths_36 : decode cX4_listPaths 36 = .ok (.iinc 1 1, 3) := by decide +kernel
theorem dX4_listPaths_39 : decode cX4_listPaths 39 = .ok (.iinc 2 1, 3) := by decide +kernel
theorem dX4_listPaths_42 : decode cX4_listPaths 42 = .ok (.goto (-38), 3) := by decide +kernel
theorem dX4_listPaths_45 : decode cX4_listPaths 45 = .ok (.return_, 1) := by decide +kernel
theorem dX4_listOrders_0 : decode cX4_listOrders 0 = .ok (.iconst 0, 1) := by decide +kernel
theorem dX4_listOrders_1 : decode cX4_listOrders 1 = .ok (.istore_n 1, 1) := by decide +kernel
theorem dX4_listOrders_2 : decode cX4_listOrders 2 = .ok (.iload_n 1, 1) := by decide +kernel
theorem dX4_listOrders_3 : decode cX4_listOrders 3 = .ok (.aload_n 0, 1) := by decide +kernel
theorem dX4_listOrders_4 : decode cX4_listOrders 4 = .ok (.getfield 37, 3) := by decide +kernel
theorem dX4_listOrders_7 : decode cX4_listOrders 7 = .ok (.arraylength, 1) := by decide +kernel
theorem dX4_listOrders_8 : decode cX4_listOrders 8 = .ok (.if_icmp .ge 25, 3) := by decide +kernel
theorem dX4_listOrders_11 : decode cX4_listOrders 11 = .ok (.aload_n 0, 1) := by decide +kernel
theorem dX4_listOrders_12 : decode cX4_listOrders 12 = .ok (.getfield 37, 3) := by decide +kernel
theorem dX4_listOrders_15 : decode cX4_listOrders 15 = .ok (.iload_n 1, 1) := by decide +kernel
theorem dX4_listOrders_16 : decode cX4_listOrders 16 = .ok (.iload_n 1, 1) := by decide +kernel
theorem dX4_listOrders_17 : decode cX4_listOrders 17 = .ok (.aload_n 0, 1) := by decide +kernel
theorem dX4_listOrders_18 : decode cX4_listOrders 18 = .ok (.getfield 28, 3) := by decide +kernel
theorem dX4_listOrders_21 : decode cX4_listOrders 21 = .ok (.invokestatic 77, 3) := by decide +kernel
theorem dX4_listOrders_24 : decode cX4_listOrders 24 = .ok (.invokestatic 73, 3) := by decide +kernel
theorem dX4_listOrders_27 : decode cX4_listOrders 27 = .ok (.iinc 1 1, 3) := by decide +kernel
theorem dX4_listOrders_30 : decode cX4_listOrders 30 = .ok (.goto (-28), 3) := by decide +kernel
theorem dX4_listOrders_33 : decode cX4_listOrders 33 = .ok (.return_, 1) := by decide +kernel
theorem dX4_listImages_0 : decode cX4_listImages 0 = .ok (.getstatic 82, 3) := by decide +kernel
theorem dX4_listImages_3 : decode cX4_listImages 3 = .ok (.iload_n 1, 1) := by decide +kernel
theorem dX4_listImages_4 : decode cX4_listImages 4 = .ok (.invokestatic 13, 3) := by decide +kernel
theorem dX4_listImages_7 : decode cX4_listImages 7 = .ok (.istore_n 2, 1) := by decide +kernel
theorem dX4_listImages_8 : decode cX4_listImages 8 = .ok (.getstatic 85, 3) := by decide +kernel
theorem dX4_listImages_11 : decode cX4_listImages 11 = .ok (.iload_n 1, 1) := by decide +kernel
theorem dX4_listImages_12 : decode cX4_listImages 12 = .ok (.invokestatic 13, 3) := by decide +kernel
theorem dX4_listImages_15 : decode cX4_listImages 15 = .ok (.istore_n 3, 1) := by decide +kernel
theorem dX4_listImages_16 : decode cX4_listImages 16 = .ok (.iconst 0, 1) := by decide +kernel
theorem dX4_listImages_17 : decode cX4_listImages 17 = .ok (.istore 4, 2) := by decide +kernel
theorem dX4_listImages_19 : decode cX4_listImages 19 = .ok (.iload 4, 2) := by decide +kernel
theorem dX4_listImages_21 : decode cX4_listImages 21 = .ok (.aload_n 0, 1) := by decide +kernel
theorem dX4_listImages_22 : decode cX4_listImages 22 = .ok (.iload_n 2, 1) := by decide +kernel
theorem dX4_listImages_23 : decode cX4_listImages 23 = .ok (.invokevirtual 88, 3) := by decide +kernel
theorem dX4_listImages_26 : decode cX4_listImages 26 = .ok (.if_icmp .ge 39, 3) := by decide +kernel
theorem dX4_listImages_29 : decode cX4_listImages 29 = .ok (.aload_n 0, 1) := by decide +kernel
theorem dX4_listImages_30 : decode cX4_listImages 30 = .ok (.getfield 42, 3) := by decide +kernel
theorem dX4_listImages_33 : decode cX4_listImages 33 = .ok (.iload_n 1, 1) := by decide +kernel
theorem dX4_listImages_34 : decode cX4_listImages 34 = .ok (.iload 4, 2) := by decide +kernel
theorem dX4_listImages_36 : decode cX4_listImages 36 = .ok (.aload_n 0, 1) := by decide +kernel
theorem dX4_listImages_37 : decode cX4_listImages 37 = .ok (.iload_n 3, 1) := by decide +kernel
theorem dX4_listImages_38 : decode cX4_listImages 38 = .ok (.iload_n 1, 1) := by decide +kernel
theorem dX4_listImages_39 : decode cX4_listImages 39 = .ok (.aload_n 0, 1) := by decide +kernel
theorem dX4_listImages_40 : decode cX4_listImages 40 = .ok (.iload_n 2, 1) := by decide +kernel
theorem dX4_listImages_41 : decode cX4_listImages 41 = .ok (.iload 4, 2) := by decide +kernel
theorem dX4_listImages_43 : decode cX4_listImages 43 = .ok (.invokevirtual 92, 3) := by decide +kernel
theorem dX4_listImages_46 : decode cX4_listImages 46 = .ok (.aload_n 0, 1) := by decide +kernel
theorem dX4_listImages_47 : decode cX4_listImages 47 = .ok (.getfield 28, 3) := by decide +kernel
theorem dX4_listImages_50 : decode cX4_listImages 50 = .ok (.invokestatic 95, 3) := by decide +kernel
theorem dX4_listImages_53 : decode cX4_listImages 53 = .ok (.invokevirtual 99, 3) := by decide +kernel
theorem dX4_listImages_56 : decode cX4_listImages 56 = .ok (.invokestatic 102, 3) := by decide +kernel
theorem dX4_listImages_59 : decode cX4_listImages 59 = .ok (.iinc 4 1, 3) := by decide +kernel
theorem dX4_listImages_62 : decode cX4_listImages 62 = .ok (.goto (-43), 3) := by decide +kernel
theorem dX4_listImages_65 : decode cX4_listImages 65 = .ok (.return_, 1) := by decide +kernel
theorem dX4_listValues_0 : decode cX4_listValues 0 = .ok (.iload_n 1, 1) := by decide +kernel
theorem dX4_listValues_1 : decode cX4_listValues 1 = .ok (.iconst 4, 1) := by decide +kernel
theorem dX4_listValues_2 : decode cX4_listValues 2 = .ok (.imul, 1) := by decide +kernel
theorem dX4_listValues_3 : decode cX4_listValues 3 = .ok (.iload_n 2, 1) := by decide +kernel
theorem dX4_listValues_4 : decode cX4_listValues 4 = .ok (.iadd, 1) := by decide +kernel
theorem dX4_listValues_5 : decode cX4_listValues 5 = .ok (.istore_n 3, 1) := by decide +kernel
theorem dX4_listValues_6 : decode cX4_listValues 6 = .ok (.iconst 0, 1) := by decide +kernel
theorem dX4_listValues_7 : decode cX4_listValues 7 = .ok (.istore 4, 2) := by decide +kernel
theorem dX4_listValues_9 : decode cX4_listValues 9 = .ok (.iload 4, 2) := by decide +kernel
theorem dX4_listValues_11 : decode cX4_listValues 11 = .ok (.aload_n 0, 1) := by decide +kernel
theorem dX4_listValues_12 : decode cX4_listValues 12 = .ok (.iload_n 1, 1) := by decide +kernel
theorem dX4_listValues_13 : decode cX4_listValues 13 = .ok (.invokevirtual 88, 3) := by decide +kernel
theorem dX4_listValues_16 : decode cX4_listValues 16 = .ok (.if_icmp .ge 61, 3) := by decide +kernel
theorem dX4_listValues_19 : decode cX4_listValues 19 = .ok (.iload_n 1, 1) := by decide +kernel
theorem dX4_listValues_20 : decode cX4_listValues 20 = .ok (.iload_n 2, 1) := by decide +kernel
theorem dX4_listValues_21 : decode cX4_listValues 21 = .ok (.aload_n 0, 1) := by decide +kernel
theorem dX4_listValues_22 : decode cX4_listValues 22 = .ok (.iload_n 1, 1) := by decide +kernel
theorem dX4_listValues_23 : decode cX4_listValues 23 = .ok (.iload 4, 2) := by decide +kernel
theorem dX4_listValues_25 : decode cX4_listValues 25 = .ok (.invokevirtual 92, 3) := by decide +kernel
theorem dX4_listValues_28 : decode cX4_listValues 28 = .ok (.aload_n 0, 1) := by decide +kernel
theorem dX4_listValues_29 : decode cX4_listValues 29 = .ok (.getfield 28, 3) := by decide +kernel
theorem dX4_listValues_32 : decode cX4_listValues 32 = .ok (.invokestatic 105, 3) := by decide +kernel
theorem dX4_listValues_35 : decode cX4_listValues 35 = .ok (.istore 5, 2) := by decide +kernel
theorem dX4_listValues_37 : decode cX4_listValues 37 = .ok (.aload_n 0, 1) := by decide +kernel
theorem dX4_listValues_38 : decode cX4_listValues 38 = .ok (.getfield 45, 3) := by decide +kernel
theorem dX4_listValues_41 : decode cX4_listValues 41 = .ok (.iload_n 3, 1) := by decide +kernel
theorem dX4_listValues_42 : decode cX4_listValues 42 = .ok (.iload 4, 2) := by decide +kernel
theorem dX4_listValues_44 : decode cX4_listValues 44 = .ok (.iload 5, 2) := by decide +kernel
theorem dX4_listValues_46 : decode cX4_listValues 46 = .ok (.invokestatic 102, 3) := by decide +kernel
theorem dX4_listValues_49 : decode cX4_listValues 49 = .ok (.aload_n 0, 1) := by decide +kernel
theorem dX4_listValues_50 : decode cX4_listValues 50 = .ok (.getfield 48, 3) := by decide +kernel
theorem dX4_listValues_53 : decode cX4_listValues 53 = .ok (.iload_n 3, 1) := by decide +kernel
theorem dX4_listValues_54 : decode cX4_listValues 54 = .ok (.iload 5, 2) := by decide +kernel
theorem dX4_listValues_56 : decode cX4_listValues 56 = .ok (.aload_n 0, 1) := by decide +kernel
theorem dX4_listValues_57 : decode cX4_listValues 57 = .ok (.getfield 48, 3) := by decide +kernel
theorem dX4_listValues_60 : decode cX4_listValues 60 = .ok (.iload_n 3, 1) := by decide +kernel
theorem dX4_listValues_61 : decode cX4_listValues 61 = .ok (.iload 5, 2) := by decide +kernel
theorem dX4_listValues_63 : decode cX4_listValues 63 = .ok (.invokestatic 109, 3) := by decide +kernel
theorem dX4_listValues_66 : decode cX4_listValues 66 = .ok (.iconst 1, 1) := by decide +kernel
theorem dX4_listValues_67 : decode cX4_listValues 67 = .ok (.iadd, 1) := by decide +kernel
theorem dX4_listValues_68 : decode cX4_listValues 68 = .ok (.invokestatic 102, 3) := by decide +kernel
theorem dX4_listValues_71 : decode cX4_listValues 71 = .ok (.iinc 4 1, 3) := by decide +kernel
theorem dX4_listValues_74 : decode cX4_listValues 74 = .ok (.goto (-65), 3) := by decide +kernel
theorem dX4_listValues_77 : decode cX4_listValues 77 = .ok (.return_, 1) := by decide +kernel
theorem dX4_imageCode_0 : decode cX4_imageCode 0 = .ok (.iload_n 0, 1) := by decide +kernel
theorem dX4_imageCode_1 : decode cX4_imageCode 1 = .ok (.tableswitch 116 0 10 #[116, 59, 116, 65, 71, 77, 83, 90, 98, 104, 110], 59) := by decide +kernel
theorem dX4_imageCode_60 : decode cX4_imageCode 60 = .ok (.iload_n 1, 1) := by decide +kernel
theorem dX4_imageCode_61 : decode cX4_imageCode 61 = .ok (.iload_n 2, 1) := by decide +kernel
theorem dX4_imageCode_62 : decode cX4_imageCode 62 = .ok (.invokestatic 112, 3) := by decide +kernel
theorem dX4_imageCode_65 : decode cX4_imageCode 65 = .ok (.ireturn, 1) := by decide +kernel
theorem dX4_imageCode_66 : decode cX4_imageCode 66 = .ok (.iload_n 1, 1) := by decide +kernel
theorem dX4_imageCode_67 : decode cX4_imageCode 67 = .ok (.iload_n 2, 1) := by decide +kernel
theorem dX4_imageCode_68 : decode cX4_imageCode 68 = .ok (.invokestatic 115, 3) := by decide +kernel
theorem dX4_imageCode_71 : decode cX4_imageCode 71 = .ok (.ireturn, 1) := by decide +kernel
theorem dX4_imageCode_72 : decode cX4_imageCode 72 = .ok (.iload_n 1, 1) := by decide +kernel
theorem dX4_imageCode_73 : decode cX4_imageCode 73 = .ok (.iload_n 2, 1) := by decide +kernel
theorem dX4_imageCode_74 : decode cX4_imageCode 74 = .ok (.invokestatic 120, 3) := by decide +kernel
theorem dX4_imageCode_77 : decode cX4_imageCode 77 = .ok (.ireturn, 1) := by decide +kernel
theorem dX4_imageCode_78 : decode cX4_imageCode 78 = .ok (.iload_n 1, 1) := by decide +kernel
theorem dX4_imageCode_79 : decode cX4_imageCode 79 = .ok (.iload_n 2, 1) := by decide +kernel
theorem dX4_imageCode_80 : decode cX4_imageCode 80 = .ok (.invokestatic 123, 3) := by decide +kernel
theorem dX4_imageCode_83 : decode cX4_imageCode 83 = .ok (.ireturn, 1) := by decide +kernel
theorem dX4_imageCode_84 : decode cX4_imageCode 84 = .ok (.iload_n 1, 1) := by decide +kernel
theorem dX4_imageCode_85 : decode cX4_imageCode 85 = .ok (.iload_n 2, 1) := by decide +kernel
theorem dX4_imageCode_86 : decode cX4_imageCode 86 = .ok (.iconst 0, 1) := by decide +kernel
theorem dX4_imageCode_87 : decode cX4_imageCode 87 = .ok (.invokestatic 126, 3) := by decide +kernel
theorem dX4_imageCode_90 : decode cX4_imageCode 90 = .ok (.ireturn, 1) := by decide +kernel
theorem dX4_imageCode_91 : decode cX4_imageCode 91 = .ok (.iload_n 1, 1) := by decide +kernel
theorem dX4_imageCode_92 : decode cX4_imageCode 92 = .ok (.iload_n 2, 1) := by decide +kernel
theorem dX4_imageCode_93 : decode cX4_imageCode 93 = .ok (.iconst 1, 1) := by decide +kernel
theorem dX4_imageCode_94 : decode cX4_imageCode 94 = .ok (.iload_n 2, 1) := by decide +kernel
theorem dX4_imageCode_95 : decode cX4_imageCode 95 = .ok (.invokestatic 129, 3) := by decide +kernel
theorem dX4_imageCode_98 : decode cX4_imageCode 98 = .ok (.ireturn, 1) := by decide +kernel
theorem dX4_imageCode_99 : decode cX4_imageCode 99 = .ok (.iload_n 1, 1) := by decide +kernel
theorem dX4_imageCode_100 : decode cX4_imageCode 100 = .ok (.iload_n 2, 1) := by decide +kernel
theorem dX4_imageCode_101 : decode cX4_imageCode 101 = .ok (.invokestatic 132, 3) := by decide +kernel
theorem dX4_imageCode_104 : decode cX4_imageCode 104 = .ok (.ireturn, 1) := by decide +kernel
theorem dX4_imageCode_105 : decode cX4_imageCode 105 = .ok (.iload_n 1, 1) := by decide +kernel
theorem dX4_imageCode_106 : decode cX4_imageCode 106 = .ok (.iload_n 2, 1) := by decide +kernel
theorem dX4_imageCode_107 : decode cX4_imageCode 107 = .ok (.invokestatic 135, 3) := by decide +kernel
theorem dX4_imageCode_110 : decode cX4_imageCode 110 = .ok (.ireturn, 1) := by decide +kernel
theorem dX4_imageCode_111 : decode cX4_imageCode 111 = .ok (.iload_n 1, 1) := by decide +kernel
theorem dX4_imageCode_112 : decode cX4_imageCode 112 = .ok (.iload_n 2, 1) := by decide +kernel
theorem dX4_imageCode_113 : decode cX4_imageCode 113 = .ok (.invokestatic 138, 3) := by decide +kernel
theorem dX4_imageCode_116 : decode cX4_imageCode 116 = .ok (.ireturn, 1) := by decide +kernel
theorem dX4_imageCode_117 : decode cX4_imageCode 117 = .ok (.iload_n 1, 1) := by decide +kernel
theorem dX4_imageCode_118 : decode cX4_imageCode 118 = .ok (.ireturn, 1) := by decide +kernel
theorem dX4_valueByCode_0 : decode cX4_valueByCode 0 = .ok (.iload_n 0, 1) := by decide +kernel
theorem dX4_valueByCode_1 : decode cX4_valueByCode 1 = .ok (.lookupswitch 41 #[(0, 27), (1, 34)], 27) := by decide +kernel
theorem dX4_valueByCode_28 : decode cX4_valueByCode 28 = .ok (.iload_n 1, 1) := by decide +kernel
theorem dX4_valueByCode_29 : decode cX4_valueByCode 29 = .ok (.iload_n 2, 1) := by decide +kernel
theorem dX4_valueByCode_30 : decode cX4_valueByCode 30 = .ok (.iload_n 3, 1) := by decide +kernel
theorem dX4_valueByCode_31 : decode cX4_valueByCode 31 = .ok (.invokestatic 141, 3) := by decide +kernel
theorem dX4_valueByCode_34 : decode cX4_valueByCode 34 = .ok (.ireturn, 1) := by decide +kernel
theorem dX4_valueByCode_35 : decode cX4_valueByCode 35 = .ok (.iload_n 1, 1) := by decide +kernel
theorem dX4_valueByCode_36 : decode cX4_valueByCode 36 = .ok (.iload_n 2, 1) := by decide +kernel
theorem dX4_valueByCode_37 : decode cX4_valueByCode 37 = .ok (.iload_n 3, 1) := by decide +kernel
theorem dX4_valueByCode_38 : decode cX4_valueByCode 38 = .ok (.invokestatic 144, 3) := by decide +kernel
theorem dX4_valueByCode_41 : decode cX4_valueByCode 41 = .ok (.ireturn, 1) := by decide +kernel
theorem dX4_valueByCode_42 : decode cX4_valueByCode 42 = .ok (.iload_n 1, 1) := by decide +kernel
theorem dX4_valueByCode_43 : decode cX4_valueByCode 43 = .ok (.iload_n 2, 1) := by decide +kernel
theorem dX4_valueByCode_44 : decode cX4_valueByCode 44 = .ok (.iload_n 3, 1) := by decide +kernel
theorem dX4_valueByCode_45 : decode cX4_valueByCode 45 = .ok (.invokestatic 145, 3) := by decide +kernel
theorem dX4_valueByCode_48 : decode cX4_valueByCode 48 = .ok (.ireturn, 1) := by decide +kernel
theorem dX4_codes_0 : decode cX4_codes 0 = .ok (.iload_n 1, 1) := by decide +kernel
theorem dX4_codes_1 : decode cX4_codes 1 = .ok (.iconst 2, 1) := by decide +kernel
theorem dX4_codes_2 : decode cX4_codes 2 = .ok (.if_icmp .ne 10, 3) := by decide +kernel
theorem dX4_codes_5 : decode cX4_codes 5 = .ok (.aload_n 0, 1) := by decide +kernel
theorem dX4_codes_6 : decode cX4_codes 6 = .ok (.getfield 37, 3) := by decide +kernel
theorem dX4_codes_9 : decode cX4_codes 9 = .ok (.goto 7, 3) := by decide +kernel
theorem dX4_codes_12 : decode cX4_codes 12 = .ok (.aload_n 0, 1) := by decide +kernel
theorem dX4_codes_13 : decode cX4_codes 13 = .ok (.getfield 34, 3) := by decide +kernel
theorem dX4_codes_16 : decode cX4_codes 16 = .ok (.areturn, 1) := by decide +kernel
theorem dX4_count_0 : decode cX4_count 0 = .ok (.aload_n 0, 1) := by decide +kernel
theorem dX4_count_1 : decode cX4_count 1 = .ok (.iload_n 1, 1) := by decide +kernel
theorem dX4_count_2 : decode cX4_count 2 = .ok (.invokevirtual 146, 3) := by decide +kernel
theorem dX4_count_5 : decode cX4_count 5 = .ok (.arraylength, 1) := by decide +kernel
theorem dX4_count_6 : decode cX4_count 6 = .ok (.ireturn, 1) := by decide +kernel
theorem dX4_codeOf_0 : decode cX4_codeOf 0 = .ok (.aload_n 0, 1) := by decide +kernel
theorem dX4_codeOf_1 : decode cX4_codeOf 1 = .ok (.iload_n 1, 1) := by decide +kernel
theorem dX4_codeOf_2 : decode cX4_codeOf 2 = .ok (.invokevirtual 146, 3) := by decide +kernel
theorem dX4_codeOf_5 : decode cX4_codeOf 5 = .ok (.iload_n 2, 1) := by decide +kernel
theorem dX4_codeOf_6 : decode cX4_codeOf 6 = .ok (.invokestatic 13, 3) := by decide +kernel
theorem dX4_codeOf_9 : decode cX4_codeOf 9 = .ok (.ireturn, 1) := by decide +kernel
theorem dX4_rankOf_0 : decode cX4_rankOf 0 = .ok (.aload_n 0, 1) := by decide +kernel
theorem dX4_rankOf_1 : decode cX4_rankOf 1 = .ok (.iload_n 1, 1) := by decide +kernel
theorem dX4_rankOf_2 : decode cX4_rankOf 2 = .ok (.invokevirtual 146, 3) := by decide +kernel
theorem dX4_rankOf_5 : decode cX4_rankOf 5 = .ok (.astore_n 3, 1) := by decide +kernel
theorem dX4_rankOf_6 : decode cX4_rankOf 6 = .ok (.iconst (-1), 1) := by decide +kernel
theorem dX4_rankOf_7 : decode cX4_rankOf 7 = .ok (.istore 4, 2) := by decide +kernel
theorem dX4_rankOf_9 : decode cX4_rankOf 9 = .ok (.sipush 512, 3) := by decide +kernel
theorem dX4_rankOf_12 : decode cX4_rankOf 12 = .ok (.istore 5, 2) := by decide +kernel
theorem dX4_rankOf_14 : decode cX4_rankOf 14 = .ok (.iload 5, 2) := by decide +kernel
theorem dX4_rankOf_16 : decode cX4_rankOf 16 = .ok (.ifCond .le 42, 3) := by decide +kernel
theorem dX4_rankOf_19 : decode cX4_rankOf 19 = .ok (.iload 4, 2) := by decide +kernel
theorem dX4_rankOf_21 : decode cX4_rankOf 21 = .ok (.iload 5, 2) := by decide +kernel
theorem dX4_rankOf_23 : decode cX4_rankOf 23 = .ok (.iadd, 1) := by decide +kernel
theorem dX4_rankOf_24 : decode cX4_rankOf 24 = .ok (.aload_n 3, 1) := by decide +kernel
theorem dX4_rankOf_25 : decode cX4_rankOf 25 = .ok (.arraylength, 1) := by decide +kernel
theorem dX4_rankOf_26 : decode cX4_rankOf 26 = .ok (.if_icmp .ge 23, 3) := by decide +kernel
theorem dX4_rankOf_29 : decode cX4_rankOf 29 = .ok (.aload_n 3, 1) := by decide +kernel
theorem dX4_rankOf_30 : decode cX4_rankOf 30 = .ok (.iload 4, 2) := by decide +kernel
theorem dX4_rankOf_32 : decode cX4_rankOf 32 = .ok (.iload 5, 2) := by decide +kernel
theorem dX4_rankOf_34 : decode cX4_rankOf 34 = .ok (.iadd, 1) := by decide +kernel
theorem dX4_rankOf_35 : decode cX4_rankOf 35 = .ok (.invokestatic 13, 3) := by decide +kernel
theorem dX4_rankOf_38 : decode cX4_rankOf 38 = .ok (.iload_n 2, 1) := by decide +kernel
theorem dX4_rankOf_39 : decode cX4_rankOf 39 = .ok (.if_icmp .gt 10, 3) := by decide +kernel
theorem dX4_rankOf_42 : decode cX4_rankOf 42 = .ok (.iload 4, 2) := by decide +kernel
theorem dX4_rankOf_44 : decode cX4_rankOf 44 = .ok (.iload 5, 2) := by decide +kernel
theorem dX4_rankOf_46 : decode cX4_rankOf 46 = .ok (.iadd, 1) := by decide +kernel
theorem dX4_rankOf_47 : decode cX4_rankOf 47 = .ok (.istore 4, 2) := by decide +kernel
theorem dX4_rankOf_49 : decode cX4_rankOf 49 = .ok (.iload 5, 2) := by decide +kernel
theorem dX4_rankOf_51 : decode cX4_rankOf 51 = .ok (.iconst 2, 1) := by decide +kernel
theorem dX4_rankOf_52 : decode cX4_rankOf 52 = .ok (.idiv, 1) := by decide +kernel
theorem dX4_rankOf_53 : decode cX4_rankOf 53 = .ok (.istore 5, 2) := by decide +kernel
theorem dX4_rankOf_55 : decode cX4_rankOf 55 = .ok (.goto (-41), 3) := by decide +kernel
theorem dX4_rankOf_58 : decode cX4_rankOf 58 = .ok (.iload 4, 2) := by decide +kernel
theorem dX4_rankOf_60 : decode cX4_rankOf 60 = .ok (.ifCond .lt 18, 3) := by decide +kernel
end
section
theorem dX4_rankOf_63 : decode cX4_rankOf 63 = .ok (.aload_n 3, 1) := by decide +kernel
theorem dX4_rankOf_64 : decode cX4_rankOf 64 = .ok (.iload 4, 2) := by decide +kernel
theorem dX4_rankOf_66 : decode cX4_rankOf 66 = .ok (.invokestatic 13, 3) := by decide +kernel
theorem dX4_rankOf_69 : decode cX4_rankOf 69 = .ok (.iload_n 2, 1) := by decide +kernel
theorem dX4_rankOf_70 : decode cX4_rankOf 70 = .ok (.if_icmp .ne 8, 3) := by decide +kernel
theorem dX4_rankOf_73 : decode cX4_rankOf 73 = .ok (.iload 4, 2) := by decide +kernel
theorem dX4_rankOf_75 : decode cX4_rankOf 75 = .ok (.goto 4, 3) := by decide +kernel
theorem dX4_rankOf_78 : decode cX4_rankOf 78 = .ok (.iconst (-1), 1) := by decide +kernel
theorem dX4_rankOf_79 : decode cX4_rankOf 79 = .ok (.ireturn, 1) := by decide +kernel
theorem dX4_through_0 : decode cX4_through 0 = .ok (.iload_n 2, 1) := by decide +kernel
theorem dX4_through_1 : decode cX4_through 1 = .ok (.istore_n 3, 1) := by decide +kernel
theorem dX4_through_2 : decode cX4_through 2 = .ok (.iconst 0, 1) := by decide +kernel
theorem dX4_through_3 : decode cX4_through 3 = .ok (.istore 4, 2) := by decide +kernel
theorem dX4_through_5 : decode cX4_through 5 = .ok (.iload 4, 2) := by decide +kernel
theorem dX4_through_7 : decode cX4_through 7 = .ok (.aload_n 1, 1) := by decide +kernel
theorem dX4_through_8 : decode cX4_through 8 = .ok (.getfield 150, 3) := by decide +kernel
theorem dX4_through_11 : decode cX4_through 11 = .ok (.if_icmp .ge 24, 3) := by decide +kernel
theorem dX4_through_14 : decode cX4_through 14 = .ok (.aload_n 0, 1) := by decide +kernel
theorem dX4_through_15 : decode cX4_through 15 = .ok (.getfield 42, 3) := by decide +kernel
theorem dX4_through_18 : decode cX4_through 18 = .ok (.aload_n 1, 1) := by decide +kernel
theorem dX4_through_19 : decode cX4_through 19 = .ok (.iload 4, 2) := by decide +kernel
theorem dX4_through_21 : decode cX4_through 21 = .ok (.invokevirtual 155, 3) := by decide +kernel
theorem dX4_through_24 : decode cX4_through 24 = .ok (.iload_n 3, 1) := by decide +kernel
theorem dX4_through_25 : decode cX4_through 25 = .ok (.invokestatic 109, 3) := by decide +kernel
theorem dX4_through_28 : decode cX4_through 28 = .ok (.istore_n 3, 1) := by decide +kernel
theorem dX4_through_29 : decode cX4_through 29 = .ok (.iinc 4 1, 3) := by decide +kernel
theorem dX4_through_32 : decode cX4_through 32 = .ok (.goto (-27), 3) := by decide +kernel
theorem dX4_through_35 : decode cX4_through 35 = .ok (.iload_n 3, 1) := by decide +kernel
theorem dX4_through_36 : decode cX4_through 36 = .ok (.ireturn, 1) := by decide +kernel
theorem dX4_valueOf_0 : decode cX4_valueOf 0 = .ok (.aload_n 0, 1) := by decide +kernel
theorem dX4_valueOf_1 : decode cX4_valueOf 1 = .ok (.getfield 45, 3) := by decide +kernel
theorem dX4_valueOf_4 : decode cX4_valueOf 4 = .ok (.iload_n 1, 1) := by decide +kernel
theorem dX4_valueOf_5 : decode cX4_valueOf 5 = .ok (.iconst 4, 1) := by decide +kernel
theorem dX4_valueOf_6 : decode cX4_valueOf 6 = .ok (.imul, 1) := by decide +kernel
theorem dX4_valueOf_7 : decode cX4_valueOf 7 = .ok (.iload_n 2, 1) := by decide +kernel
theorem dX4_valueOf_8 : decode cX4_valueOf 8 = .ok (.iadd, 1) := by decide +kernel
theorem dX4_valueOf_9 : decode cX4_valueOf 9 = .ok (.iload_n 3, 1) := by decide +kernel
theorem dX4_valueOf_10 : decode cX4_valueOf 10 = .ok (.invokestatic 109, 3) := by decide +kernel
theorem dX4_valueOf_13 : decode cX4_valueOf 13 = .ok (.ireturn, 1) := by decide +kernel
theorem dX4_countOf_0 : decode cX4_countOf 0 = .ok (.aload_n 0, 1) := by decide +kernel
theorem dX4_countOf_1 : decode cX4_countOf 1 = .ok (.getfield 48, 3) := by decide +kernel
theorem dX4_countOf_4 : decode cX4_countOf 4 = .ok (.iload_n 1, 1) := by decide +kernel
theorem dX4_countOf_5 : decode cX4_countOf 5 = .ok (.iconst 4, 1) := by decide +kernel
theorem dX4_countOf_6 : decode cX4_countOf 6 = .ok (.imul, 1) := by decide +kernel
theorem dX4_countOf_7 : decode cX4_countOf 7 = .ok (.iload_n 2, 1) := by decide +kernel
theorem dX4_countOf_8 : decode cX4_countOf 8 = .ok (.iadd, 1) := by decide +kernel
theorem dX4_countOf_9 : decode cX4_countOf 9 = .ok (.iload_n 3, 1) := by decide +kernel
theorem dX4_countOf_10 : decode cX4_countOf 10 = .ok (.invokestatic 109, 3) := by decide +kernel
theorem dX4_countOf_13 : decode cX4_countOf 13 = .ok (.ireturn, 1) := by decide +kernel
theorem dX4_isInOrderBehind_0 : decode cX4_isInOrderBehind 0 = .ok (.iload_n 1, 1) := by decide +kernel
theorem dX4_isInOrderBehind_1 : decode cX4_isInOrderBehind 1 = .ok (.istore_n 3, 1) := by decide +kernel
theorem dX4_isInOrderBehind_2 : decode cX4_isInOrderBehind 2 = .ok (.iconst 0, 1) := by decide +kernel
theorem dX4_isInOrderBehind_3 : decode cX4_isInOrderBehind 3 = .ok (.istore 4, 2) := by decide +kernel
theorem dX4_isInOrderBehind_5 : decode cX4_isInOrderBehind 5 = .ok (.iload 4, 2) := by decide +kernel
theorem dX4_isInOrderBehind_7 : decode cX4_isInOrderBehind 7 = .ok (.iload_n 2, 1) := by decide +kernel
theorem dX4_isInOrderBehind_8 : decode cX4_isInOrderBehind 8 = .ok (.if_icmp .ge 24, 3) := by decide +kernel
theorem dX4_isInOrderBehind_11 : decode cX4_isInOrderBehind 11 = .ok (.iload_n 3, 1) := by decide +kernel
theorem dX4_isInOrderBehind_12 : decode cX4_isInOrderBehind 12 = .ok (.ifCond .eq 20, 3) := by decide +kernel
theorem dX4_isInOrderBehind_15 : decode cX4_isInOrderBehind 15 = .ok (.aload_n 0, 1) := by decide +kernel
theorem dX4_isInOrderBehind_16 : decode cX4_isInOrderBehind 16 = .ok (.getfield 42, 3) := by decide +kernel
theorem dX4_isInOrderBehind_19 : decode cX4_isInOrderBehind 19 = .ok (.bipush 10, 2) := by decide +kernel
theorem dX4_isInOrderBehind_21 : decode cX4_isInOrderBehind 21 = .ok (.iload_n 3, 1) := by decide +kernel
theorem dX4_isInOrderBehind_22 : decode cX4_isInOrderBehind 22 = .ok (.invokestatic 109, 3) := by decide +kernel
theorem dX4_isInOrderBehind_25 : decode cX4_isInOrderBehind 25 = .ok (.istore_n 3, 1) := by decide +kernel
theorem dX4_isInOrderBehind_26 : decode cX4_isInOrderBehind 26 = .ok (.iinc 4 1, 3) := by decide +kernel
theorem dX4_isInOrderBehind_29 : decode cX4_isInOrderBehind 29 = .ok (.goto (-24), 3) := by decide +kernel
theorem dX4_isInOrderBehind_32 : decode cX4_isInOrderBehind 32 = .ok (.iload_n 3, 1) := by decide +kernel
theorem dX4_isInOrderBehind_33 : decode cX4_isInOrderBehind 33 = .ok (.ifCond .ne 7, 3) := by decide +kernel
theorem dX4_isInOrderBehind_36 : decode cX4_isInOrderBehind 36 = .ok (.iconst 1, 1) := by decide +kernel
theorem dX4_isInOrderBehind_37 : decode cX4_isInOrderBehind 37 = .ok (.goto 4, 3) := by decide +kernel
theorem dX4_isInOrderBehind_40 : decode cX4_isInOrderBehind 40 = .ok (.iconst 0, 1) := by decide +kernel
theorem dX4_isInOrderBehind_41 : decode cX4_isInOrderBehind 41 = .ok (.ireturn, 1) := by decide +kernel
theorem dX0_init_0 : decode cX0_init 0 = .ok (.aload_n 0, 1) := by decide +kernel
theorem dX0_init_1 : decode cX0_init 1 = .ok (.invokespecial 3, 3) := by decide +kernel
theorem dX0_init_4 : decode cX0_init 4 = .ok (.aload_n 0, 1) := by decide +kernel
theorem dX0_init_5 : decode cX0_init 5 = .ok (.bipush 6, 2) := by decide +kernel
theorem dX0_init_7 : decode cX0_init 7 = .ok (.newarray .int, 2) := by decide +kernel
theorem dX0_init_9 : decode cX0_init 9 = .ok (.putfield 9, 3) := by decide +kernel
theorem dX0_init_12 : decode cX0_init 12 = .ok (.aload_n 0, 1) := by decide +kernel
theorem dX0_init_13 : decode cX0_init 13 = .ok (.getfield 9, 3) := by decide +kernel
theorem dX0_init_16 : decode cX0_init 16 = .ok (.iconst 0, 1) := by decide +kernel
theorem dX0_init_17 : decode cX0_init 17 = .ok (.iload_n 1, 1) := by decide +kernel
theorem dX0_init_18 : decode cX0_init 18 = .ok (.invokestatic 15, 3) := by decide +kernel
theorem dX0_init_21 : decode cX0_init 21 = .ok (.aload_n 0, 1) := by decide +kernel
theorem dX0_init_22 : decode cX0_init 22 = .ok (.iconst 1, 1) := by decide +kernel
theorem dX0_init_23 : decode cX0_init 23 = .ok (.putfield 21, 3) := by decide +kernel
theorem dX0_init_26 : decode cX0_init 26 = .ok (.aload_n 0, 1) := by decide +kernel
theorem dX0_init_27 : decode cX0_init 27 = .ok (.getstatic 25, 3) := by decide +kernel
theorem dX0_init_30 : decode cX0_init 30 = .ok (.iload_n 1, 1) := by decide +kernel
theorem dX0_init_31 : decode cX0_init 31 = .ok (.invokestatic 28, 3) := by decide +kernel
theorem dX0_init_34 : decode cX0_init 34 = .ok (.putfield 32, 3) := by decide +kernel
theorem dX0_init_37 : decode cX0_init 37 = .ok (.aload_n 0, 1) := by decide +kernel
theorem dX0_init_38 : decode cX0_init 38 = .ok (.getstatic 35, 3) := by decide +kernel
theorem dX0_init_41 : decode cX0_init 41 = .ok (.iload_n 1, 1) := by decide +kernel
theorem dX0_init_42 : decode cX0_init 42 = .ok (.invokestatic 28, 3) := by decide +kernel
theorem dX0_init_45 : decode cX0_init 45 = .ok (.putfield 38, 3) := by decide +kernel
theorem dX0_init_48 : decode cX0_init 48 = .ok (.return_, 1) := by decide +kernel
theorem dX0_append_0 : decode cX0_append 0 = .ok (.aload_n 0, 1) := by decide +kernel
theorem dX0_append_1 : decode cX0_append 1 = .ok (.getfield 9, 3) := by decide +kernel
theorem dX0_append_4 : decode cX0_append 4 = .ok (.aload_n 0, 1) := by decide +kernel
theorem dX0_append_5 : decode cX0_append 5 = .ok (.getfield 21, 3) := by decide +kernel
theorem dX0_append_8 : decode cX0_append 8 = .ok (.iload_n 1, 1) := by decide +kernel
theorem dX0_append_9 : decode cX0_append 9 = .ok (.invokestatic 15, 3) := by decide +kernel
theorem dX0_append_12 : decode cX0_append 12 = .ok (.aload_n 0, 1) := by decide +kernel
theorem dX0_append_13 : decode cX0_append 13 = .ok (.dup, 1) := by decide +kernel
theorem dX0_append_14 : decode cX0_append 14 = .ok (.getfield 21, 3) := by decide +kernel
theorem dX0_append_17 : decode cX0_append 17 = .ok (.iconst 1, 1) := by decide +kernel
theorem dX0_append_18 : decode cX0_append 18 = .ok (.iadd, 1) := by decide +kernel
theorem dX0_append_19 : decode cX0_append 19 = .ok (.putfield 21, 3) := by decide +kernel
theorem dX0_append_22 : decode cX0_append 22 = .ok (.aload_n 0, 1) := by decide +kernel
theorem dX0_append_23 : decode cX0_append 23 = .ok (.getstatic 35, 3) := by decide +kernel
theorem dX0_append_26 : decode cX0_append 26 = .ok (.iload_n 1, 1) := by decide +kernel
theorem dX0_append_27 : decode cX0_append 27 = .ok (.invokestatic 28, 3) := by decide +kernel
theorem dX0_append_30 : decode cX0_append 30 = .ok (.putfield 38, 3) := by decide +kernel
theorem dX0_append_33 : decode cX0_append 33 = .ok (.aload_n 0, 1) := by decide +kernel
theorem dX0_append_34 : decode cX0_append 34 = .ok (.iconst 0, 1) := by decide +kernel
theorem dX0_append_35 : decode cX0_append 35 = .ok (.putfield 41, 3) := by decide +kernel
theorem dX0_append_38 : decode cX0_append 38 = .ok (.return_, 1) := by decide +kernel
theorem dX0_stepAt_0 : decode cX0_stepAt 0 = .ok (.iload_n 1, 1) := by decide +kernel
theorem dX0_stepAt_1 : decode cX0_stepAt 1 = .ok (.ifCond .lt 21, 3) := by decide +kernel
theorem dX0_stepAt_4 : decode cX0_stepAt 4 = .ok (.iload_n 1, 1) := by decide +kernel
theorem dX0_stepAt_5 : decode cX0_stepAt 5 = .ok (.aload_n 0, 1) := by decide +kernel
theorem dX0_stepAt_6 : decode cX0_stepAt 6 = .ok (.getfield 9, 3) := by decide +kernel
theorem dX0_stepAt_9 : decode cX0_stepAt 9 = .ok (.arraylength, 1) := by decide +kernel
theorem dX0_stepAt_10 : decode cX0_stepAt 10 = .ok (.if_icmp .ge 12, 3) := by decide +kernel
theorem dX0_stepAt_13 : decode cX0_stepAt 13 = .ok (.aload_n 0, 1) := by decide +kernel
theorem dX0_stepAt_14 : decode cX0_stepAt 14 = .ok (.getfield 9, 3) := by decide +kernel
theorem dX0_stepAt_17 : decode cX0_stepAt 17 = .ok (.iload_n 1, 1) := by decide +kernel
theorem dX0_stepAt_18 : decode cX0_stepAt 18 = .ok (.iaload, 1) := by decide +kernel
theorem dX0_stepAt_19 : decode cX0_stepAt 19 = .ok (.goto 4, 3) := by decide +kernel
theorem dX0_stepAt_22 : decode cX0_stepAt 22 = .ok (.iconst 0, 1) := by decide +kernel
theorem dX0_stepAt_23 : decode cX0_stepAt 23 = .ok (.ireturn, 1) := by decide +kernel
theorem dX0_isMove_0 : decode cX0_isMove 0 = .ok (.aload_n 0, 1) := by decide +kernel
theorem dX0_isMove_1 : decode cX0_isMove 1 = .ok (.getfield 32, 3) := by decide +kernel
theorem dX0_isMove_4 : decode cX0_isMove 4 = .ok (.aload_n 0, 1) := by decide +kernel
theorem dX0_isMove_5 : decode cX0_isMove 5 = .ok (.getfield 38, 3) := by decide +kernel
theorem dX0_isMove_8 : decode cX0_isMove 8 = .ok (.if_icmp .ne 7, 3) := by decide +kernel
theorem dX0_isMove_11 : decode cX0_isMove 11 = .ok (.iconst 1, 1) := by decide +kernel
theorem dX0_isMove_12 : decode cX0_isMove 12 = .ok (.goto 4, 3) := by decide +kernel
theorem dX0_isMove_15 : decode cX0_isMove 15 = .ok (.iconst 0, 1) := by decide +kernel
theorem dX0_isMove_16 : decode cX0_isMove 16 = .ok (.ireturn, 1) := by decide +kernel
theorem dX6_init_0 : decode cX6_init 0 = .ok (.aload_n 0, 1) := by decide +kernel
theorem dX6_init_1 : decode cX6_init 1 = .ok (.invokespecial 3, 3) := by decide +kernel
theorem dX6_init_4 : decode cX6_init 4 = .ok (.getstatic 9, 3) := by decide +kernel
theorem dX6_init_7 : decode cX6_init 7 = .ok (.bipush 6, 2) := by decide +kernel
theorem dX6_init_9 : decode cX6_init 9 = .ok (.invokestatic 13, 3) := by decide +kernel
theorem dX6_init_12 : decode cX6_init 12 = .ok (.iconst 0, 1) := by decide +kernel
theorem dX6_init_13 : decode cX6_init 13 = .ok (.invokestatic 19, 3) := by decide +kernel
theorem dX6_init_16 : decode cX6_init 16 = .ok (.istore_n 1, 1) := by decide +kernel
theorem dX6_init_17 : decode cX6_init 17 = .ok (.aload_n 0, 1) := by decide +kernel
theorem dX6_init_18 : decode cX6_init 18 = .ok (.iload_n 1, 1) := by decide +kernel
theorem dX6_init_19 : decode cX6_init 19 = .ok (.newarray .int, 2) := by decide +kernel
theorem dX6_init_21 : decode cX6_init 21 = .ok (.putfield 25, 3) := by decide +kernel
theorem dX6_init_24 : decode cX6_init 24 = .ok (.aload_n 0, 1) := by decide +kernel
theorem dX6_init_25 : decode cX6_init 25 = .ok (.iload_n 1, 1) := by decide +kernel
theorem dX6_init_26 : decode cX6_init 26 = .ok (.newarray .boolean, 2) := by decide +kernel
theorem dX6_init_28 : decode cX6_init 28 = .ok (.putfield 30, 3) := by decide +kernel
theorem dX6_init_31 : decode cX6_init 31 = .ok (.return_, 1) := by decide +kernel
theorem dX6_take_0 : decode cX6_take 0 = .ok (.aload_n 1, 1) := by decide +kernel
theorem dX6_take_1 : decode cX6_take 1 = .ok (.getfield 34, 3) := by decide +kernel
theorem dX6_take_4 : decode cX6_take 4 = .ok (.aload_n 2, 1) := by decide +kernel
theorem dX6_take_5 : decode cX6_take 5 = .ok (.getfield 40, 3) := by decide +kernel
theorem dX6_take_8 : decode cX6_take 8 = .ok (.if_icmp .ne 4, 3) := by decide +kernel
theorem dX6_take_11 : decode cX6_take 11 = .ok (.return_, 1) := by decide +kernel
theorem dX6_take_12 : decode cX6_take 12 = .ok (.aload_n 1, 1) := by decide +kernel
theorem dX6_take_13 : decode cX6_take 13 = .ok (.aload_n 2, 1) := by decide +kernel
theorem dX6_take_14 : decode cX6_take 14 = .ok (.getfield 40, 3) := by decide +kernel
theorem dX6_take_17 : decode cX6_take 17 = .ok (.putfield 34, 3) := by decide +kernel
theorem dX6_take_20 : decode cX6_take 20 = .ok (.aload_n 2, 1) := by decide +kernel
theorem dX6_take_21 : decode cX6_take 21 = .ok (.aload_n 1, 1) := by decide +kernel
theorem dX6_take_22 : decode cX6_take 22 = .ok (.getfield 45, 3) := by decide +kernel
theorem dX6_take_25 : decode cX6_take 25 = .ok (.invokevirtual 48, 3) := by decide +kernel
theorem dX6_take_28 : decode cX6_take 28 = .ok (.istore_n 3, 1) := by decide +kernel
theorem dX6_take_29 : decode cX6_take 29 = .ok (.iconst 0, 1) := by decide +kernel
theorem dX6_take_30 : decode cX6_take 30 = .ok (.istore 4, 2) := by decide +kernel
theorem dX6_take_32 : decode cX6_take 32 = .ok (.iload 4, 2) := by decide +kernel
theorem dX6_take_34 : decode cX6_take 34 = .ok (.iload_n 3, 1) := by decide +kernel
theorem dX6_take_35 : decode cX6_take 35 = .ok (.if_icmp .ge 25, 3) := by decide +kernel
theorem dX6_take_38 : decode cX6_take 38 = .ok (.aload_n 0, 1) := by decide +kernel
theorem dX6_take_39 : decode cX6_take 39 = .ok (.getfield 25, 3) := by decide +kernel
theorem dX6_take_42 : decode cX6_take 42 = .ok (.iload 4, 2) := by decide +kernel
theorem dX6_take_44 : decode cX6_take 44 = .ok (.aload_n 2, 1) := by decide +kernel
theorem dX6_take_45 : decode cX6_take 45 = .ok (.aload_n 1, 1) := by decide +kernel
theorem dX6_take_46 : decode cX6_take 46 = .ok (.iload 4, 2) := by decide +kernel
theorem dX6_take_48 : decode cX6_take 48 = .ok (.invokevirtual 52, 3) := by decide +kernel
theorem dX6_take_51 : decode cX6_take 51 = .ok (.invokestatic 56, 3) := by decide +kernel
theorem dX6_take_54 : decode cX6_take 54 = .ok (.iinc 4 1, 3) := by decide +kernel
theorem dX6_take_57 : decode cX6_take 57 = .ok (.goto (-25), 3) := by decide +kernel
theorem dX6_take_60 : decode cX6_take 60 = .ok (.aload_n 1, 1) := by decide +kernel
theorem dX6_take_61 : decode cX6_take 61 = .ok (.aload_n 0, 1) := by decide +kernel
theorem dX6_take_62 : decode cX6_take 62 = .ok (.iload_n 3, 1) := by decide +kernel
theorem dX6_take_63 : decode cX6_take 63 = .ok (.invokevirtual 60, 3) := by decide +kernel
theorem dX6_take_66 : decode cX6_take 66 = .ok (.putfield 63, 3) := by decide +kernel
theorem dX6_take_69 : decode cX6_take 69 = .ok (.aload_n 1, 1) := by decide +kernel
theorem dX6_take_70 : decode cX6_take 70 = .ok (.aload_n 1, 1) := by decide +kernel
theorem dX6_take_71 : decode cX6_take 71 = .ok (.invokevirtual 66, 3) := by decide +kernel
theorem dX6_take_74 : decode cX6_take 74 = .ok (.ifCond .eq 11, 3) := by decide +kernel
theorem dX6_take_77 : decode cX6_take 77 = .ok (.aload_n 0, 1) := by decide +kernel
theorem dX6_take_78 : decode cX6_take 78 = .ok (.iload_n 3, 1) := by decide +kernel
theorem dX6_take_79 : decode cX6_take 79 = .ok (.invokevirtual 70, 3) := by decide +kernel
theorem dX6_take_82 : decode cX6_take 82 = .ok (.goto 4, 3) := by decide +kernel
theorem dX6_take_85 : decode cX6_take 85 = .ok (.iconst (-1), 1) := by decide +kernel
theorem dX6_take_86 : decode cX6_take 86 = .ok (.putfield 73, 3) := by decide +kernel
theorem dX6_take_89 : decode cX6_take 89 = .ok (.aload_n 1, 1) := by decide +kernel
theorem dX6_take_90 : decode cX6_take 90 = .ok (.iconst (-1), 1) := by decide +kernel
theorem dX6_take_91 : decode cX6_take 91 = .ok (.putfield 76, 3) := by decide +kernel
theorem dX6_take_94 : decode cX6_take 94 = .ok (.aload_n 1, 1) := by decide +kernel
theorem dX6_take_95 : decode cX6_take 95 = .ok (.ldc2_w 79, 3) := by decide +kernel
theorem dX6_take_98 : decode cX6_take 98 = .ok (.putfield 81, 3) := by decide +kernel
theorem dX6_take_101 : decode cX6_take 101 = .ok (.aload_n 1, 1) := by decide +kernel
theorem dX6_take_102 : decode cX6_take 102 = .ok (.invokevirtual 66, 3) := by decide +kernel
theorem dX6_take_105 : decode cX6_take 105 = .ok (.ifCond .eq 17, 3) := by decide +kernel
theorem dX6_take_108 : decode cX6_take 108 = .ok (.aload_n 1, 1) := by decide +kernel
theorem dX6_take_109 : decode cX6_take 109 = .ok (.getfield 63, 3) := by decide +kernel
theorem dX6_take_112 : decode cX6_take 112 = .ok (.iload_n 3, 1) := by decide +kernel
theorem dX6_take_113 : decode cX6_take 113 = .ok (.if_icmp .ne 9, 3) := by decide +kernel
theorem dX6_take_116 : decode cX6_take 116 = .ok (.aload_n 0, 1) := by decide +kernel
theorem dX6_take_117 : decode cX6_take 117 = .ok (.aload_n 1, 1) := by decide +kernel
theorem dX6_take_118 : decode cX6_take 118 = .ok (.iload_n 3, 1) := by decide +kernel
theorem dX6_take_119 : decode cX6_take 119 = .ok (.invokevirtual 85, 3) := by decide +kernel
theorem dX6_take_122 : decode cX6_take 122 = .ok (.return_, 1) := by decide +kernel
theorem dX6_countDistinct_0 : decode cX6_countDistinct 0 = .ok (.aload_n 0, 1) := by decide +kernel
theorem dX6_countDistinct_1 : decode cX6_countDistinct 1 = .ok (.invokevirtual 89, 3) := by decide +kernel
theorem dX6_countDistinct_4 : decode cX6_countDistinct 4 = .ok (.iconst 0, 1) := by decide +kernel
theorem dX6_countDistinct_5 : decode cX6_countDistinct 5 = .ok (.istore_n 2, 1) := by decide +kernel
theorem dX6_countDistinct_6 : decode cX6_countDistinct 6 = .ok (.iconst 0, 1) := by decide +kernel
theorem dX6_countDistinct_7 : decode cX6_countDistinct 7 = .ok (.istore_n 3, 1) := by decide +kernel
theorem dX6_countDistinct_8 : decode cX6_countDistinct 8 = .ok (.iload_n 3, 1) := by decide +kernel
theorem dX6_countDistinct_9 : decode cX6_countDistinct 9 = .ok (.iload_n 1, 1) := by decide +kernel
theorem dX6_countDistinct_10 : decode cX6_countDistinct 10 = .ok (.if_icmp .ge 27, 3) := by decide +kernel
theorem dX6_countDistinct_13 : decode cX6_countDistinct 13 = .ok (.aload_n 0, 1) := by decide +kernel
theorem dX6_countDistinct_14 : decode cX6_countDistinct 14 = .ok (.aload_n 0, 1) := by decide +kernel
theorem dX6_countDistinct_15 : decode cX6_countDistinct 15 = .ok (.getfield 25, 3) := by decide +kernel
theorem dX6_countDistinct_18 : decode cX6_countDistinct 18 = .ok (.iload_n 3, 1) := by decide +kernel
theorem dX6_countDistinct_19 : decode cX6_countDistinct 19 = .ok (.invokestatic 13, 3) := by decide +kernel
theorem dX6_countDistinct_22 : decode cX6_countDistinct 22 = .ok (.invokevirtual 92, 3) := by decide +kernel
theorem dX6_countDistinct_25 : decode cX6_countDistinct 25 = .ok (.ifCond .eq 6, 3) := by decide +kernel
theorem dX6_countDistinct_28 : decode cX6_countDistinct 28 = .ok (.iinc 2 1, 3) := by decide +kernel
theorem dX6_countDistinct_31 : decode cX6_countDistinct 31 = .ok (.iinc 3 1, 3) := by decide +kernel
theorem dX6_countDistinct_34 : decode cX6_countDistinct 34 = .ok (.goto (-26), 3) := by decide +kernel
theorem dX6_countDistinct_37 : decode cX6_countDistinct 37 = .ok (.iload_n 2, 1) := by decide +kernel
theorem dX6_countDistinct_38 : decode cX6_countDistinct 38 = .ok (.ireturn, 1) := by decide +kernel
theorem dX6_countUnmoved_0 : decode cX6_countUnmoved 0 = .ok (.iconst 0, 1) := by decide +kernel
theorem dX6_countUnmoved_1 : decode cX6_countUnmoved 1 = .ok (.istore_n 2, 1) := by decide +kernel
theorem dX6_countUnmoved_2 : decode cX6_countUnmoved 2 = .ok (.iconst 0, 1) := by decide +kernel
theorem dX6_countUnmoved_3 : decode cX6_countUnmoved 3 = .ok (.istore_n 3, 1) := by decide +kernel
theorem dX6_countUnmoved_4 : decode cX6_countUnmoved 4 = .ok (.iload_n 3, 1) := by decide +kernel
theorem dX6_countUnmoved_5 : decode cX6_countUnmoved 5 = .ok (.iload_n 1, 1) := by decide +kernel
theorem dX6_countUnmoved_6 : decode cX6_countUnmoved 6 = .ok (.if_icmp .ge 24, 3) := by decide +kernel
theorem dX6_countUnmoved_9 : decode cX6_countUnmoved 9 = .ok (.aload_n 0, 1) := by decide +kernel
theorem dX6_countUnmoved_10 : decode cX6_countUnmoved 10 = .ok (.getfield 25, 3) := by decide +kernel
theorem dX6_countUnmoved_13 : decode cX6_countUnmoved 13 = .ok (.iload_n 3, 1) := by decide +kernel
theorem dX6_countUnmoved_14 : decode cX6_countUnmoved 14 = .ok (.invokestatic 13, 3) := by decide +kernel
theorem dX6_countUnmoved_17 : decode cX6_countUnmoved 17 = .ok (.iload_n 3, 1) := by decide +kernel
theorem dX6_countUnmoved_18 : decode cX6_countUnmoved 18 = .ok (.if_icmp .ne 6, 3) := by decide +kernel
theorem dX6_countUnmoved_21 : decode cX6_countUnmoved 21 = .ok (.iinc 2 1, 3) := by decide +kernel
theorem dX6_countUnmoved_24 : decode cX6_countUnmoved 24 = .ok (.iinc 3 1, 3) := by decide +kernel
theorem dX6_countUnmoved_27 : decode cX6_countUnmoved 27 = .ok (.goto (-23), 3) := by decide +kernel
theorem dX6_countUnmoved_30 : decode cX6_countUnmoved 30 = .ok (.iload_n 2, 1) := by decide +kernel
theorem dX6_countUnmoved_31 : decode cX6_countUnmoved 31 = .ok (.ireturn, 1) := by decide +kernel
theorem dX6_followRounds_0 : decode cX6_followRounds 0 = .ok (.aload_n 0, 1) := by decide +kernel
theorem dX6_followRounds_1 : decode cX6_followRounds 1 = .ok (.invokevirtual 89, 3) := by decide +kernel
theorem dX6_followRounds_4 : decode cX6_followRounds 4 = .ok (.aload_n 1, 1) := by decide +kernel
theorem dX6_followRounds_5 : decode cX6_followRounds 5 = .ok (.iconst 0, 1) := by decide +kernel
theorem dX6_followRounds_6 : decode cX6_followRounds 6 = .ok (.putfield 76, 3) := by decide +kernel
theorem dX6_followRounds_9 : decode cX6_followRounds 9 = .ok (.aload_n 1, 1) := by decide +kernel
theorem dX6_followRounds_10 : decode cX6_followRounds 10 = .ok (.lconst 1, 1) := by decide +kernel
theorem dX6_followRounds_11 : decode cX6_followRounds 11 = .ok (.putfield 81, 3) := by decide +kernel
theorem dX6_followRounds_14 : decode cX6_followRounds 14 = .ok (.iconst 0, 1) := by decide +kernel
theorem dX6_followRounds_15 : decode cX6_followRounds 15 = .ok (.istore_n 3, 1) := by decide +kernel
theorem dX6_followRounds_16 : decode cX6_followRounds 16 = .ok (.iload_n 3, 1) := by decide +kernel
theorem dX6_followRounds_17 : decode cX6_followRounds 17 = .ok (.iload_n 2, 1) := by decide +kernel
theorem dX6_followRounds_18 : decode cX6_followRounds 18 = .ok (.if_icmp .ge 45, 3) := by decide +kernel
theorem dX6_followRounds_21 : decode cX6_followRounds 21 = .ok (.aload_n 0, 1) := by decide +kernel
theorem dX6_followRounds_22 : decode cX6_followRounds 22 = .ok (.iload_n 3, 1) := by decide +kernel
theorem dX6_followRounds_23 : decode cX6_followRounds 23 = .ok (.iload_n 2, 1) := by decide +kernel
theorem dX6_followRounds_24 : decode cX6_followRounds 24 = .ok (.invokevirtual 96, 3) := by decide +kernel
theorem dX6_followRounds_27 : decode cX6_followRounds 27 = .ok (.istore 4, 2) := by decide +kernel
theorem dX6_followRounds_29 : decode cX6_followRounds 29 = .ok (.iload 4, 2) := by decide +kernel
theorem dX6_followRounds_31 : decode cX6_followRounds 31 = .ok (.ifCond .le 26, 3) := by decide +kernel
theorem dX6_followRounds_34 : decode cX6_followRounds 34 = .ok (.aload_n 1, 1) := by decide +kernel
theorem dX6_followRounds_35 : decode cX6_followRounds 35 = .ok (.dup, 1) := by decide +kernel
theorem dX6_followRounds_36 : decode cX6_followRounds 36 = .ok (.getfield 76, 3) := by decide +kernel
theorem dX6_followRounds_39 : decode cX6_followRounds 39 = .ok (.iconst 1, 1) := by decide +kernel
theorem dX6_followRounds_40 : decode cX6_followRounds 40 = .ok (.iadd, 1) := by decide +kernel
theorem dX6_followRounds_41 : decode cX6_followRounds 41 = .ok (.putfield 76, 3) := by decide +kernel
theorem dX6_followRounds_44 : decode cX6_followRounds 44 = .ok (.aload_n 1, 1) := by decide +kernel
theorem dX6_followRounds_45 : decode cX6_followRounds 45 = .ok (.aload_n 1, 1) := by decide +kernel
theorem dX6_followRounds_46 : decode cX6_followRounds 46 = .ok (.getfield 81, 3) := by decide +kernel
theorem dX6_followRounds_49 : decode cX6_followRounds 49 = .ok (.iload 4, 2) := by decide +kernel
theorem dX6_followRounds_51 : decode cX6_followRounds 51 = .ok (.invokestatic 99, 3) := by decide +kernel
theorem dX6_followRounds_54 : decode cX6_followRounds 54 = .ok (.putfield 81, 3) := by decide +kernel
theorem dX6_followRounds_57 : decode cX6_followRounds 57 = .ok (.iinc 3 1, 3) := by decide +kernel
theorem dX6_followRounds_60 : decode cX6_followRounds 60 = .ok (.goto (-44), 3) := by decide +kernel
theorem dX6_followRounds_63 : decode cX6_followRounds 63 = .ok (.return_, 1) := by decide +kernel
theorem dX6_roundLength_0 : decode cX6_roundLength 0 = .ok (.iconst 0, 1) := by decide +kernel
theorem dX6_roundLength_1 : decode cX6_roundLength 1 = .ok (.istore_n 3, 1) := by decide +kernel
theorem dX6_roundLength_2 : decode cX6_roundLength 2 = .ok (.iload_n 1, 1) := by decide +kernel
theorem dX6_roundLength_3 : decode cX6_roundLength 3 = .ok (.istore 4, 2) := by decide +kernel
theorem dX6_roundLength_5 : decode cX6_roundLength 5 = .ok (.iload_n 3, 1) := by decide +kernel
theorem dX6_roundLength_6 : decode cX6_roundLength 6 = .ok (.iload_n 2, 1) := by decide +kernel
theorem dX6_roundLength_7 : decode cX6_roundLength 7 = .ok (.if_icmp .ge 29, 3) := by decide +kernel
theorem dX6_roundLength_10 : decode cX6_roundLength 10 = .ok (.aload_n 0, 1) := by decide +kernel
theorem dX6_roundLength_11 : decode cX6_roundLength 11 = .ok (.iload 4, 2) := by decide +kernel
theorem dX6_roundLength_13 : decode cX6_roundLength 13 = .ok (.invokevirtual 92, 3) := by decide +kernel
theorem dX6_roundLength_16 : decode cX6_roundLength 16 = .ok (.ifCond .eq 20, 3) := by decide +kernel
theorem dX6_roundLength_19 : decode cX6_roundLength 19 = .ok (.iinc 3 1, 3) := by decide +kernel
theorem dX6_roundLength_22 : decode cX6_roundLength 22 = .ok (.aload_n 0, 1) := by decide +kernel
theorem dX6_roundLength_23 : decode cX6_roundLength 23 = .ok (.getfield 25, 3) := by decide +kernel
theorem dX6_roundLength_26 : decode cX6_roundLength 26 = .ok (.iload 4, 2) := by decide +kernel
theorem dX6_roundLength_28 : decode cX6_roundLength 28 = .ok (.invokestatic 13, 3) := by decide +kernel
theorem dX6_roundLength_31 : decode cX6_roundLength 31 = .ok (.istore 4, 2) := by decide +kernel
theorem dX6_roundLength_33 : decode cX6_roundLength 33 = .ok (.goto (-28), 3) := by decide +kernel
theorem dX6_roundLength_36 : decode cX6_roundLength 36 = .ok (.iload_n 3, 1) := by decide +kernel
theorem dX6_roundLength_37 : decode cX6_roundLength 37 = .ok (.ireturn, 1) := by decide +kernel
theorem dX6_commonMultiple_0 : decode cX6_commonMultiple 0 = .ok (.iconst 1, 1) := by decide +kernel
theorem dX6_commonMultiple_1 : decode cX6_commonMultiple 1 = .ok (.istore_n 3, 1) := by decide +kernel
theorem dX6_commonMultiple_2 : decode cX6_commonMultiple 2 = .ok (.iload_n 3, 1) := by decide +kernel
theorem dX6_commonMultiple_3 : decode cX6_commonMultiple 3 = .ok (.iload_n 2, 1) := by decide +kernel
theorem dX6_commonMultiple_4 : decode cX6_commonMultiple 4 = .ok (.if_icmp .gt 26, 3) := by decide +kernel
theorem dX6_commonMultiple_7 : decode cX6_commonMultiple 7 = .ok (.lload_n 0, 1) := by decide +kernel
theorem dX6_commonMultiple_8 : decode cX6_commonMultiple 8 = .ok (.iload_n 3, 1) := by decide +kernel
theorem dX6_commonMultiple_9 : decode cX6_commonMultiple 9 = .ok (.i2l, 1) := by decide +kernel
theorem dX6_commonMultiple_10 : decode cX6_commonMultiple 10 = .ok (.lmul, 1) := by decide +kernel
theorem dX6_commonMultiple_11 : decode cX6_commonMultiple 11 = .ok (.iload_n 2, 1) := by decide +kernel
theorem dX6_commonMultiple_12 : decode cX6_commonMultiple 12 = .ok (.i2l, 1) := by decide +kernel
theorem dX6_commonMultiple_13 : decode cX6_commonMultiple 13 = .ok (.lrem, 1) := by decide +kernel
theorem dX6_commonMultiple_14 : decode cX6_commonMultiple 14 = .ok (.lconst 0, 1) := by decide +kernel
theorem dX6_commonMultiple_15 : decode cX6_commonMultiple 15 = .ok (.lcmp, 1) := by decide +kernel
theorem dX6_commonMultiple_16 : decode cX6_commonMultiple 16 = .ok (.ifCond .ne 8, 3) := by decide +kernel
theorem dX6_commonMultiple_19 : decode cX6_commonMultiple 19 = .ok (.lload_n 0, 1) := by decide +kernel
theorem dX6_commonMultiple_20 : decode cX6_commonMultiple 20 = .ok (.iload_n 3, 1) := by decide +kernel
theorem dX6_commonMultiple_21 : decode cX6_commonMultiple 21 = .ok (.i2l, 1) := by decide +kernel
theorem dX6_commonMultiple_22 : decode cX6_commonMultiple 22 = .ok (.lmul, 1) := by decide +kernel
theorem dX6_commonMultiple_23 : decode cX6_commonMultiple 23 = .ok (.lreturn, 1) := by decide +kernel
theorem dX6_commonMultiple_24 : decode cX6_commonMultiple 24 = .ok (.iinc 3 1, 3) := by decide +kernel
theorem dX6_commonMultiple_27 : decode cX6_commonMultiple 27 = .ok (.goto (-25), 3) := by decide +kernel
theorem dX6_commonMultiple_30 : decode cX6_commonMultiple 30 = .ok (.lload_n 0, 1) := by decide +kernel
theorem dX6_commonMultiple_31 : decode cX6_commonMultiple 31 = .ok (.lreturn, 1) := by decide +kernel
theorem dX6_forget_0 : decode cX6_forget 0 = .ok (.iconst 0, 1) := by decide +kernel
theorem dX6_forget_1 : decode cX6_forget 1 = .ok (.istore_n 1, 1) := by decide +kernel
theorem dX6_forget_2 : decode cX6_forget 2 = .ok (.iload_n 1, 1) := by decide +kernel
theorem dX6_forget_3 : decode cX6_forget 3 = .ok (.aload_n 0, 1) := by decide +kernel
theorem dX6_forget_4 : decode cX6_forget 4 = .ok (.getfield 30, 3) := by decide +kernel
theorem dX6_forget_7 : decode cX6_forget 7 = .ok (.arraylength, 1) := by decide +kernel
theorem dX6_forget_8 : decode cX6_forget 8 = .ok (.if_icmp .ge 16, 3) := by decide +kernel
theorem dX6_forget_11 : decode cX6_forget 11 = .ok (.aload_n 0, 1) := by decide +kernel
theorem dX6_forget_12 : decode cX6_forget 12 = .ok (.getfield 30, 3) := by decide +kernel
theorem dX6_forget_15 : decode cX6_forget 15 = .ok (.iload_n 1, 1) := by decide +kernel
theorem dX6_forget_16 : decode cX6_forget 16 = .ok (.iconst 0, 1) := by decide +kernel
theorem dX6_forget_17 : decode cX6_forget 17 = .ok (.bastore, 1) := by decide +kernel
theorem dX6_forget_18 : decode cX6_forget 18 = .ok (.iinc 1 1, 3) := by decide +kernel
theorem dX6_forget_21 : decode cX6_forget 21 = .ok (.goto (-19), 3) := by decide +kernel
theorem dX6_forget_24 : decode cX6_forget 24 = .ok (.return_, 1) := by decide +kernel
theorem dX6_meet_0 : decode cX6_meet 0 = .ok (.iload_n 1, 1) := by decide +kernel
theorem dX6_meet_1 : decode cX6_meet 1 = .ok (.ifCond .lt 21, 3) := by decide +kernel
theorem dX6_meet_4 : decode cX6_meet 4 = .ok (.iload_n 1, 1) := by decide +kernel
theorem dX6_meet_5 : decode cX6_meet 5 = .ok (.aload_n 0, 1) := by decide +kernel
theorem dX6_meet_6 : decode cX6_meet 6 = .ok (.getfield 30, 3) := by decide +kernel
theorem dX6_meet_9 : decode cX6_meet 9 = .ok (.arraylength, 1) := by decide +kernel
theorem dX6_meet_10 : decode cX6_meet 10 = .ok (.if_icmp .ge 12, 3) := by decide +kernel
theorem dX6_meet_13 : decode cX6_meet 13 = .ok (.aload_n 0, 1) := by decide +kernel
theorem dX6_meet_14 : decode cX6_meet 14 = .ok (.getfield 30, 3) := by decide +kernel
theorem dX6_meet_17 : decode cX6_meet 17 = .ok (.iload_n 1, 1) := by decide +kernel
theorem dX6_meet_18 : decode cX6_meet 18 = .ok (.baload, 1) := by decide +kernel
theorem dX6_meet_19 : decode cX6_meet 19 = .ok (.ifCond .eq 5, 3) := by decide +kernel
theorem dX6_meet_22 : decode cX6_meet 22 = .ok (.iconst 0, 1) := by decide +kernel
theorem dX6_meet_23 : decode cX6_meet 23 = .ok (.ireturn, 1) := by decide +kernel
theorem dX6_meet_24 : decode cX6_meet 24 = .ok (.aload_n 0, 1) := by decide +kernel
theorem dX6_meet_25 : decode cX6_meet 25 = .ok (.getfield 30, 3) := by decide +kernel
theorem dX6_meet_28 : decode cX6_meet 28 = .ok (.iload_n 1, 1) := by decide +kernel
theorem dX6_meet_29 : decode cX6_meet 29 = .ok (.iconst 1, 1) := by decide +kernel
theorem dX6_meet_30 : decode cX6_meet 30 = .ok (.bastore, 1) := by decide +kernel
theorem dX6_meet_31 : decode cX6_meet 31 = .ok (.iconst 1, 1) := by decide +kernel
theorem dX6_meet_32 : decode cX6_meet 32 = .ok (.ireturn, 1) := by decide +kernel
theorem dX8_init_0 : decode cX8_init 0 = .ok (.aload_n 0, 1) := by decide +kernel
theorem dX8_init_1 : decode cX8_init 1 = .ok (.invokespecial 1, 3) := by decide +kernel
theorem dX8_init_4 : decode cX8_init 4 = .ok (.aload_n 0, 1) := by decide +kernel
theorem dX8_init_5 : decode cX8_init 5 = .ok (.iload_n 1, 1) := by decide +kernel
theorem dX8_init_6 : decode cX8_init 6 = .ok (.putfield 7, 3) := by decide +kernel
theorem dX8_init_9 : decode cX8_init 9 = .ok (.aload_n 0, 1) := by decide +kernel
theorem dX8_init_10 : decode cX8_init 10 = .ok (.iload_n 2, 1) := by decide +kernel
theorem dX8_init_11 : decode cX8_init 11 = .ok (.putfield 13, 3) := by decide +kernel
theorem dX8_init_14 : decode cX8_init 14 = .ok (.aload_n 0, 1) := by decide +kernel
theorem dX8_init_15 : decode cX8_init 15 = .ok (.iload_n 1, 1) := by decide +kernel
theorem dX8_init_16 : decode cX8_init 16 = .ok (.putfield 16, 3) := by decide +kernel
theorem dX8_init_19 : decode cX8_init 19 = .ok (.aload_n 0, 1) := by decide +kernel
theorem dX8_init_20 : decode cX8_init 20 = .ok (.iload_n 2, 1) := by decide +kernel
theorem dX8_init_21 : decode cX8_init 21 = .ok (.putfield 19, 3) := by decide +kernel
theorem dX8_init_24 : decode cX8_init 24 = .ok (.return_, 1) := by decide +kernel
theorem dX8_go_0 : decode cX8_go 0 = .ok (.aload_n 0, 1) := by decide +kernel
theorem dX8_go_1 : decode cX8_go 1 = .ok (.iload_n 1, 1) := by decide +kernel
theorem dX8_go_2 : decode cX8_go 2 = .ok (.putfield 16, 3) := by decide +kernel
theorem dX8_go_5 : decode cX8_go 5 = .ok (.aload_n 0, 1) := by decide +kernel
theorem dX8_go_6 : decode cX8_go 6 = .ok (.iload_n 2, 1) := by decide +kernel
theorem dX8_go_7 : decode cX8_go 7 = .ok (.putfield 19, 3) := by decide +kernel
theorem dX8_go_10 : decode cX8_go 10 = .ok (.aload_n 0, 1) := by decide +kernel
theorem dX8_go_11 : decode cX8_go 11 = .ok (.dup, 1) := by decide +kernel
theorem dX8_go_12 : decode cX8_go 12 = .ok (.getfield 22, 3) := by decide +kernel
theorem dX8_go_15 : decode cX8_go 15 = .ok (.iconst 1, 1) := by decide +kernel
theorem dX8_go_16 : decode cX8_go 16 = .ok (.iadd, 1) := by decide +kernel
theorem dX8_go_17 : decode cX8_go 17 = .ok (.putfield 22, 3) := by decide +kernel
theorem dX8_go_20 : decode cX8_go 20 = .ok (.aload_n 0, 1) := by decide +kernel
theorem dX8_go_21 : decode cX8_go 21 = .ok (.getfield 16, 3) := by decide +kernel
theorem dX8_go_24 : decode cX8_go 24 = .ok (.aload_n 0, 1) := by decide +kernel
theorem dX8_go_25 : decode cX8_go 25 = .ok (.getfield 7, 3) := by decide +kernel
theorem dX8_go_28 : decode cX8_go 28 = .ok (.if_icmp .ne 24, 3) := by decide +kernel
theorem dX8_go_31 : decode cX8_go 31 = .ok (.aload_n 0, 1) := by decide +kernel
theorem dX8_go_32 : decode cX8_go 32 = .ok (.getfield 19, 3) := by decide +kernel
theorem dX8_go_35 : decode cX8_go 35 = .ok (.aload_n 0, 1) := by decide +kernel
theorem dX8_go_36 : decode cX8_go 36 = .ok (.getfield 13, 3) := by decide +kernel
theorem dX8_go_39 : decode cX8_go 39 = .ok (.if_icmp .ne 13, 3) := by decide +kernel
theorem dX8_go_42 : decode cX8_go 42 = .ok (.aload_n 0, 1) := by decide +kernel
theorem dX8_go_43 : decode cX8_go 43 = .ok (.dup, 1) := by decide +kernel
theorem dX8_go_44 : decode cX8_go 44 = .ok (.getfield 25, 3) := by decide +kernel
theorem dX8_go_47 : decode cX8_go 47 = .ok (.iconst 1, 1) := by decide +kernel
theorem dX8_go_48 : decode cX8_go 48 = .ok (.iadd, 1) := by decide +kernel
theorem dX8_go_49 : decode cX8_go 49 = .ok (.putfield 25, 3) := by decide +kernel
theorem dX8_go_52 : decode cX8_go 52 = .ok (.return_, 1) := by decide +kernel
theorem dX1_init_0 : decode cX1_init 0 = .ok (.aload_n 0, 1) := by decide +kernel
theorem dX1_init_1 : decode cX1_init 1 = .ok (.invokespecial 1, 3) := by decide +kernel
theorem dX1_init_4 : decode cX1_init 4 = .ok (.aload_n 0, 1) := by decide +kernel
theorem dX1_init_5 : decode cX1_init 5 = .ok (.iload_n 1, 1) := by decide +kernel
theorem dX1_init_6 : decode cX1_init 6 = .ok (.putfield 7, 3) := by decide +kernel
theorem dX1_init_9 : decode cX1_init 9 = .ok (.aload_n 0, 1) := by decide +kernel
theorem dX1_init_10 : decode cX1_init 10 = .ok (.iload_n 2, 1) := by decide +kernel
theorem dX1_init_11 : decode cX1_init 11 = .ok (.putfield 13, 3) := by decide +kernel
theorem dX1_init_14 : decode cX1_init 14 = .ok (.aload_n 0, 1) := by decide +kernel
theorem dX1_init_15 : decode cX1_init 15 = .ok (.iload_n 3, 1) := by decide +kernel
theorem dX1_init_16 : decode cX1_init 16 = .ok (.putfield 16, 3) := by decide +kernel
theorem dX1_init_19 : decode cX1_init 19 = .ok (.return_, 1) := by decide +kernel
theorem dX1_note_0 : decode cX1_note 0 = .ok (.aload_n 0, 1) := by decide +kernel
theorem dX1_note_1 : decode cX1_note 1 = .ok (.dup, 1) := by decide +kernel
theorem dX1_note_2 : decode cX1_note 2 = .ok (.getfield 19, 3) := by decide +kernel
theorem dX1_note_5 : decode cX1_note 5 = .ok (.iconst 1, 1) := by decide +kernel
theorem dX1_note_6 : decode cX1_note 6 = .ok (.iload_n 1, 1) := by decide +kernel
theorem dX1_note_7 : decode cX1_note 7 = .ok (.ishl, 1) := by decide +kernel
theorem dX1_note_8 : decode cX1_note 8 = .ok (.ior, 1) := by decide +kernel
theorem dX1_note_9 : decode cX1_note 9 = .ok (.putfield 19, 3) := by decide +kernel
theorem dX1_note_12 : decode cX1_note 12 = .ok (.iload_n 2, 1) := by decide +kernel
theorem dX1_note_13 : decode cX1_note 13 = .ok (.ifCond .ne 15, 3) := by decide +kernel
theorem dX1_note_16 : decode cX1_note 16 = .ok (.aload_n 0, 1) := by decide +kernel
theorem dX1_note_17 : decode cX1_note 17 = .ok (.dup, 1) := by decide +kernel
theorem dX1_note_18 : decode cX1_note 18 = .ok (.getfield 22, 3) := by decide +kernel
theorem dX1_note_21 : decode cX1_note 21 = .ok (.iconst 1, 1) := by decide +kernel
theorem dX1_note_22 : decode cX1_note 22 = .ok (.iload_n 1, 1) := by decide +kernel
theorem dX1_note_23 : decode cX1_note 23 = .ok (.ishl, 1) := by decide +kernel
theorem dX1_note_24 : decode cX1_note 24 = .ok (.ior, 1) := by decide +kernel
theorem dX1_note_25 : decode cX1_note 25 = .ok (.putfield 22, 3) := by decide +kernel
theorem dX1_note_28 : decode cX1_note 28 = .ok (.return_, 1) := by decide +kernel
theorem dX9_init_0 : decode cX9_init 0 = .ok (.aload_n 0, 1) := by decide +kernel
theorem dX9_init_1 : decode cX9_init 1 = .ok (.invokespecial 1, 3) := by decide +kernel
theorem dX9_init_4 : decode cX9_init 4 = .ok (.aload_n 0, 1) := by decide +kernel
theorem dX9_init_5 : decode cX9_init 5 = .ok (.bipush 7, 2) := by decide +kernel
theorem dX9_init_7 : decode cX9_init 7 = .ok (.anewarray 9, 3) := by decide +kernel
theorem dX9_init_10 : decode cX9_init 10 = .ok (.putfield 11, 3) := by decide +kernel
theorem dX9_init_13 : decode cX9_init 13 = .ok (.aload_n 0, 1) := by decide +kernel
theorem dX9_init_14 : decode cX9_init 14 = .ok (.new 15, 3) := by decide +kernel
theorem dX9_init_17 : decode cX9_init 17 = .ok (.dup, 1) := by decide +kernel
theorem dX9_init_18 : decode cX9_init 18 = .ok (.invokespecial 17, 3) := by decide +kernel
theorem dX9_init_21 : decode cX9_init 21 = .ok (.putfield 18, 3) := by decide +kernel
theorem dX9_init_24 : decode cX9_init 24 = .ok (.aload_n 0, 1) := by decide +kernel
theorem dX9_init_25 : decode cX9_init 25 = .ok (.bipush 8, 2) := by decide +kernel
theorem dX9_init_27 : decode cX9_init 27 = .ok (.anewarray 22, 3) := by decide +kernel
theorem dX9_init_30 : decode cX9_init 30 = .ok (.putfield 24, 3) := by decide +kernel
theorem dX9_init_33 : decode cX9_init 33 = .ok (.aload_n 0, 1) := by decide +kernel
theorem dX9_init_34 : decode cX9_init 34 = .ok (.iconst 4, 1) := by decide +kernel
theorem dX9_init_35 : decode cX9_init 35 = .ok (.anewarray 28, 3) := by decide +kernel
theorem dX9_init_38 : decode cX9_init 38 = .ok (.putfield 30, 3) := by decide +kernel
theorem dX9_init_41 : decode cX9_init 41 = .ok (.aload_n 0, 1) := by decide +kernel
theorem dX9_init_42 : decode cX9_init 42 = .ok (.bipush 8, 2) := by decide +kernel
theorem dX9_init_44 : decode cX9_init 44 = .ok (.anewarray 34, 3) := by decide +kernel
theorem dX9_init_47 : decode cX9_init 47 = .ok (.putfield 36, 3) := by decide +kernel
theorem dX9_init_50 : decode cX9_init 50 = .ok (.aload_n 0, 1) := by decide +kernel
theorem dX9_init_51 : decode cX9_init 51 = .ok (.iconst 3, 1) := by decide +kernel
theorem dX9_init_52 : decode cX9_init 52 = .ok (.invokestatic 40, 3) := by decide +kernel
theorem dX9_init_55 : decode cX9_init 55 = .ok (.putfield 44, 3) := by decide +kernel
theorem dX9_init_58 : decode cX9_init 58 = .ok (.aload_n 0, 1) := by decide +kernel
theorem dX9_init_59 : decode cX9_init 59 = .ok (.getfield 11, 3) := by decide +kernel
theorem dX9_init_62 : decode cX9_init 62 = .ok (.iconst 3, 1) := by decide +kernel
theorem dX9_init_63 : decode cX9_init 63 = .ok (.aload_n 0, 1) := by decide +kernel
theorem dX9_init_64 : decode cX9_init 64 = .ok (.getfield 44, 3) := by decide +kernel
theorem dX9_init_67 : decode cX9_init 67 = .ok (.aastore, 1) := by decide +kernel
theorem dX9_init_68 : decode cX9_init 68 = .ok (.return_, 1) := by decide +kernel
theorem dX9_size_0 : decode cX9_size 0 = .ok (.iload_n 1, 1) := by decide +kernel
theorem dX9_size_1 : decode cX9_size 1 = .ok (.iconst 1, 1) := by decide +kernel
theorem dX9_size_2 : decode cX9_size 2 = .ok (.if_icmp .lt 18, 3) := by decide +kernel
theorem dX9_size_5 : decode cX9_size 5 = .ok (.iload_n 1, 1) := by decide +kernel
theorem dX9_size_6 : decode cX9_size 6 = .ok (.bipush 6, 2) := by decide +kernel
theorem dX9_size_8 : decode cX9_size 8 = .ok (.if_icmp .gt 12, 3) := by decide +kernel
theorem dX9_size_11 : decode cX9_size 11 = .ok (.iload_n 1, 1) := by decide +kernel
theorem dX9_size_12 : decode cX9_size 12 = .ok (.aload_n 0, 1) := by decide +kernel
theorem dX9_size_13 : decode cX9_size 13 = .ok (.getfield 11, 3) := by decide +kernel
theorem dX9_size_16 : decode cX9_size 16 = .ok (.arraylength, 1) := by decide +kernel
theorem dX9_size_17 : decode cX9_size 17 = .ok (.if_icmp .lt 13, 3) := by decide +kernel
theorem dX9_size_20 : decode cX9_size 20 = .ok (.new 48, 3) := by decide +kernel
theorem dX9_size_23 : decode cX9_size 23 = .ok (.dup, 1) := by decide +kernel
theorem dX9_size_24 : decode cX9_size 24 = .ok (.ldc 50, 2) := by decide +kernel
theorem dX9_size_26 : decode cX9_size 26 = .ok (.invokespecial 52, 3) := by decide +kernel
theorem dX9_size_29 : decode cX9_size 29 = .ok (.athrow, 1) := by decide +kernel
theorem dX9_size_30 : decode cX9_size 30 = .ok (.aload_n 0, 1) := by decide +kernel
theorem dX9_size_31 : decode cX9_size 31 = .ok (.getfield 11, 3) := by decide +kernel
theorem dX9_size_34 : decode cX9_size 34 = .ok (.iload_n 1, 1) := by decide +kernel
theorem dX9_size_35 : decode cX9_size 35 = .ok (.aaload, 1) := by decide +kernel
theorem dX9_size_36 : decode cX9_size 36 = .ok (.astore_n 2, 1) := by decide +kernel
theorem dX9_size_37 : decode cX9_size 37 = .ok (.aload_n 2, 1) := by decide +kernel
theorem dX9_size_38 : decode cX9_size 38 = .ok (.ifnonnull 15, 3) := by decide +kernel
theorem dX9_size_41 : decode cX9_size 41 = .ok (.iload_n 1, 1) := by decide +kernel
theorem dX9_size_42 : decode cX9_size 42 = .ok (.invokestatic 40, 3) := by decide +kernel
theorem dX9_size_45 : decode cX9_size 45 = .ok (.astore_n 2, 1) := by decide +kernel
theorem dX9_size_46 : decode cX9_size 46 = .ok (.aload_n 0, 1) := by decide +kernel
theorem dX9_size_47 : decode cX9_size 47 = .ok (.getfield 11, 3) := by decide +kernel
theorem dX9_size_50 : decode cX9_size 50 = .ok (.iload_n 1, 1) := by decide +kernel
theorem dX9_size_51 : decode cX9_size 51 = .ok (.aload_n 2, 1) := by decide +kernel
theorem dX9_size_52 : decode cX9_size 52 = .ok (.aastore, 1) := by decide +kernel
theorem dX9_size_53 : decode cX9_size 53 = .ok (.aload_n 0, 1) := by decide +kernel
theorem dX9_size_54 : decode cX9_size 54 = .ok (.aload_n 2, 1) := by decide +kernel
theorem dX9_size_55 : decode cX9_size 55 = .ok (.putfield 44, 3) := by decide +kernel
theorem dX9_size_58 : decode cX9_size 58 = .ok (.aload_n 0, 1) := by decide +kernel
theorem dX9_size_59 : decode cX9_size 59 = .ok (.getfield 55, 3) := by decide +kernel
theorem dX9_size_62 : decode cX9_size 62 = .ok (.istore_n 3, 1) := by decide +kernel
theorem dX9_size_63 : decode cX9_size 63 = .ok (.aload_n 0, 1) := by decide +kernel
theorem dX9_size_64 : decode cX9_size 64 = .ok (.iconst 0, 1) := by decide +kernel
theorem dX9_size_65 : decode cX9_size 65 = .ok (.putfield 55, 3) := by decide +kernel
theorem dX9_size_68 : decode cX9_size 68 = .ok (.iload_n 3, 1) := by decide +kernel
theorem dX9_size_69 : decode cX9_size 69 = .ok (.ireturn, 1) := by decide +kernel
theorem dX9_map_0 : decode cX9_map 0 = .ok (.iload_n 1, 1) := by decide +kernel
theorem dX9_map_1 : decode cX9_map 1 = .ok (.invokestatic 59, 3) := by decide +kernel
theorem dX9_map_4 : decode cX9_map 4 = .ok (.aload_n 0, 1) := by decide +kernel
theorem dX9_map_5 : decode cX9_map 5 = .ok (.getfield 63, 3) := by decide +kernel
theorem dX9_map_8 : decode cX9_map 8 = .ok (.bipush 8, 2) := by decide +kernel
theorem dX9_map_10 : decode cX9_map 10 = .ok (.if_icmp .ge 15, 3) := by decide +kernel
theorem dX9_map_13 : decode cX9_map 13 = .ok (.aload_n 0, 1) := by decide +kernel
theorem dX9_map_14 : decode cX9_map 14 = .ok (.getfield 63, 3) := by decide +kernel
theorem dX9_map_17 : decode cX9_map 17 = .ok (.aload_n 0, 1) := by decide +kernel
theorem dX9_map_18 : decode cX9_map 18 = .ok (.getfield 24, 3) := by decide +kernel
theorem dX9_map_21 : decode cX9_map 21 = .ok (.arraylength, 1) := by decide +kernel
theorem dX9_map_22 : decode cX9_map 22 = .ok (.if_icmp .lt 13, 3) := by decide +kernel
theorem dX9_map_25 : decode cX9_map 25 = .ok (.new 66, 3) := by decide +kernel
theorem dX9_map_28 : decode cX9_map 28 = .ok (.dup, 1) := by decide +kernel
theorem dX9_map_29 : decode cX9_map 29 = .ok (.ldc 68, 2) := by decide +kernel
theorem dX9_map_31 : decode cX9_map 31 = .ok (.invokespecial 70, 3) := by decide +kernel
theorem dX9_map_34 : decode cX9_map 34 = .ok (.athrow, 1) := by decide +kernel
theorem dX9_map_35 : decode cX9_map 35 = .ok (.aload_n 0, 1) := by decide +kernel
theorem dX9_map_36 : decode cX9_map 36 = .ok (.getfield 24, 3) := by decide +kernel
theorem dX9_map_39 : decode cX9_map 39 = .ok (.aload_n 0, 1) := by decide +kernel
theorem dX9_map_40 : decode cX9_map 40 = .ok (.getfield 63, 3) := by decide +kernel
theorem dX9_map_43 : decode cX9_map 43 = .ok (.new 22, 3) := by decide +kernel
theorem dX9_map_46 : decode cX9_map 46 = .ok (.dup, 1) := by decide +kernel
theorem dX9_map_47 : decode cX9_map 47 = .ok (.iload_n 1, 1) := by decide +kernel
theorem dX9_map_48 : decode cX9_map 48 = .ok (.invokespecial 71, 3) := by decide +kernel
theorem dX9_map_51 : decode cX9_map 51 = .ok (.aastore, 1) := by decide +kernel
theorem dX9_map_52 : decode cX9_map 52 = .ok (.aload_n 0, 1) := by decide +kernel
theorem dX9_map_53 : decode cX9_map 53 = .ok (.dup, 1) := by decide +kernel
theorem dX9_map_54 : decode cX9_map 54 = .ok (.getfield 63, 3) := by decide +kernel
theorem dX9_map_57 : decode cX9_map 57 = .ok (.iconst 1, 1) := by decide +kernel
theorem dX9_map_58 : decode cX9_map 58 = .ok (.iadd, 1) := by decide +kernel
theorem dX9_map_59 : decode cX9_map 59 = .ok (.putfield 63, 3) := by decide +kernel
theorem dX9_map_62 : decode cX9_map 62 = .ok (.aload_n 0, 1) := by decide +kernel
theorem dX9_map_63 : decode cX9_map 63 = .ok (.getfield 63, 3) := by decide +kernel
theorem dX9_map_66 : decode cX9_map 66 = .ok (.iconst 1, 1) := by decide +kernel
theorem dX9_map_67 : decode cX9_map 67 = .ok (.isub, 1) := by decide +kernel
theorem dX9_map_68 : decode cX9_map 68 = .ok (.ireturn, 1) := by decide +kernel
theorem dX9_then_0 : decode cX9_then 0 = .ok (.aload_n 0, 1) := by decide +kernel
theorem dX9_then_1 : decode cX9_then 1 = .ok (.iload_n 1, 1) := by decide +kernel
theorem dX9_then_2 : decode cX9_then 2 = .ok (.invokevirtual 73, 3) := by decide +kernel
theorem dX9_then_5 : decode cX9_then 5 = .ok (.astore_n 3, 1) := by decide +kernel
theorem dX9_then_6 : decode cX9_then 6 = .ok (.iload_n 2, 1) := by decide +kernel
theorem dX9_then_7 : decode cX9_then 7 = .ok (.invokestatic 59, 3) := by decide +kernel
theorem dX9_then_10 : decode cX9_then 10 = .ok (.aload_n 3, 1) := by decide +kernel
theorem dX9_then_11 : decode cX9_then 11 = .ok (.getfield 77, 3) := by decide +kernel
theorem dX9_then_14 : decode cX9_then 14 = .ok (.bipush 6, 2) := by decide +kernel
theorem dX9_then_16 : decode cX9_then 16 = .ok (.if_icmp .lt 13, 3) := by decide +kernel
theorem dX9_then_19 : decode cX9_then 19 = .ok (.new 66, 3) := by decide +kernel
theorem dX9_then_22 : decode cX9_then 22 = .ok (.dup, 1) := by decide +kernel
theorem dX9_then_23 : decode cX9_then 23 = .ok (.ldc 80, 2) := by decide +kernel
theorem dX9_then_25 : decode cX9_then 25 = .ok (.invokespecial 70, 3) := by decide +kernel
theorem dX9_then_28 : decode cX9_then 28 = .ok (.athrow, 1) := by decide +kernel
theorem dX9_then_29 : decode cX9_then 29 = .ok (.aload_n 3, 1) := by decide +kernel
theorem dX9_then_30 : decode cX9_then 30 = .ok (.getfield 82, 3) := by decide +kernel
theorem dX9_then_33 : decode cX9_then 33 = .ok (.ifCond .eq 13, 3) := by decide +kernel
theorem dX9_then_36 : decode cX9_then 36 = .ok (.new 66, 3) := by decide +kernel
theorem dX9_then_39 : decode cX9_then 39 = .ok (.dup, 1) := by decide +kernel
theorem dX9_then_40 : decode cX9_then 40 = .ok (.ldc 86, 2) := by decide +kernel
theorem dX9_then_42 : decode cX9_then 42 = .ok (.invokespecial 70, 3) := by decide +kernel
theorem dX9_then_45 : decode cX9_then 45 = .ok (.athrow, 1) := by decide +kernel
theorem dX9_then_46 : decode cX9_then 46 = .ok (.getstatic 88, 3) := by decide +kernel
theorem dX9_then_49 : decode cX9_then 49 = .ok (.iload_n 2, 1) := by decide +kernel
theorem dX9_then_50 : decode cX9_then 50 = .ok (.invokestatic 92, 3) := by decide +kernel
theorem dX9_then_53 : decode cX9_then 53 = .ok (.aload_n 3, 1) := by decide +kernel
theorem dX9_then_54 : decode cX9_then 54 = .ok (.getfield 98, 3) := by decide +kernel
theorem dX9_then_57 : decode cX9_then 57 = .ok (.if_icmp .eq 13, 3) := by decide +kernel
theorem dX9_then_60 : decode cX9_then 60 = .ok (.new 66, 3) := by decide +kernel
theorem dX9_then_63 : decode cX9_then 63 = .ok (.dup, 1) := by decide +kernel
theorem dX9_then_64 : decode cX9_then 64 = .ok (.ldc 101, 2) := by decide +kernel
theorem dX9_then_66 : decode cX9_then 66 = .ok (.invokespecial 70, 3) := by decide +kernel
theorem dX9_then_69 : decode cX9_then 69 = .ok (.athrow, 1) := by decide +kernel
theorem dX9_then_70 : decode cX9_then 70 = .ok (.aload_n 3, 1) := by decide +kernel
theorem dX9_then_71 : decode cX9_then 71 = .ok (.iload_n 2, 1) := by decide +kernel
theorem dX9_then_72 : decode cX9_then 72 = .ok (.invokevirtual 103, 3) := by decide +kernel
theorem dX9_then_75 : decode cX9_then 75 = .ok (.aload_n 3, 1) := by decide +kernel
theorem dX9_then_76 : decode cX9_then 76 = .ok (.getfield 77, 3) := by decide +kernel
theorem dX9_then_79 : decode cX9_then 79 = .ok (.ireturn, 1) := by decide +kernel
theorem dX9_walker_0 : decode cX9_walker 0 = .ok (.iload_n 1, 1) := by decide +kernel
theorem dX9_walker_1 : decode cX9_walker 1 = .ok (.invokestatic 106, 3) := by decide +kernel
theorem dX9_walker_4 : decode cX9_walker 4 = .ok (.aload_n 0, 1) := by decide +kernel
theorem dX9_walker_5 : decode cX9_walker 5 = .ok (.getfield 44, 3) := by decide +kernel
theorem dX9_walker_8 : decode cX9_walker 8 = .ok (.iload_n 1, 1) := by decide +kernel
theorem dX9_walker_9 : decode cX9_walker 9 = .ok (.iload_n 2, 1) := by decide +kernel
theorem dX9_walker_10 : decode cX9_walker 10 = .ok (.invokevirtual 109, 3) := by decide +kernel
theorem dX9_walker_13 : decode cX9_walker 13 = .ok (.istore_n 3, 1) := by decide +kernel
theorem dX9_walker_14 : decode cX9_walker 14 = .ok (.iload_n 3, 1) := by decide +kernel
theorem dX9_walker_15 : decode cX9_walker 15 = .ok (.iconst (-1), 1) := by decide +kernel
theorem dX9_walker_16 : decode cX9_walker 16 = .ok (.if_icmp .ne 13, 3) := by decide +kernel
theorem dX9_walker_19 : decode cX9_walker 19 = .ok (.new 48, 3) := by decide +kernel
theorem dX9_walker_22 : decode cX9_walker 22 = .ok (.dup, 1) := by decide +kernel
theorem dX9_walker_23 : decode cX9_walker 23 = .ok (.ldc 113, 2) := by decide +kernel
theorem dX9_walker_25 : decode cX9_walker 25 = .ok (.invokespecial 52, 3) := by decide +kernel
theorem dX9_walker_28 : decode cX9_walker 28 = .ok (.athrow, 1) := by decide +kernel
theorem dX9_walker_29 : decode cX9_walker 29 = .ok (.aload_n 0, 1) := by decide +kernel
theorem dX9_walker_30 : decode cX9_walker 30 = .ok (.getfield 55, 3) := by decide +kernel
theorem dX9_walker_33 : decode cX9_walker 33 = .ok (.iconst 4, 1) := by decide +kernel
theorem dX9_walker_34 : decode cX9_walker 34 = .ok (.if_icmp .ge 15, 3) := by decide +kernel
theorem dX9_walker_37 : decode cX9_walker 37 = .ok (.aload_n 0, 1) := by decide +kernel
theorem dX9_walker_38 : decode cX9_walker 38 = .ok (.getfield 55, 3) := by decide +kernel
theorem dX9_walker_41 : decode cX9_walker 41 = .ok (.aload_n 0, 1) := by decide +kernel
theorem dX9_walker_42 : decode cX9_walker 42 = .ok (.getfield 30, 3) := by decide +kernel
theorem dX9_walker_45 : decode cX9_walker 45 = .ok (.arraylength, 1) := by decide +kernel
theorem dX9_walker_46 : decode cX9_walker 46 = .ok (.if_icmp .lt 13, 3) := by decide +kernel
theorem dX9_walker_49 : decode cX9_walker 49 = .ok (.new 66, 3) := by decide +kernel
theorem dX9_walker_52 : decode cX9_walker 52 = .ok (.dup, 1) := by decide +kernel
theorem dX9_walker_53 : decode cX9_walker 53 = .ok (.ldc 115, 2) := by decide +kernel
theorem dX9_walker_55 : decode cX9_walker 55 = .ok (.invokespecial 70, 3) := by decide +kernel
theorem dX9_walker_58 : decode cX9_walker 58 = .ok (.athrow, 1) := by decide +kernel
theorem dX9_walker_59 : decode cX9_walker 59 = .ok (.aload_n 0, 1) := by decide +kernel
theorem dX9_walker_60 : decode cX9_walker 60 = .ok (.getfield 30, 3) := by decide +kernel
theorem dX9_walker_63 : decode cX9_walker 63 = .ok (.aload_n 0, 1) := by decide +kernel
theorem dX9_walker_64 : decode cX9_walker 64 = .ok (.getfield 55, 3) := by decide +kernel
theorem dX9_walker_67 : decode cX9_walker 67 = .ok (.new 28, 3) := by decide +kernel
theorem dX9_walker_70 : decode cX9_walker 70 = .ok (.dup, 1) := by decide +kernel
theorem dX9_walker_71 : decode cX9_walker 71 = .ok (.iload_n 1, 1) := by decide +kernel
theorem dX9_walker_72 : decode cX9_walker 72 = .ok (.iload_n 3, 1) := by decide +kernel
theorem dX9_walker_73 : decode cX9_walker 73 = .ok (.invokespecial 117, 3) := by decide +kernel
theorem dX9_walker_76 : decode cX9_walker 76 = .ok (.aastore, 1) := by decide +kernel
theorem dX9_walker_77 : decode cX9_walker 77 = .ok (.aload_n 0, 1) := by decide +kernel
theorem dX9_walker_78 : decode cX9_walker 78 = .ok (.dup, 1) := by decide +kernel
theorem dX9_walker_79 : decode cX9_walker 79 = .ok (.getfield 55, 3) := by decide +kernel
theorem dX9_walker_82 : decode cX9_walker 82 = .ok (.iconst 1, 1) := by decide +kernel
theorem dX9_walker_83 : decode cX9_walker 83 = .ok (.iadd, 1) := by decide +kernel
theorem dX9_walker_84 : decode cX9_walker 84 = .ok (.putfield 55, 3) := by decide +kernel
theorem dX9_walker_87 : decode cX9_walker 87 = .ok (.aload_n 0, 1) := by decide +kernel
theorem dX9_walker_88 : decode cX9_walker 88 = .ok (.getfield 55, 3) := by decide +kernel
theorem dX9_walker_91 : decode cX9_walker 91 = .ok (.iconst 1, 1) := by decide +kernel
theorem dX9_walker_92 : decode cX9_walker 92 = .ok (.isub, 1) := by decide +kernel
theorem dX9_walker_93 : decode cX9_walker 93 = .ok (.ireturn, 1) := by decide +kernel
theorem dX9_claim_0 : decode cX9_claim 0 = .ok (.aload_n 0, 1) := by decide +kernel
theorem dX9_claim_1 : decode cX9_claim 1 = .ok (.iload_n 1, 1) := by decide +kernel
theorem dX9_claim_2 : decode cX9_claim 2 = .ok (.invokevirtual 73, 3) := by decide +kernel
theorem dX9_claim_5 : decode cX9_claim 5 = .ok (.astore 4, 2) := by decide +kernel
theorem dX9_claim_7 : decode cX9_claim 7 = .ok (.iload_n 2, 1) := by decide +kernel
theorem dX9_claim_8 : decode cX9_claim 8 = .ok (.invokestatic 120, 3) := by decide +kernel
theorem dX9_claim_11 : decode cX9_claim 11 = .ok (.iload_n 3, 1) := by decide +kernel
theorem dX9_claim_12 : decode cX9_claim 12 = .ok (.invokestatic 120, 3) := by decide +kernel
theorem dX9_claim_15 : decode cX9_claim 15 = .ok (.aload_n 0, 1) := by decide +kernel
theorem dX9_claim_16 : decode cX9_claim 16 = .ok (.getfield 123, 3) := by decide +kernel
theorem dX9_claim_19 : decode cX9_claim 19 = .ok (.bipush 8, 2) := by decide +kernel
theorem dX9_claim_21 : decode cX9_claim 21 = .ok (.if_icmp .ge 15, 3) := by decide +kernel
theorem dX9_claim_24 : decode cX9_claim 24 = .ok (.aload_n 0, 1) := by decide +kernel
theorem dX9_claim_25 : decode cX9_claim 25 = .ok (.getfield 123, 3) := by decide +kernel
theorem dX9_claim_28 : decode cX9_claim 28 = .ok (.aload_n 0, 1) := by decide +kernel
theorem dX9_claim_29 : decode cX9_claim 29 = .ok (.getfield 36, 3) := by decide +kernel
theorem dX9_claim_32 : decode cX9_claim 32 = .ok (.arraylength, 1) := by decide +kernel
theorem dX9_claim_33 : decode cX9_claim 33 = .ok (.if_icmp .lt 13, 3) := by decide +kernel
theorem dX9_claim_36 : decode cX9_claim 36 = .ok (.new 66, 3) := by decide +kernel
theorem dX9_claim_39 : decode cX9_claim 39 = .ok (.dup, 1) := by decide +kernel
theorem dX9_claim_40 : decode cX9_claim 40 = .ok (.ldc 126, 2) := by decide +kernel
theorem dX9_claim_42 : decode cX9_claim 42 = .ok (.invokespecial 70, 3) := by decide +kernel
theorem dX9_claim_45 : decode cX9_claim 45 = .ok (.athrow, 1) := by decide +kernel
theorem dX9_claim_46 : decode cX9_claim 46 = .ok (.new 34, 3) := by decide +kernel
theorem dX9_claim_49 : decode cX9_claim 49 = .ok (.dup, 1) := by decide +kernel
theorem dX9_claim_50 : decode cX9_claim 50 = .ok (.iload_n 1, 1) := by decide +kernel
theorem dX9_claim_51 : decode cX9_claim 51 = .ok (.iload_n 2, 1) := by decide +kernel
theorem dX9_claim_52 : decode cX9_claim 52 = .ok (.iload_n 3, 1) := by decide +kernel
theorem dX9_claim_53 : decode cX9_claim 53 = .ok (.invokespecial 128, 3) := by decide +kernel
theorem dX9_claim_56 : decode cX9_claim 56 = .ok (.astore 5, 2) := by decide +kernel
theorem dX9_claim_58 : decode cX9_claim 58 = .ok (.aload_n 0, 1) := by decide +kernel
theorem dX9_claim_59 : decode cX9_claim 59 = .ok (.getfield 36, 3) := by decide +kernel
theorem dX9_claim_62 : decode cX9_claim 62 = .ok (.aload_n 0, 1) := by decide +kernel
theorem dX9_claim_63 : decode cX9_claim 63 = .ok (.getfield 123, 3) := by decide +kernel
theorem dX9_claim_66 : decode cX9_claim 66 = .ok (.aload 5, 2) := by decide +kernel
theorem dX9_claim_68 : decode cX9_claim 68 = .ok (.aastore, 1) := by decide +kernel
theorem dX9_claim_69 : decode cX9_claim 69 = .ok (.aload_n 0, 1) := by decide +kernel
theorem dX9_claim_70 : decode cX9_claim 70 = .ok (.dup, 1) := by decide +kernel
theorem dX9_claim_71 : decode cX9_claim 71 = .ok (.getfield 123, 3) := by decide +kernel
theorem dX9_claim_74 : decode cX9_claim 74 = .ok (.iconst 1, 1) := by decide +kernel
theorem dX9_claim_75 : decode cX9_claim 75 = .ok (.iadd, 1) := by decide +kernel
theorem dX9_claim_76 : decode cX9_claim 76 = .ok (.putfield 123, 3) := by decide +kernel
theorem dX9_claim_79 : decode cX9_claim 79 = .ok (.aload 4, 2) := by decide +kernel
theorem dX9_claim_81 : decode cX9_claim 81 = .ok (.iconst 1, 1) := by decide +kernel
theorem dX9_claim_82 : decode cX9_claim 82 = .ok (.putfield 82, 3) := by decide +kernel
theorem dX9_claim_85 : decode cX9_claim 85 = .ok (.aload_n 0, 1) := by decide +kernel
theorem dX9_claim_86 : decode cX9_claim 86 = .ok (.aload 5, 2) := by decide +kernel
theorem dX9_claim_88 : decode cX9_claim 88 = .ok (.aload 4, 2) := by decide +kernel
theorem dX9_claim_90 : decode cX9_claim 90 = .ok (.invokevirtual 131, 3) := by decide +kernel
theorem dX9_claim_93 : decode cX9_claim 93 = .ok (.pop, 1) := by decide +kernel
theorem dX9_claim_94 : decode cX9_claim 94 = .ok (.aload_n 0, 1) := by decide +kernel
theorem dX9_claim_95 : decode cX9_claim 95 = .ok (.getfield 123, 3) := by decide +kernel
theorem dX9_claim_98 : decode cX9_claim 98 = .ok (.iconst 1, 1) := by decide +kernel
theorem dX9_claim_99 : decode cX9_claim 99 = .ok (.isub, 1) := by decide +kernel
theorem dX9_claim_100 : decode cX9_claim 100 = .ok (.ireturn, 1) := by decide +kernel
theorem dX9_send_0 : decode cX9_send 0 = .ok (.aload_n 0, 1) := by decide +kernel
theorem dX9_send_1 : decode cX9_send 1 = .ok (.iload_n 1, 1) := by decide +kernel
theorem dX9_send_2 : decode cX9_send 2 = .ok (.invokevirtual 135, 3) := by decide +kernel
theorem dX9_send_5 : decode cX9_send 5 = .ok (.astore 4, 2) := by decide +kernel
theorem dX9_send_7 : decode cX9_send 7 = .ok (.aload_n 0, 1) := by decide +kernel
theorem dX9_send_8 : decode cX9_send 8 = .ok (.iload_n 2, 1) := by decide +kernel
theorem dX9_send_9 : decode cX9_send 9 = .ok (.invokevirtual 73, 3) := by decide +kernel
theorem dX9_send_12 : decode cX9_send 12 = .ok (.astore 5, 2) := by decide +kernel
theorem dX9_send_14 : decode cX9_send 14 = .ok (.iload_n 3, 1) := by decide +kernel
theorem dX9_send_15 : decode cX9_send 15 = .ok (.iconst 1, 1) := by decide +kernel
theorem dX9_send_16 : decode cX9_send 16 = .ok (.if_icmp .lt 9, 3) := by decide +kernel
theorem dX9_send_19 : decode cX9_send 19 = .ok (.iload_n 3, 1) := by decide +kernel
theorem dX9_send_20 : decode cX9_send 20 = .ok (.bipush 60, 2) := by decide +kernel
theorem dX9_send_22 : decode cX9_send 22 = .ok (.if_icmp .le 13, 3) := by decide +kernel
theorem dX9_send_25 : decode cX9_send 25 = .ok (.new 48, 3) := by decide +kernel
theorem dX9_send_28 : decode cX9_send 28 = .ok (.dup, 1) := by decide +kernel
theorem dX9_send_29 : decode cX9_send 29 = .ok (.ldc 139, 2) := by decide +kernel
theorem dX9_send_31 : decode cX9_send 31 = .ok (.invokespecial 52, 3) := by decide +kernel
theorem dX9_send_34 : decode cX9_send 34 = .ok (.athrow, 1) := by decide +kernel
theorem dX9_send_35 : decode cX9_send 35 = .ok (.aload 5, 2) := by decide +kernel
theorem dX9_send_37 : decode cX9_send 37 = .ok (.getfield 141, 3) := by decide +kernel
theorem dX9_send_40 : decode cX9_send 40 = .ok (.aload 4, 2) := by decide +kernel
theorem dX9_send_42 : decode cX9_send 42 = .ok (.getfield 144, 3) := by decide +kernel
theorem dX9_send_45 : decode cX9_send 45 = .ok (.if_icmp .eq 13, 3) := by decide +kernel
theorem dX9_send_48 : decode cX9_send 48 = .ok (.new 66, 3) := by decide +kernel
theorem dX9_send_51 : decode cX9_send 51 = .ok (.dup, 1) := by decide +kernel
theorem dX9_send_52 : decode cX9_send 52 = .ok (.ldc 147, 2) := by decide +kernel
theorem dX9_send_54 : decode cX9_send 54 = .ok (.invokespecial 70, 3) := by decide +kernel
theorem dX9_send_57 : decode cX9_send 57 = .ok (.athrow, 1) := by decide +kernel
theorem dX9_send_58 : decode cX9_send 58 = .ok (.aload 5, 2) := by decide +kernel
theorem dX9_send_60 : decode cX9_send 60 = .ok (.invokevirtual 149, 3) := by decide +kernel
theorem dX9_send_63 : decode cX9_send 63 = .ok (.ifCond .ne 18, 3) := by decide +kernel
theorem dX9_send_66 : decode cX9_send 66 = .ok (.iload_n 3, 1) := by decide +kernel
theorem dX9_send_67 : decode cX9_send 67 = .ok (.iconst 1, 1) := by decide +kernel
theorem dX9_send_68 : decode cX9_send 68 = .ok (.if_icmp .le 13, 3) := by decide +kernel
theorem dX9_send_71 : decode cX9_send 71 = .ok (.new 66, 3) := by decide +kernel
theorem dX9_send_74 : decode cX9_send 74 = .ok (.dup, 1) := by decide +kernel
theorem dX9_send_75 : decode cX9_send 75 = .ok (.ldc 153, 2) := by decide +kernel
theorem dX9_send_77 : decode cX9_send 77 = .ok (.invokespecial 70, 3) := by decide +kernel
theorem dX9_send_80 : decode cX9_send 80 = .ok (.athrow, 1) := by decide +kernel
theorem dX9_send_81 : decode cX9_send 81 = .ok (.iconst 0, 1) := by decide +kernel
theorem dX9_send_82 : decode cX9_send 82 = .ok (.istore 6, 2) := by decide +kernel
theorem dX9_send_84 : decode cX9_send 84 = .ok (.iload 6, 2) := by decide +kernel
theorem dX9_send_86 : decode cX9_send 86 = .ok (.iload_n 3, 1) := by decide +kernel
theorem dX9_send_87 : decode cX9_send 87 = .ok (.if_icmp .ge 43, 3) := by decide +kernel
theorem dX9_send_90 : decode cX9_send 90 = .ok (.aload 4, 2) := by decide +kernel
theorem dX9_send_92 : decode cX9_send 92 = .ok (.aload 5, 2) := by decide +kernel
theorem dX9_send_94 : decode cX9_send 94 = .ok (.getfield 98, 3) := by decide +kernel
theorem dX9_send_97 : decode cX9_send 97 = .ok (.aload_n 0, 1) := by decide +kernel
theorem dX9_send_98 : decode cX9_send 98 = .ok (.getfield 44, 3) := by decide +kernel
theorem dX9_send_101 : decode cX9_send 101 = .ok (.aload 5, 2) := by decide +kernel
theorem dX9_send_103 : decode cX9_send 103 = .ok (.aload 4, 2) := by decide +kernel
theorem dX9_send_105 : decode cX9_send 105 = .ok (.getfield 155, 3) := by decide +kernel
theorem dX9_send_108 : decode cX9_send 108 = .ok (.invokevirtual 158, 3) := by decide +kernel
theorem dX9_send_111 : decode cX9_send 111 = .ok (.invokevirtual 162, 3) := by decide +kernel
theorem dX9_send_114 : decode cX9_send 114 = .ok (.aload_n 0, 1) := by decide +kernel
theorem dX9_send_115 : decode cX9_send 115 = .ok (.dup, 1) := by decide +kernel
theorem dX9_send_116 : decode cX9_send 116 = .ok (.getfield 165, 3) := by decide +kernel
theorem dX9_send_119 : decode cX9_send 119 = .ok (.iconst 1, 1) := by decide +kernel
theorem dX9_send_120 : decode cX9_send 120 = .ok (.iadd, 1) := by decide +kernel
theorem dX9_send_121 : decode cX9_send 121 = .ok (.putfield 165, 3) := by decide +kernel
theorem dX9_send_124 : decode cX9_send 124 = .ok (.iinc 6 1, 3) := by decide +kernel
theorem dX9_send_127 : decode cX9_send 127 = .ok (.goto (-43), 3) := by decide +kernel
theorem dX9_send_130 : decode cX9_send 130 = .ok (.aload_n 0, 1) := by decide +kernel
theorem dX9_send_131 : decode cX9_send 131 = .ok (.getfield 44, 3) := by decide +kernel
theorem dX9_send_134 : decode cX9_send 134 = .ok (.aload 4, 2) := by decide +kernel
theorem dX9_send_136 : decode cX9_send 136 = .ok (.getfield 144, 3) := by decide +kernel
theorem dX9_send_139 : decode cX9_send 139 = .ok (.aload 4, 2) := by decide +kernel
theorem dX9_send_141 : decode cX9_send 141 = .ok (.getfield 155, 3) := by decide +kernel
theorem dX9_send_144 : decode cX9_send 144 = .ok (.invokevirtual 168, 3) := by decide +kernel
theorem dX9_send_147 : decode cX9_send 147 = .ok (.ireturn, 1) := by decide +kernel
theorem dX9_trial_0 : decode cX9_trial 0 = .ok (.aload_n 0, 1) := by decide +kernel
theorem dX9_trial_1 : decode cX9_trial 1 = .ok (.iload_n 1, 1) := by decide +kernel
theorem dX9_trial_2 : decode cX9_trial 2 = .ok (.invokevirtual 171, 3) := by decide +kernel
theorem dX9_trial_5 : decode cX9_trial 5 = .ok (.astore_n 2, 1) := by decide +kernel
theorem dX9_trial_6 : decode cX9_trial 6 = .ok (.aload_n 0, 1) := by decide +kernel
theorem dX9_trial_7 : decode cX9_trial 7 = .ok (.aload_n 2, 1) := by decide +kernel
theorem dX9_trial_8 : decode cX9_trial 8 = .ok (.aload_n 0, 1) := by decide +kernel
theorem dX9_trial_9 : decode cX9_trial 9 = .ok (.aload_n 2, 1) := by decide +kernel
theorem dX9_trial_10 : decode cX9_trial 10 = .ok (.getfield 175, 3) := by decide +kernel
theorem dX9_trial_13 : decode cX9_trial 13 = .ok (.invokevirtual 73, 3) := by decide +kernel
theorem dX9_trial_16 : decode cX9_trial 16 = .ok (.invokevirtual 131, 3) := by decide +kernel
theorem dX9_trial_19 : decode cX9_trial 19 = .ok (.ireturn, 1) := by decide +kernel
theorem dX9_objects_0 : decode cX9_objects 0 = .ok (.iload_n 1, 1) := by decide +kernel
theorem dX9_objects_1 : decode cX9_objects 1 = .ok (.invokestatic 106, 3) := by decide +kernel
theorem dX9_objects_4 : decode cX9_objects 4 = .ok (.aload_n 0, 1) := by decide +kernel
theorem dX9_objects_5 : decode cX9_objects 5 = .ok (.getfield 44, 3) := by decide +kernel
theorem dX9_objects_8 : decode cX9_objects 8 = .ok (.iload_n 1, 1) := by decide +kernel
theorem dX9_objects_9 : decode cX9_objects 9 = .ok (.invokevirtual 178, 3) := by decide +kernel
theorem dX9_objects_12 : decode cX9_objects 12 = .ok (.ireturn, 1) := by decide +kernel
theorem dX9_unrank_0 : decode cX9_unrank 0 = .ok (.aload_n 0, 1) := by decide +kernel
theorem dX9_unrank_1 : decode cX9_unrank 1 = .ok (.iload_n 1, 1) := by decide +kernel
theorem dX9_unrank_2 : decode cX9_unrank 2 = .ok (.iload_n 2, 1) := by decide +kernel
theorem dX9_unrank_3 : decode cX9_unrank 3 = .ok (.invokevirtual 182, 3) := by decide +kernel
theorem dX9_unrank_6 : decode cX9_unrank 6 = .ok (.aload_n 0, 1) := by decide +kernel
theorem dX9_unrank_7 : decode cX9_unrank 7 = .ok (.getfield 44, 3) := by decide +kernel
theorem dX9_unrank_10 : decode cX9_unrank 10 = .ok (.iload_n 1, 1) := by decide +kernel
theorem dX9_unrank_11 : decode cX9_unrank 11 = .ok (.iload_n 2, 1) := by decide +kernel
theorem dX9_unrank_12 : decode cX9_unrank 12 = .ok (.invokevirtual 168, 3) := by decide +kernel
theorem dX9_unrank_15 : decode cX9_unrank 15 = .ok (.ireturn, 1) := by decide +kernel
theorem dX9_rank_0 : decode cX9_rank 0 = .ok (.iload_n 1, 1) := by decide +kernel
theorem dX9_rank_1 : decode cX9_rank 1 = .ok (.invokestatic 106, 3) := by decide +kernel
theorem dX9_rank_4 : decode cX9_rank 4 = .ok (.aload_n 0, 1) := by decide +kernel
theorem dX9_rank_5 : decode cX9_rank 5 = .ok (.getfield 44, 3) := by decide +kernel
theorem dX9_rank_8 : decode cX9_rank 8 = .ok (.iload_n 1, 1) := by decide +kernel
theorem dX9_rank_9 : decode cX9_rank 9 = .ok (.iload_n 2, 1) := by decide +kernel
theorem dX9_rank_10 : decode cX9_rank 10 = .ok (.invokevirtual 109, 3) := by decide +kernel
theorem dX9_rank_13 : decode cX9_rank 13 = .ok (.ireturn, 1) := by decide +kernel
theorem dX9_statistic_0 : decode cX9_statistic 0 = .ok (.aload_n 0, 1) := by decide +kernel
theorem dX9_statistic_1 : decode cX9_statistic 1 = .ok (.iload_n 1, 1) := by decide +kernel
theorem dX9_statistic_2 : decode cX9_statistic 2 = .ok (.iload_n 3, 1) := by decide +kernel
theorem dX9_statistic_3 : decode cX9_statistic 3 = .ok (.invokevirtual 182, 3) := by decide +kernel
theorem dX9_statistic_6 : decode cX9_statistic 6 = .ok (.iload_n 2, 1) := by decide +kernel
theorem dX9_statistic_7 : decode cX9_statistic 7 = .ok (.invokestatic 120, 3) := by decide +kernel
theorem dX9_statistic_10 : decode cX9_statistic 10 = .ok (.aload_n 0, 1) := by decide +kernel
theorem dX9_statistic_11 : decode cX9_statistic 11 = .ok (.getfield 44, 3) := by decide +kernel
theorem dX9_statistic_14 : decode cX9_statistic 14 = .ok (.iload_n 1, 1) := by decide +kernel
theorem dX9_statistic_15 : decode cX9_statistic 15 = .ok (.iload_n 2, 1) := by decide +kernel
theorem dX9_statistic_16 : decode cX9_statistic 16 = .ok (.iload_n 3, 1) := by decide +kernel
theorem dX9_statistic_17 : decode cX9_statistic 17 = .ok (.invokevirtual 185, 3) := by decide +kernel
theorem dX9_statistic_20 : decode cX9_statistic 20 = .ok (.ireturn, 1) := by decide +kernel
theorem dX9_spread_0 : decode cX9_spread 0 = .ok (.iload_n 1, 1) := by decide +kernel
theorem dX9_spread_1 : decode cX9_spread 1 = .ok (.invokestatic 106, 3) := by decide +kernel
theorem dX9_spread_4 : decode cX9_spread 4 = .ok (.iload_n 2, 1) := by decide +kernel
theorem dX9_spread_5 : decode cX9_spread 5 = .ok (.invokestatic 120, 3) := by decide +kernel
theorem dX9_spread_8 : decode cX9_spread 8 = .ok (.aload_n 0, 1) := by decide +kernel
theorem dX9_spread_9 : decode cX9_spread 9 = .ok (.getfield 44, 3) := by decide +kernel
theorem dX9_spread_12 : decode cX9_spread 12 = .ok (.iload_n 1, 1) := by decide +kernel
theorem dX9_spread_13 : decode cX9_spread 13 = .ok (.iload_n 2, 1) := by decide +kernel
theorem dX9_spread_14 : decode cX9_spread 14 = .ok (.iload_n 3, 1) := by decide +kernel
theorem dX9_spread_15 : decode cX9_spread 15 = .ok (.invokevirtual 189, 3) := by decide +kernel
theorem dX9_spread_18 : decode cX9_spread 18 = .ok (.ireturn, 1) := by decide +kernel
theorem dX9_signs_0 : decode cX9_signs 0 = .ok (.iload_n 1, 1) := by decide +kernel
theorem dX9_signs_1 : decode cX9_signs 1 = .ok (.invokestatic 106, 3) := by decide +kernel
theorem dX9_signs_4 : decode cX9_signs 4 = .ok (.iload_n 2, 1) := by decide +kernel
theorem dX9_signs_5 : decode cX9_signs 5 = .ok (.invokestatic 120, 3) := by decide +kernel
theorem dX9_signs_8 : decode cX9_signs 8 = .ok (.iconst 0, 1) := by decide +kernel
theorem dX9_signs_9 : decode cX9_signs 9 = .ok (.istore_n 3, 1) := by decide +kernel
theorem dX9_signs_10 : decode cX9_signs 10 = .ok (.iconst 0, 1) := by decide +kernel
theorem dX9_signs_11 : decode cX9_signs 11 = .ok (.istore 4, 2) := by decide +kernel
theorem dX9_signs_13 : decode cX9_signs 13 = .ok (.iload 4, 2) := by decide +kernel
theorem dX9_signs_15 : decode cX9_signs 15 = .ok (.bipush 36, 2) := by decide +kernel
theorem dX9_signs_17 : decode cX9_signs 17 = .ok (.if_icmp .gt 29, 3) := by decide +kernel
theorem dX9_signs_20 : decode cX9_signs 20 = .ok (.iload_n 3, 1) := by decide +kernel
theorem dX9_signs_21 : decode cX9_signs 21 = .ok (.iload 4, 2) := by decide +kernel
theorem dX9_signs_23 : decode cX9_signs 23 = .ok (.invokestatic 192, 3) := by decide +kernel
theorem dX9_signs_26 : decode cX9_signs 26 = .ok (.aload_n 0, 1) := by decide +kernel
theorem dX9_signs_27 : decode cX9_signs 27 = .ok (.getfield 44, 3) := by decide +kernel
theorem dX9_signs_30 : decode cX9_signs 30 = .ok (.iload_n 1, 1) := by decide +kernel
theorem dX9_signs_31 : decode cX9_signs 31 = .ok (.iload_n 2, 1) := by decide +kernel
theorem dX9_signs_32 : decode cX9_signs 32 = .ok (.iload 4, 2) := by decide +kernel
theorem dX9_signs_34 : decode cX9_signs 34 = .ok (.invokevirtual 189, 3) := by decide +kernel
theorem dX9_signs_37 : decode cX9_signs 37 = .ok (.imul, 1) := by decide +kernel
theorem dX9_signs_38 : decode cX9_signs 38 = .ok (.iadd, 1) := by decide +kernel
theorem dX9_signs_39 : decode cX9_signs 39 = .ok (.istore_n 3, 1) := by decide +kernel
theorem dX9_signs_40 : decode cX9_signs 40 = .ok (.iinc 4 1, 3) := by decide +kernel
theorem dX9_signs_43 : decode cX9_signs 43 = .ok (.goto (-30), 3) := by decide +kernel
theorem dX9_signs_46 : decode cX9_signs 46 = .ok (.iload_n 3, 1) := by decide +kernel
theorem dX9_signs_47 : decode cX9_signs 47 = .ok (.ireturn, 1) := by decide +kernel
theorem dX9_alike_0 : decode cX9_alike 0 = .ok (.iload_n 1, 1) := by decide +kernel
theorem dX9_alike_1 : decode cX9_alike 1 = .ok (.invokestatic 106, 3) := by decide +kernel
theorem dX9_alike_4 : decode cX9_alike 4 = .ok (.iload_n 3, 1) := by decide +kernel
theorem dX9_alike_5 : decode cX9_alike 5 = .ok (.invokestatic 106, 3) := by decide +kernel
theorem dX9_alike_8 : decode cX9_alike 8 = .ok (.iload_n 2, 1) := by decide +kernel
theorem dX9_alike_9 : decode cX9_alike 9 = .ok (.invokestatic 120, 3) := by decide +kernel
theorem dX9_alike_12 : decode cX9_alike 12 = .ok (.iload 4, 2) := by decide +kernel
theorem dX9_alike_14 : decode cX9_alike 14 = .ok (.invokestatic 120, 3) := by decide +kernel
theorem dX9_alike_17 : decode cX9_alike 17 = .ok (.iconst 0, 1) := by decide +kernel
theorem dX9_alike_18 : decode cX9_alike 18 = .ok (.istore 5, 2) := by decide +kernel
theorem dX9_alike_20 : decode cX9_alike 20 = .ok (.iload 5, 2) := by decide +kernel
theorem dX9_alike_22 : decode cX9_alike 22 = .ok (.bipush 36, 2) := by decide +kernel
theorem dX9_alike_24 : decode cX9_alike 24 = .ok (.if_icmp .gt 37, 3) := by decide +kernel
theorem dX9_alike_27 : decode cX9_alike 27 = .ok (.aload_n 0, 1) := by decide +kernel
theorem dX9_alike_28 : decode cX9_alike 28 = .ok (.getfield 44, 3) := by decide +kernel
theorem dX9_alike_31 : decode cX9_alike 31 = .ok (.iload_n 1, 1) := by decide +kernel
theorem dX9_alike_32 : decode cX9_alike 32 = .ok (.iload_n 2, 1) := by decide +kernel
theorem dX9_alike_33 : decode cX9_alike 33 = .ok (.iload 5, 2) := by decide +kernel
theorem dX9_alike_35 : decode cX9_alike 35 = .ok (.invokevirtual 189, 3) := by decide +kernel
theorem dX9_alike_38 : decode cX9_alike 38 = .ok (.aload_n 0, 1) := by decide +kernel
theorem dX9_alike_39 : decode cX9_alike 39 = .ok (.getfield 44, 3) := by decide +kernel
theorem dX9_alike_42 : decode cX9_alike 42 = .ok (.iload_n 3, 1) := by decide +kernel
theorem dX9_alike_43 : decode cX9_alike 43 = .ok (.iload 4, 2) := by decide +kernel
theorem dX9_alike_45 : decode cX9_alike 45 = .ok (.iload 5, 2) := by decide +kernel
theorem dX9_alike_47 : decode cX9_alike 47 = .ok (.invokevirtual 189, 3) := by decide +kernel
theorem dX9_alike_50 : decode cX9_alike 50 = .ok (.if_icmp .eq 5, 3) := by decide +kernel
theorem dX9_alike_53 : decode cX9_alike 53 = .ok (.iconst 0, 1) := by decide +kernel
theorem dX9_alike_54 : decode cX9_alike 54 = .ok (.ireturn, 1) := by decide +kernel
theorem dX9_alike_55 : decode cX9_alike 55 = .ok (.iinc 5 1, 3) := by decide +kernel
theorem dX9_alike_58 : decode cX9_alike 58 = .ok (.goto (-38), 3) := by decide +kernel
theorem dX9_alike_61 : decode cX9_alike 61 = .ok (.iconst 1, 1) := by decide +kernel
theorem dX9_alike_62 : decode cX9_alike 62 = .ok (.ireturn, 1) := by decide +kernel
theorem dX9_contains_0 : decode cX9_contains 0 = .ok (.aload_n 0, 1) := by decide +kernel
theorem dX9_contains_1 : decode cX9_contains 1 = .ok (.iconst 2, 1) := by decide +kernel
theorem dX9_contains_2 : decode cX9_contains 2 = .ok (.iload_n 1, 1) := by decide +kernel
theorem dX9_contains_3 : decode cX9_contains 3 = .ok (.invokevirtual 182, 3) := by decide +kernel
theorem dX9_contains_6 : decode cX9_contains 6 = .ok (.iload_n 2, 1) := by decide +kernel
theorem dX9_contains_7 : decode cX9_contains 7 = .ok (.invokestatic 195, 3) := by decide +kernel
theorem dX9_contains_10 : decode cX9_contains 10 = .ok (.istore_n 3, 1) := by decide +kernel
theorem dX9_contains_11 : decode cX9_contains 11 = .ok (.iload_n 3, 1) := by decide +kernel
theorem dX9_contains_12 : decode cX9_contains 12 = .ok (.iconst (-1), 1) := by decide +kernel
theorem dX9_contains_13 : decode cX9_contains 13 = .ok (.if_icmp .ne 13, 3) := by decide +kernel
theorem dX9_contains_16 : decode cX9_contains 16 = .ok (.new 48, 3) := by decide +kernel
theorem dX9_contains_19 : decode cX9_contains 19 = .ok (.dup, 1) := by decide +kernel
theorem dX9_contains_20 : decode cX9_contains 20 = .ok (.ldc 198, 2) := by decide +kernel
theorem dX9_contains_22 : decode cX9_contains 22 = .ok (.invokespecial 52, 3) := by decide +kernel
theorem dX9_contains_25 : decode cX9_contains 25 = .ok (.athrow, 1) := by decide +kernel
theorem dX9_contains_26 : decode cX9_contains 26 = .ok (.aload_n 0, 1) := by decide +kernel
theorem dX9_contains_27 : decode cX9_contains 27 = .ok (.getfield 44, 3) := by decide +kernel
theorem dX9_contains_30 : decode cX9_contains 30 = .ok (.iconst 2, 1) := by decide +kernel
theorem dX9_contains_31 : decode cX9_contains 31 = .ok (.iload_n 1, 1) := by decide +kernel
theorem dX9_contains_32 : decode cX9_contains 32 = .ok (.invokevirtual 168, 3) := by decide +kernel
theorem dX9_contains_35 : decode cX9_contains 35 = .ok (.aload_n 0, 1) := by decide +kernel
theorem dX9_contains_36 : decode cX9_contains 36 = .ok (.getfield 44, 3) := by decide +kernel
theorem dX9_contains_39 : decode cX9_contains 39 = .ok (.getfield 200, 3) := by decide +kernel
theorem dX9_contains_42 : decode cX9_contains 42 = .ok (.iload_n 2, 1) := by decide +kernel
theorem dX9_contains_43 : decode cX9_contains 43 = .ok (.iload_n 3, 1) := by decide +kernel
theorem dX9_contains_44 : decode cX9_contains 44 = .ok (.invokestatic 203, 3) := by decide +kernel
theorem dX9_contains_47 : decode cX9_contains 47 = .ok (.ireturn, 1) := by decide +kernel
theorem dX9_sorted_0 : decode cX9_sorted 0 = .ok (.iload_n 1, 1) := by decide +kernel
theorem dX9_sorted_1 : decode cX9_sorted 1 = .ok (.ifCond .lt 9, 3) := by decide +kernel
theorem dX9_sorted_4 : decode cX9_sorted 4 = .ok (.iload_n 1, 1) := by decide +kernel
theorem dX9_sorted_5 : decode cX9_sorted 5 = .ok (.bipush 6, 2) := by decide +kernel
theorem dX9_sorted_7 : decode cX9_sorted 7 = .ok (.if_icmp .le 13, 3) := by decide +kernel
theorem dX9_sorted_10 : decode cX9_sorted 10 = .ok (.new 48, 3) := by decide +kernel
theorem dX9_sorted_13 : decode cX9_sorted 13 = .ok (.dup, 1) := by decide +kernel
theorem dX9_sorted_14 : decode cX9_sorted 14 = .ok (.ldc 209, 2) := by decide +kernel
theorem dX9_sorted_16 : decode cX9_sorted 16 = .ok (.invokespecial 52, 3) := by decide +kernel
theorem dX9_sorted_19 : decode cX9_sorted 19 = .ok (.athrow, 1) := by decide +kernel
theorem dX9_sorted_20 : decode cX9_sorted 20 = .ok (.iconst 0, 1) := by decide +kernel
theorem dX9_sorted_21 : decode cX9_sorted 21 = .ok (.istore_n 2, 1) := by decide +kernel
theorem dX9_sorted_22 : decode cX9_sorted 22 = .ok (.iconst 0, 1) := by decide +kernel
theorem dX9_sorted_23 : decode cX9_sorted 23 = .ok (.istore_n 3, 1) := by decide +kernel
theorem dX9_sorted_24 : decode cX9_sorted 24 = .ok (.iload_n 3, 1) := by decide +kernel
theorem dX9_sorted_25 : decode cX9_sorted 25 = .ok (.aload_n 0, 1) := by decide +kernel
theorem dX9_sorted_26 : decode cX9_sorted 26 = .ok (.getfield 44, 3) := by decide +kernel
theorem dX9_sorted_29 : decode cX9_sorted 29 = .ok (.iconst 2, 1) := by decide +kernel
theorem dX9_sorted_30 : decode cX9_sorted 30 = .ok (.invokevirtual 178, 3) := by decide +kernel
theorem dX9_sorted_33 : decode cX9_sorted 33 = .ok (.if_icmp .ge 24, 3) := by decide +kernel
theorem dX9_sorted_36 : decode cX9_sorted 36 = .ok (.aload_n 0, 1) := by decide +kernel
theorem dX9_sorted_37 : decode cX9_sorted 37 = .ok (.getfield 44, 3) := by decide +kernel
theorem dX9_sorted_40 : decode cX9_sorted 40 = .ok (.iload_n 3, 1) := by decide +kernel
theorem dX9_sorted_41 : decode cX9_sorted 41 = .ok (.iload_n 1, 1) := by decide +kernel
theorem dX9_sorted_42 : decode cX9_sorted 42 = .ok (.invokevirtual 211, 3) := by decide +kernel
theorem dX9_sorted_45 : decode cX9_sorted 45 = .ok (.ifCond .eq 6, 3) := by decide +kernel
theorem dX9_sorted_48 : decode cX9_sorted 48 = .ok (.iinc 2 1, 3) := by decide +kernel
theorem dX9_sorted_51 : decode cX9_sorted 51 = .ok (.iinc 3 1, 3) := by decide +kernel
theorem dX9_sorted_54 : decode cX9_sorted 54 = .ok (.goto (-30), 3) := by decide +kernel
theorem dX9_sorted_57 : decode cX9_sorted 57 = .ok (.iload_n 2, 1) := by decide +kernel
theorem dX9_sorted_58 : decode cX9_sorted 58 = .ok (.ireturn, 1) := by decide +kernel
theorem dX9_ofMap_0 : decode cX9_ofMap 0 = .ok (.aload_n 0, 1) := by decide +kernel
theorem dX9_ofMap_1 : decode cX9_ofMap 1 = .ok (.iload_n 1, 1) := by decide +kernel
theorem dX9_ofMap_2 : decode cX9_ofMap 2 = .ok (.invokevirtual 73, 3) := by decide +kernel
theorem dX9_ofMap_5 : decode cX9_ofMap 5 = .ok (.astore_n 3, 1) := by decide +kernel
theorem dX9_ofMap_6 : decode cX9_ofMap 6 = .ok (.iload_n 2, 1) := by decide +kernel
theorem dX9_ofMap_7 : decode cX9_ofMap 7 = .ok (.ifCond .lt 9, 3) := by decide +kernel
theorem dX9_ofMap_10 : decode cX9_ofMap 10 = .ok (.iload_n 2, 1) := by decide +kernel
theorem dX9_ofMap_11 : decode cX9_ofMap 11 = .ok (.bipush 8, 2) := by decide +kernel
theorem dX9_ofMap_13 : decode cX9_ofMap 13 = .ok (.if_icmp .lt 13, 3) := by decide +kernel
theorem dX9_ofMap_16 : decode cX9_ofMap 16 = .ok (.new 48, 3) := by decide +kernel
theorem dX9_ofMap_19 : decode cX9_ofMap 19 = .ok (.dup, 1) := by decide +kernel
theorem dX9_ofMap_20 : decode cX9_ofMap 20 = .ok (.ldc 215, 2) := by decide +kernel
theorem dX9_ofMap_22 : decode cX9_ofMap 22 = .ok (.invokespecial 52, 3) := by decide +kernel
theorem dX9_ofMap_25 : decode cX9_ofMap 25 = .ok (.athrow, 1) := by decide +kernel
theorem dX9_ofMap_26 : decode cX9_ofMap 26 = .ok (.aload_n 0, 1) := by decide +kernel
theorem dX9_ofMap_27 : decode cX9_ofMap 27 = .ok (.getfield 18, 3) := by decide +kernel
theorem dX9_ofMap_30 : decode cX9_ofMap 30 = .ok (.aload_n 3, 1) := by decide +kernel
theorem dX9_ofMap_31 : decode cX9_ofMap 31 = .ok (.aload_n 0, 1) := by decide +kernel
theorem dX9_ofMap_32 : decode cX9_ofMap 32 = .ok (.getfield 44, 3) := by decide +kernel
theorem dX9_ofMap_35 : decode cX9_ofMap 35 = .ok (.invokevirtual 217, 3) := by decide +kernel
theorem dX9_ofMap_38 : decode cX9_ofMap 38 = .ok (.iload_n 2, 1) := by decide +kernel
theorem dX9_ofMap_39 : decode cX9_ofMap 39 = .ok (.tableswitch 114 0 6 #[41, 46, 51, 56, 80, 104, 109], 41) := by decide +kernel
theorem dX9_ofMap_80 : decode cX9_ofMap 80 = .ok (.aload_n 3, 1) := by decide +kernel
theorem dX9_ofMap_81 : decode cX9_ofMap 81 = .ok (.getfield 141, 3) := by decide +kernel
theorem dX9_ofMap_84 : decode cX9_ofMap 84 = .ok (.ireturn, 1) := by decide +kernel
theorem dX9_ofMap_85 : decode cX9_ofMap 85 = .ok (.aload_n 3, 1) := by decide +kernel
theorem dX9_ofMap_86 : decode cX9_ofMap 86 = .ok (.getfield 98, 3) := by decide +kernel
theorem dX9_ofMap_89 : decode cX9_ofMap 89 = .ok (.ireturn, 1) := by decide +kernel
theorem dX9_ofMap_90 : decode cX9_ofMap 90 = .ok (.aload_n 3, 1) := by decide +kernel
theorem dX9_ofMap_91 : decode cX9_ofMap 91 = .ok (.getfield 77, 3) := by decide +kernel
theorem dX9_ofMap_94 : decode cX9_ofMap 94 = .ok (.ireturn, 1) := by decide +kernel
theorem dX9_ofMap_95 : decode cX9_ofMap 95 = .ok (.aload_n 3, 1) := by decide +kernel
theorem dX9_ofMap_96 : decode cX9_ofMap 96 = .ok (.getfield 221, 3) := by decide +kernel
theorem dX9_ofMap_99 : decode cX9_ofMap 99 = .ok (.aload_n 0, 1) := by decide +kernel
theorem dX9_ofMap_100 : decode cX9_ofMap 100 = .ok (.getfield 44, 3) := by decide +kernel
theorem dX9_ofMap_103 : decode cX9_ofMap 103 = .ok (.aload_n 3, 1) := by decide +kernel
theorem dX9_ofMap_104 : decode cX9_ofMap 104 = .ok (.getfield 141, 3) := by decide +kernel
theorem dX9_ofMap_107 : decode cX9_ofMap 107 = .ok (.invokevirtual 178, 3) := by decide +kernel
theorem dX9_ofMap_110 : decode cX9_ofMap 110 = .ok (.if_icmp .ne 7, 3) := by decide +kernel
theorem dX9_ofMap_113 : decode cX9_ofMap 113 = .ok (.iconst 1, 1) := by decide +kernel
theorem dX9_ofMap_114 : decode cX9_ofMap 114 = .ok (.goto 4, 3) := by decide +kernel
theorem dX9_ofMap_117 : decode cX9_ofMap 117 = .ok (.iconst 0, 1) := by decide +kernel
theorem dX9_ofMap_118 : decode cX9_ofMap 118 = .ok (.ireturn, 1) := by decide +kernel
theorem dX9_ofMap_119 : decode cX9_ofMap 119 = .ok (.aload_n 3, 1) := by decide +kernel
theorem dX9_ofMap_120 : decode cX9_ofMap 120 = .ok (.getfield 221, 3) := by decide +kernel
theorem dX9_ofMap_123 : decode cX9_ofMap 123 = .ok (.aload_n 0, 1) := by decide +kernel
theorem dX9_ofMap_124 : decode cX9_ofMap 124 = .ok (.getfield 44, 3) := by decide +kernel
theorem dX9_ofMap_127 : decode cX9_ofMap 127 = .ok (.aload_n 3, 1) := by decide +kernel
theorem dX9_ofMap_128 : decode cX9_ofMap 128 = .ok (.getfield 98, 3) := by decide +kernel
theorem dX9_ofMap_131 : decode cX9_ofMap 131 = .ok (.invokevirtual 178, 3) := by decide +kernel
theorem dX9_ofMap_134 : decode cX9_ofMap 134 = .ok (.if_icmp .ne 7, 3) := by decide +kernel
theorem dX9_ofMap_137 : decode cX9_ofMap 137 = .ok (.iconst 1, 1) := by decide +kernel
theorem dX9_ofMap_138 : decode cX9_ofMap 138 = .ok (.goto 4, 3) := by decide +kernel
theorem dX9_ofMap_141 : decode cX9_ofMap 141 = .ok (.iconst 0, 1) := by decide +kernel
theorem dX9_ofMap_142 : decode cX9_ofMap 142 = .ok (.ireturn, 1) := by decide +kernel
theorem dX9_ofMap_143 : decode cX9_ofMap 143 = .ok (.aload_n 3, 1) := by decide +kernel
theorem dX9_ofMap_144 : decode cX9_ofMap 144 = .ok (.getfield 221, 3) := by decide +kernel
theorem dX9_ofMap_147 : decode cX9_ofMap 147 = .ok (.ireturn, 1) := by decide +kernel
theorem dX9_ofMap_148 : decode cX9_ofMap 148 = .ok (.aload_n 3, 1) := by decide +kernel
theorem dX9_ofMap_149 : decode cX9_ofMap 149 = .ok (.getfield 224, 3) := by decide +kernel
theorem dX9_ofMap_152 : decode cX9_ofMap 152 = .ok (.ireturn, 1) := by decide +kernel
theorem dX9_ofMap_153 : decode cX9_ofMap 153 = .ok (.aload_n 3, 1) := by decide +kernel
theorem dX9_ofMap_154 : decode cX9_ofMap 154 = .ok (.getfield 82, 3) := by decide +kernel
theorem dX9_ofMap_157 : decode cX9_ofMap 157 = .ok (.ifCond .eq 7, 3) := by decide +kernel
theorem dX9_ofMap_160 : decode cX9_ofMap 160 = .ok (.iconst 1, 1) := by decide +kernel
theorem dX9_ofMap_161 : decode cX9_ofMap 161 = .ok (.goto 4, 3) := by decide +kernel
theorem dX9_ofMap_164 : decode cX9_ofMap 164 = .ok (.iconst 0, 1) := by decide +kernel
theorem dX9_ofMap_165 : decode cX9_ofMap 165 = .ok (.ireturn, 1) := by decide +kernel
theorem dX9_image_0 : decode cX9_image 0 = .ok (.aload_n 0, 1) := by decide +kernel
theorem dX9_image_1 : decode cX9_image 1 = .ok (.iload_n 1, 1) := by decide +kernel
theorem dX9_image_2 : decode cX9_image 2 = .ok (.invokevirtual 73, 3) := by decide +kernel
theorem dX9_image_5 : decode cX9_image 5 = .ok (.astore_n 3, 1) := by decide +kernel
theorem dX9_image_6 : decode cX9_image 6 = .ok (.aload_n 0, 1) := by decide +kernel
theorem dX9_image_7 : decode cX9_image 7 = .ok (.aload_n 3, 1) := by decide +kernel
theorem dX9_image_8 : decode cX9_image 8 = .ok (.getfield 141, 3) := by decide +kernel
theorem dX9_image_11 : decode cX9_image 11 = .ok (.iload_n 2, 1) := by decide +kernel
theorem dX9_image_12 : decode cX9_image 12 = .ok (.invokevirtual 182, 3) := by decide +kernel
theorem dX9_image_15 : decode cX9_image 15 = .ok (.aload_n 0, 1) := by decide +kernel
theorem dX9_image_16 : decode cX9_image 16 = .ok (.getfield 44, 3) := by decide +kernel
theorem dX9_image_19 : decode cX9_image 19 = .ok (.aload_n 3, 1) := by decide +kernel
theorem dX9_image_20 : decode cX9_image 20 = .ok (.iload_n 2, 1) := by decide +kernel
theorem dX9_image_21 : decode cX9_image 21 = .ok (.invokevirtual 158, 3) := by decide +kernel
theorem dX9_image_24 : decode cX9_image 24 = .ok (.ireturn, 1) := by decide +kernel
theorem dX9_source_0 : decode cX9_source 0 = .ok (.aload_n 0, 1) := by decide +kernel
theorem dX9_source_1 : decode cX9_source 1 = .ok (.iload_n 1, 1) := by decide +kernel
theorem dX9_source_2 : decode cX9_source 2 = .ok (.invokevirtual 73, 3) := by decide +kernel
theorem dX9_source_5 : decode cX9_source 5 = .ok (.astore_n 3, 1) := by decide +kernel
theorem dX9_source_6 : decode cX9_source 6 = .ok (.aload_n 0, 1) := by decide +kernel
theorem dX9_source_7 : decode cX9_source 7 = .ok (.aload_n 3, 1) := by decide +kernel
theorem dX9_source_8 : decode cX9_source 8 = .ok (.getfield 98, 3) := by decide +kernel
theorem dX9_source_11 : decode cX9_source 11 = .ok (.iload_n 2, 1) := by decide +kernel
theorem dX9_source_12 : decode cX9_source 12 = .ok (.invokevirtual 182, 3) := by decide +kernel
theorem dX9_source_15 : decode cX9_source 15 = .ok (.iconst 0, 1) := by decide +kernel
theorem dX9_source_16 : decode cX9_source 16 = .ok (.istore 4, 2) := by decide +kernel
theorem dX9_source_18 : decode cX9_source 18 = .ok (.iload 4, 2) := by decide +kernel
theorem dX9_source_20 : decode cX9_source 20 = .ok (.aload_n 0, 1) := by decide +kernel
theorem dX9_source_21 : decode cX9_source 21 = .ok (.getfield 44, 3) := by decide +kernel
theorem dX9_source_24 : decode cX9_source 24 = .ok (.aload_n 3, 1) := by decide +kernel
theorem dX9_source_25 : decode cX9_source 25 = .ok (.getfield 141, 3) := by decide +kernel
theorem dX9_source_28 : decode cX9_source 28 = .ok (.invokevirtual 178, 3) := by decide +kernel
theorem dX9_source_31 : decode cX9_source 31 = .ok (.if_icmp .ge 26, 3) := by decide +kernel
theorem dX9_source_34 : decode cX9_source 34 = .ok (.aload_n 0, 1) := by decide +kernel
theorem dX9_source_35 : decode cX9_source 35 = .ok (.getfield 44, 3) := by decide +kernel
theorem dX9_source_38 : decode cX9_source 38 = .ok (.aload_n 3, 1) := by decide +kernel
theorem dX9_source_39 : decode cX9_source 39 = .ok (.iload 4, 2) := by decide +kernel
theorem dX9_source_41 : decode cX9_source 41 = .ok (.invokevirtual 158, 3) := by decide +kernel
theorem dX9_source_44 : decode cX9_source 44 = .ok (.iload_n 2, 1) := by decide +kernel
theorem dX9_source_45 : decode cX9_source 45 = .ok (.if_icmp .ne 6, 3) := by decide +kernel
theorem dX9_source_48 : decode cX9_source 48 = .ok (.iload 4, 2) := by decide +kernel
theorem dX9_source_50 : decode cX9_source 50 = .ok (.ireturn, 1) := by decide +kernel
theorem dX9_source_51 : decode cX9_source 51 = .ok (.iinc 4 1, 3) := by decide +kernel
theorem dX9_source_54 : decode cX9_source 54 = .ok (.goto (-36), 3) := by decide +kernel
theorem dX9_source_57 : decode cX9_source 57 = .ok (.iconst (-1), 1) := by decide +kernel
theorem dX9_source_58 : decode cX9_source 58 = .ok (.ireturn, 1) := by decide +kernel
theorem dX9_rounds_0 : decode cX9_rounds 0 = .ok (.aload_n 0, 1) := by decide +kernel
theorem dX9_rounds_1 : decode cX9_rounds 1 = .ok (.iload_n 1, 1) := by decide +kernel
theorem dX9_rounds_2 : decode cX9_rounds 2 = .ok (.invokevirtual 73, 3) := by decide +kernel
theorem dX9_rounds_5 : decode cX9_rounds 5 = .ok (.astore_n 2, 1) := by decide +kernel
theorem dX9_rounds_6 : decode cX9_rounds 6 = .ok (.aload_n 0, 1) := by decide +kernel
theorem dX9_rounds_7 : decode cX9_rounds 7 = .ok (.getfield 18, 3) := by decide +kernel
theorem dX9_rounds_10 : decode cX9_rounds 10 = .ok (.aload_n 2, 1) := by decide +kernel
theorem dX9_rounds_11 : decode cX9_rounds 11 = .ok (.aload_n 0, 1) := by decide +kernel
theorem dX9_rounds_12 : decode cX9_rounds 12 = .ok (.getfield 44, 3) := by decide +kernel
theorem dX9_rounds_15 : decode cX9_rounds 15 = .ok (.invokevirtual 217, 3) := by decide +kernel
theorem dX9_rounds_18 : decode cX9_rounds 18 = .ok (.aload_n 2, 1) := by decide +kernel
theorem dX9_rounds_19 : decode cX9_rounds 19 = .ok (.getfield 227, 3) := by decide +kernel
theorem dX9_rounds_22 : decode cX9_rounds 22 = .ok (.ireturn, 1) := by decide +kernel
theorem dX9_period_0 : decode cX9_period 0 = .ok (.aload_n 0, 1) := by decide +kernel
theorem dX9_period_1 : decode cX9_period 1 = .ok (.iload_n 1, 1) := by decide +kernel
theorem dX9_period_2 : decode cX9_period 2 = .ok (.invokevirtual 73, 3) := by decide +kernel
theorem dX9_period_5 : decode cX9_period 5 = .ok (.astore_n 2, 1) := by decide +kernel
theorem dX9_period_6 : decode cX9_period 6 = .ok (.aload_n 0, 1) := by decide +kernel
theorem dX9_period_7 : decode cX9_period 7 = .ok (.getfield 18, 3) := by decide +kernel
theorem dX9_period_10 : decode cX9_period 10 = .ok (.aload_n 2, 1) := by decide +kernel
theorem dX9_period_11 : decode cX9_period 11 = .ok (.aload_n 0, 1) := by decide +kernel
theorem dX9_period_12 : decode cX9_period 12 = .ok (.getfield 44, 3) := by decide +kernel
theorem dX9_period_15 : decode cX9_period 15 = .ok (.invokevirtual 217, 3) := by decide +kernel
theorem dX9_period_18 : decode cX9_period 18 = .ok (.aload_n 2, 1) := by decide +kernel
theorem dX9_period_19 : decode cX9_period 19 = .ok (.getfield 230, 3) := by decide +kernel
theorem dX9_period_22 : decode cX9_period 22 = .ok (.lreturn, 1) := by decide +kernel
theorem dX9_against_0 : decode cX9_against 0 = .ok (.aload_n 0, 1) := by decide +kernel
theorem dX9_against_1 : decode cX9_against 1 = .ok (.iload_n 1, 1) := by decide +kernel
theorem dX9_against_2 : decode cX9_against 2 = .ok (.invokevirtual 73, 3) := by decide +kernel
theorem dX9_against_5 : decode cX9_against 5 = .ok (.astore 4, 2) := by decide +kernel
theorem dX9_against_7 : decode cX9_against 7 = .ok (.iload_n 2, 1) := by decide +kernel
theorem dX9_against_8 : decode cX9_against 8 = .ok (.invokestatic 120, 3) := by decide +kernel
theorem dX9_against_11 : decode cX9_against 11 = .ok (.iload_n 3, 1) := by decide +kernel
theorem dX9_against_12 : decode cX9_against 12 = .ok (.invokestatic 120, 3) := by decide +kernel
theorem dX9_against_15 : decode cX9_against 15 = .ok (.aload_n 0, 1) := by decide +kernel
theorem dX9_against_16 : decode cX9_against 16 = .ok (.aload 4, 2) := by decide +kernel
theorem dX9_against_18 : decode cX9_against 18 = .ok (.iload_n 2, 1) := by decide +kernel
theorem dX9_against_19 : decode cX9_against 19 = .ok (.iload_n 3, 1) := by decide +kernel
theorem dX9_against_20 : decode cX9_against 20 = .ok (.invokevirtual 234, 3) := by decide +kernel
theorem dX9_against_23 : decode cX9_against 23 = .ok (.ireturn, 1) := by decide +kernel
theorem dX9_cancels_0 : decode cX9_cancels 0 = .ok (.aload_n 0, 1) := by decide +kernel
theorem dX9_cancels_1 : decode cX9_cancels 1 = .ok (.iload_n 1, 1) := by decide +kernel
theorem dX9_cancels_2 : decode cX9_cancels 2 = .ok (.invokevirtual 73, 3) := by decide +kernel
theorem dX9_cancels_5 : decode cX9_cancels 5 = .ok (.astore_n 3, 1) := by decide +kernel
theorem dX9_cancels_6 : decode cX9_cancels 6 = .ok (.iload_n 2, 1) := by decide +kernel
theorem dX9_cancels_7 : decode cX9_cancels 7 = .ok (.invokestatic 120, 3) := by decide +kernel
theorem dX9_cancels_10 : decode cX9_cancels 10 = .ok (.aload_n 3, 1) := by decide +kernel
theorem dX9_cancels_11 : decode cX9_cancels 11 = .ok (.invokevirtual 149, 3) := by decide +kernel
theorem dX9_cancels_14 : decode cX9_cancels 14 = .ok (.ifCond .ne 5, 3) := by decide +kernel
theorem dX9_cancels_17 : decode cX9_cancels 17 = .ok (.iconst 0, 1) := by decide +kernel
theorem dX9_cancels_18 : decode cX9_cancels 18 = .ok (.ireturn, 1) := by decide +kernel
theorem dX9_cancels_19 : decode cX9_cancels 19 = .ok (.iconst 0, 1) := by decide +kernel
theorem dX9_cancels_20 : decode cX9_cancels 20 = .ok (.istore 4, 2) := by decide +kernel
theorem dX9_cancels_22 : decode cX9_cancels 22 = .ok (.iload 4, 2) := by decide +kernel
theorem dX9_cancels_24 : decode cX9_cancels 24 = .ok (.aload_n 0, 1) := by decide +kernel
theorem dX9_cancels_25 : decode cX9_cancels 25 = .ok (.getfield 44, 3) := by decide +kernel
theorem dX9_cancels_28 : decode cX9_cancels 28 = .ok (.aload_n 3, 1) := by decide +kernel
theorem dX9_cancels_29 : decode cX9_cancels 29 = .ok (.getfield 141, 3) := by decide +kernel
theorem dX9_cancels_32 : decode cX9_cancels 32 = .ok (.invokevirtual 178, 3) := by decide +kernel
theorem dX9_cancels_35 : decode cX9_cancels 35 = .ok (.if_icmp .ge 22, 3) := by decide +kernel
theorem dX9_cancels_38 : decode cX9_cancels 38 = .ok (.aload_n 0, 1) := by decide +kernel
theorem dX9_cancels_39 : decode cX9_cancels 39 = .ok (.aload_n 3, 1) := by decide +kernel
theorem dX9_cancels_40 : decode cX9_cancels 40 = .ok (.iload_n 2, 1) := by decide +kernel
theorem dX9_cancels_41 : decode cX9_cancels 41 = .ok (.iload 4, 2) := by decide +kernel
theorem dX9_cancels_43 : decode cX9_cancels 43 = .ok (.invokevirtual 238, 3) := by decide +kernel
theorem dX9_cancels_46 : decode cX9_cancels 46 = .ok (.ifCond .ne 5, 3) := by decide +kernel
theorem dX9_cancels_49 : decode cX9_cancels 49 = .ok (.iconst 0, 1) := by decide +kernel
theorem dX9_cancels_50 : decode cX9_cancels 50 = .ok (.ireturn, 1) := by decide +kernel
theorem dX9_cancels_51 : decode cX9_cancels 51 = .ok (.iinc 4 1, 3) := by decide +kernel
theorem dX9_cancels_54 : decode cX9_cancels 54 = .ok (.goto (-32), 3) := by decide +kernel
theorem dX9_cancels_57 : decode cX9_cancels 57 = .ok (.iconst 1, 1) := by decide +kernel
theorem dX9_cancels_58 : decode cX9_cancels 58 = .ok (.ireturn, 1) := by decide +kernel
theorem dX9_ofWalker_0 : decode cX9_ofWalker 0 = .ok (.aload_n 0, 1) := by decide +kernel
theorem dX9_ofWalker_1 : decode cX9_ofWalker 1 = .ok (.iload_n 1, 1) := by decide +kernel
theorem dX9_ofWalker_2 : decode cX9_ofWalker 2 = .ok (.invokevirtual 135, 3) := by decide +kernel
theorem dX9_ofWalker_5 : decode cX9_ofWalker 5 = .ok (.astore_n 3, 1) := by decide +kernel
theorem dX9_ofWalker_6 : decode cX9_ofWalker 6 = .ok (.iload_n 2, 1) := by decide +kernel
theorem dX9_ofWalker_7 : decode cX9_ofWalker 7 = .ok (.ifCond .lt 8, 3) := by decide +kernel
theorem dX9_ofWalker_10 : decode cX9_ofWalker 10 = .ok (.iload_n 2, 1) := by decide +kernel
theorem dX9_ofWalker_11 : decode cX9_ofWalker 11 = .ok (.iconst 5, 1) := by decide +kernel
theorem dX9_ofWalker_12 : decode cX9_ofWalker 12 = .ok (.if_icmp .lt 13, 3) := by decide +kernel
theorem dX9_ofWalker_15 : decode cX9_ofWalker 15 = .ok (.new 48, 3) := by decide +kernel
theorem dX9_ofWalker_18 : decode cX9_ofWalker 18 = .ok (.dup, 1) := by decide +kernel
theorem dX9_ofWalker_19 : decode cX9_ofWalker 19 = .ok (.ldc 242, 2) := by decide +kernel
theorem dX9_ofWalker_21 : decode cX9_ofWalker 21 = .ok (.invokespecial 52, 3) := by decide +kernel
theorem dX9_ofWalker_24 : decode cX9_ofWalker 24 = .ok (.athrow, 1) := by decide +kernel
theorem dX9_ofWalker_25 : decode cX9_ofWalker 25 = .ok (.iload_n 2, 1) := by decide +kernel
theorem dX9_ofWalker_26 : decode cX9_ofWalker 26 = .ok (.tableswitch 72 0 3 #[30, 35, 51, 67], 30) := by decide +kernel
theorem dX9_ofWalker_56 : decode cX9_ofWalker 56 = .ok (.aload_n 3, 1) := by decide +kernel
theorem dX9_ofWalker_57 : decode cX9_ofWalker 57 = .ok (.getfield 144, 3) := by decide +kernel
theorem dX9_ofWalker_60 : decode cX9_ofWalker 60 = .ok (.ireturn, 1) := by decide +kernel
theorem dX9_ofWalker_61 : decode cX9_ofWalker 61 = .ok (.aload_n 0, 1) := by decide +kernel
theorem dX9_ofWalker_62 : decode cX9_ofWalker 62 = .ok (.getfield 44, 3) := by decide +kernel
theorem dX9_ofWalker_65 : decode cX9_ofWalker 65 = .ok (.aload_n 3, 1) := by decide +kernel
theorem dX9_ofWalker_66 : decode cX9_ofWalker 66 = .ok (.getfield 144, 3) := by decide +kernel
theorem dX9_ofWalker_69 : decode cX9_ofWalker 69 = .ok (.aload_n 3, 1) := by decide +kernel
theorem dX9_ofWalker_70 : decode cX9_ofWalker 70 = .ok (.getfield 155, 3) := by decide +kernel
theorem dX9_ofWalker_73 : decode cX9_ofWalker 73 = .ok (.invokevirtual 168, 3) := by decide +kernel
theorem dX9_ofWalker_76 : decode cX9_ofWalker 76 = .ok (.ireturn, 1) := by decide +kernel
theorem dX9_ofWalker_77 : decode cX9_ofWalker 77 = .ok (.aload_n 0, 1) := by decide +kernel
theorem dX9_ofWalker_78 : decode cX9_ofWalker 78 = .ok (.getfield 44, 3) := by decide +kernel
theorem dX9_ofWalker_81 : decode cX9_ofWalker 81 = .ok (.aload_n 3, 1) := by decide +kernel
theorem dX9_ofWalker_82 : decode cX9_ofWalker 82 = .ok (.getfield 244, 3) := by decide +kernel
theorem dX9_ofWalker_85 : decode cX9_ofWalker 85 = .ok (.aload_n 3, 1) := by decide +kernel
theorem dX9_ofWalker_86 : decode cX9_ofWalker 86 = .ok (.getfield 247, 3) := by decide +kernel
theorem dX9_ofWalker_89 : decode cX9_ofWalker 89 = .ok (.invokevirtual 168, 3) := by decide +kernel
theorem dX9_ofWalker_92 : decode cX9_ofWalker 92 = .ok (.ireturn, 1) := by decide +kernel
theorem dX9_ofWalker_93 : decode cX9_ofWalker 93 = .ok (.aload_n 3, 1) := by decide +kernel
theorem dX9_ofWalker_94 : decode cX9_ofWalker 94 = .ok (.getfield 250, 3) := by decide +kernel
theorem dX9_ofWalker_97 : decode cX9_ofWalker 97 = .ok (.ireturn, 1) := by decide +kernel
theorem dX9_ofWalker_98 : decode cX9_ofWalker 98 = .ok (.aload_n 3, 1) := by decide +kernel
theorem dX9_ofWalker_99 : decode cX9_ofWalker 99 = .ok (.getfield 253, 3) := by decide +kernel
theorem dX9_ofWalker_102 : decode cX9_ofWalker 102 = .ok (.ireturn, 1) := by decide +kernel
theorem dX9_ofClaim_0 : decode cX9_ofClaim 0 = .ok (.aload_n 0, 1) := by decide +kernel
theorem dX9_ofClaim_1 : decode cX9_ofClaim 1 = .ok (.iload_n 1, 1) := by decide +kernel
theorem dX9_ofClaim_2 : decode cX9_ofClaim 2 = .ok (.invokevirtual 171, 3) := by decide +kernel
theorem dX9_ofClaim_5 : decode cX9_ofClaim 5 = .ok (.astore_n 3, 1) := by decide +kernel
theorem dX9_ofClaim_6 : decode cX9_ofClaim 6 = .ok (.iload_n 2, 1) := by decide +kernel
theorem dX9_ofClaim_7 : decode cX9_ofClaim 7 = .ok (.ifCond .lt 8, 3) := by decide +kernel
theorem dX9_ofClaim_10 : decode cX9_ofClaim 10 = .ok (.iload_n 2, 1) := by decide +kernel
theorem dX9_ofClaim_11 : decode cX9_ofClaim 11 = .ok (.iconst 5, 1) := by decide +kernel
theorem dX9_ofClaim_12 : decode cX9_ofClaim 12 = .ok (.if_icmp .lt 13, 3) := by decide +kernel
theorem dX9_ofClaim_15 : decode cX9_ofClaim 15 = .ok (.new 48, 3) := by decide +kernel
theorem dX9_ofClaim_18 : decode cX9_ofClaim 18 = .ok (.dup, 1) := by decide +kernel
theorem dX9_ofClaim_19 : decode cX9_ofClaim 19 = .ok (.ldc 242, 2) := by decide +kernel
theorem dX9_ofClaim_21 : decode cX9_ofClaim 21 = .ok (.invokespecial 52, 3) := by decide +kernel
theorem dX9_ofClaim_24 : decode cX9_ofClaim 24 = .ok (.athrow, 1) := by decide +kernel
theorem dX9_ofClaim_25 : decode cX9_ofClaim 25 = .ok (.iload_n 2, 1) := by decide +kernel
theorem dX9_ofClaim_26 : decode cX9_ofClaim 26 = .ok (.tableswitch 50 0 3 #[30, 35, 40, 45], 30) := by decide +kernel
theorem dX9_ofClaim_56 : decode cX9_ofClaim 56 = .ok (.aload_n 3, 1) := by decide +kernel
theorem dX9_ofClaim_57 : decode cX9_ofClaim 57 = .ok (.getfield 175, 3) := by decide +kernel
theorem dX9_ofClaim_60 : decode cX9_ofClaim 60 = .ok (.ireturn, 1) := by decide +kernel
theorem dX9_ofClaim_61 : decode cX9_ofClaim 61 = .ok (.aload_n 3, 1) := by decide +kernel
theorem dX9_ofClaim_62 : decode cX9_ofClaim 62 = .ok (.getfield 256, 3) := by decide +kernel
theorem dX9_ofClaim_65 : decode cX9_ofClaim 65 = .ok (.ireturn, 1) := by decide +kernel
theorem dX9_ofClaim_66 : decode cX9_ofClaim 66 = .ok (.aload_n 3, 1) := by decide +kernel
theorem dX9_ofClaim_67 : decode cX9_ofClaim 67 = .ok (.getfield 259, 3) := by decide +kernel
theorem dX9_ofClaim_70 : decode cX9_ofClaim 70 = .ok (.ireturn, 1) := by decide +kernel
theorem dX9_ofClaim_71 : decode cX9_ofClaim 71 = .ok (.aload_n 3, 1) := by decide +kernel
theorem dX9_ofClaim_72 : decode cX9_ofClaim 72 = .ok (.getfield 262, 3) := by decide +kernel
theorem dX9_ofClaim_75 : decode cX9_ofClaim 75 = .ok (.ireturn, 1) := by decide +kernel
theorem dX9_ofClaim_76 : decode cX9_ofClaim 76 = .ok (.aload_n 3, 1) := by decide +kernel
theorem dX9_ofClaim_77 : decode cX9_ofClaim 77 = .ok (.getfield 265, 3) := by decide +kernel
theorem dX9_ofClaim_80 : decode cX9_ofClaim 80 = .ok (.ireturn, 1) := by decide +kernel
theorem dX9_many_0 : decode cX9_many 0 = .ok (.iload_n 1, 1) := by decide +kernel
theorem dX9_many_1 : decode cX9_many 1 = .ok (.ifCond .lt 9, 3) := by decide +kernel
theorem dX9_many_4 : decode cX9_many 4 = .ok (.iload_n 1, 1) := by decide +kernel
theorem dX9_many_5 : decode cX9_many 5 = .ok (.bipush 7, 2) := by decide +kernel
theorem dX9_many_7 : decode cX9_many 7 = .ok (.if_icmp .lt 14, 3) := by decide +kernel
theorem dX9_many_10 : decode cX9_many 10 = .ok (.new 48, 3) := by decide +kernel
theorem dX9_many_13 : decode cX9_many 13 = .ok (.dup, 1) := by decide +kernel
theorem dX9_many_14 : decode cX9_many 14 = .ok (.ldc_w 268, 3) := by decide +kernel
theorem dX9_many_17 : decode cX9_many 17 = .ok (.invokespecial 52, 3) := by decide +kernel
theorem dX9_many_20 : decode cX9_many 20 = .ok (.athrow, 1) := by decide +kernel
theorem dX9_many_21 : decode cX9_many 21 = .ok (.iload_n 1, 1) := by decide +kernel
theorem dX9_many_22 : decode cX9_many 22 = .ok (.tableswitch 71 0 5 #[38, 46, 51, 56, 61, 66], 38) := by decide +kernel
theorem dX9_many_60 : decode cX9_many 60 = .ok (.aload_n 0, 1) := by decide +kernel
theorem dX9_many_61 : decode cX9_many 61 = .ok (.getfield 44, 3) := by decide +kernel
theorem dX9_many_64 : decode cX9_many 64 = .ok (.getfield 200, 3) := by decide +kernel
theorem dX9_many_67 : decode cX9_many 67 = .ok (.ireturn, 1) := by decide +kernel
theorem dX9_many_68 : decode cX9_many 68 = .ok (.aload_n 0, 1) := by decide +kernel
theorem dX9_many_69 : decode cX9_many 69 = .ok (.getfield 63, 3) := by decide +kernel
theorem dX9_many_72 : decode cX9_many 72 = .ok (.ireturn, 1) := by decide +kernel
theorem dX9_many_73 : decode cX9_many 73 = .ok (.aload_n 0, 1) := by decide +kernel
theorem dX9_many_74 : decode cX9_many 74 = .ok (.getfield 55, 3) := by decide +kernel
theorem dX9_many_77 : decode cX9_many 77 = .ok (.ireturn, 1) := by decide +kernel
theorem dX9_many_78 : decode cX9_many 78 = .ok (.aload_n 0, 1) := by decide +kernel
theorem dX9_many_79 : decode cX9_many 79 = .ok (.getfield 123, 3) := by decide +kernel
theorem dX9_many_82 : decode cX9_many 82 = .ok (.ireturn, 1) := by decide +kernel
theorem dX9_many_83 : decode cX9_many 83 = .ok (.aload_n 0, 1) := by decide +kernel
theorem dX9_many_84 : decode cX9_many 84 = .ok (.invokevirtual 270, 3) := by decide +kernel
theorem dX9_many_87 : decode cX9_many 87 = .ok (.ireturn, 1) := by decide +kernel
theorem dX9_many_88 : decode cX9_many 88 = .ok (.aload_n 0, 1) := by decide +kernel
theorem dX9_many_89 : decode cX9_many 89 = .ok (.getfield 165, 3) := by decide +kernel
theorem dX9_many_92 : decode cX9_many 92 = .ok (.ireturn, 1) := by decide +kernel
theorem dX9_many_93 : decode cX9_many 93 = .ok (.aload_n 0, 1) := by decide +kernel
theorem dX9_many_94 : decode cX9_many 94 = .ok (.getfield 274, 3) := by decide +kernel
theorem dX9_many_97 : decode cX9_many 97 = .ok (.ireturn, 1) := by decide +kernel
theorem dX9_mean_0 : decode cX9_mean 0 = .ok (.iload_n 1, 1) := by decide +kernel
theorem dX9_mean_1 : decode cX9_mean 1 = .ok (.invokestatic 106, 3) := by decide +kernel
theorem dX9_mean_4 : decode cX9_mean 4 = .ok (.iload_n 2, 1) := by decide +kernel
theorem dX9_mean_5 : decode cX9_mean 5 = .ok (.invokestatic 120, 3) := by decide +kernel
theorem dX9_mean_8 : decode cX9_mean 8 = .ok (.iconst 0, 1) := by decide +kernel
theorem dX9_mean_9 : decode cX9_mean 9 = .ok (.istore_n 3, 1) := by decide +kernel
theorem dX9_mean_10 : decode cX9_mean 10 = .ok (.iconst 0, 1) := by decide +kernel
theorem dX9_mean_11 : decode cX9_mean 11 = .ok (.istore 4, 2) := by decide +kernel
theorem dX9_mean_13 : decode cX9_mean 13 = .ok (.iload 4, 2) := by decide +kernel
theorem dX9_mean_15 : decode cX9_mean 15 = .ok (.bipush 36, 2) := by decide +kernel
theorem dX9_mean_17 : decode cX9_mean 17 = .ok (.if_icmp .gt 26, 3) := by decide +kernel
theorem dX9_mean_20 : decode cX9_mean 20 = .ok (.iload_n 3, 1) := by decide +kernel
theorem dX9_mean_21 : decode cX9_mean 21 = .ok (.iload 4, 2) := by decide +kernel
theorem dX9_mean_23 : decode cX9_mean 23 = .ok (.aload_n 0, 1) := by decide +kernel
theorem dX9_mean_24 : decode cX9_mean 24 = .ok (.getfield 44, 3) := by decide +kernel
theorem dX9_mean_27 : decode cX9_mean 27 = .ok (.iload_n 1, 1) := by decide +kernel
theorem dX9_mean_28 : decode cX9_mean 28 = .ok (.iload_n 2, 1) := by decide +kernel
theorem dX9_mean_29 : decode cX9_mean 29 = .ok (.iload 4, 2) := by decide +kernel
theorem dX9_mean_31 : decode cX9_mean 31 = .ok (.invokevirtual 189, 3) := by decide +kernel
theorem dX9_mean_34 : decode cX9_mean 34 = .ok (.imul, 1) := by decide +kernel
theorem dX9_mean_35 : decode cX9_mean 35 = .ok (.iadd, 1) := by decide +kernel
theorem dX9_mean_36 : decode cX9_mean 36 = .ok (.istore_n 3, 1) := by decide +kernel
theorem dX9_mean_37 : decode cX9_mean 37 = .ok (.iinc 4 1, 3) := by decide +kernel
theorem dX9_mean_40 : decode cX9_mean 40 = .ok (.goto (-27), 3) := by decide +kernel
theorem dX9_mean_43 : decode cX9_mean 43 = .ok (.aload_n 0, 1) := by decide +kernel
theorem dX9_mean_44 : decode cX9_mean 44 = .ok (.getfield 44, 3) := by decide +kernel
theorem dX9_mean_47 : decode cX9_mean 47 = .ok (.iload_n 1, 1) := by decide +kernel
theorem dX9_mean_48 : decode cX9_mean 48 = .ok (.invokevirtual 178, 3) := by decide +kernel
theorem dX9_mean_51 : decode cX9_mean 51 = .ok (.istore 4, 2) := by decide +kernel
theorem dX9_mean_53 : decode cX9_mean 53 = .ok (.iload 4, 2) := by decide +kernel
theorem dX9_mean_55 : decode cX9_mean 55 = .ok (.ifCond .le 12, 3) := by decide +kernel
theorem dX9_mean_58 : decode cX9_mean 58 = .ok (.iload_n 3, 1) := by decide +kernel
theorem dX9_mean_59 : decode cX9_mean 59 = .ok (.i2d, 1) := by decide +kernel
theorem dX9_mean_60 : decode cX9_mean 60 = .ok (.iload 4, 2) := by decide +kernel
theorem dX9_mean_62 : decode cX9_mean 62 = .ok (.i2d, 1) := by decide +kernel
theorem dX9_mean_63 : decode cX9_mean 63 = .ok (.ddiv, 1) := by decide +kernel
theorem dX9_mean_64 : decode cX9_mean 64 = .ok (.goto 4, 3) := by decide +kernel
theorem dX9_mean_67 : decode cX9_mean 67 = .ok (.dconst 0, 1) := by decide +kernel
theorem dX9_mean_68 : decode cX9_mean 68 = .ok (.dreturn, 1) := by decide +kernel
theorem dX9_digest_0 : decode cX9_digest 0 = .ok (.aload_n 0, 1) := by decide +kernel
theorem dX9_digest_1 : decode cX9_digest 1 = .ok (.ldc2_w 277, 3) := by decide +kernel
theorem dX9_digest_4 : decode cX9_digest 4 = .ok (.invokevirtual 279, 3) := by decide +kernel
theorem dX9_digest_7 : decode cX9_digest 7 = .ok (.lstore_n 1, 1) := by decide +kernel
theorem dX9_digest_8 : decode cX9_digest 8 = .ok (.iconst 0, 1) := by decide +kernel
theorem dX9_digest_9 : decode cX9_digest 9 = .ok (.istore_n 3, 1) := by decide +kernel
theorem dX9_digest_10 : decode cX9_digest 10 = .ok (.iload_n 3, 1) := by decide +kernel
theorem dX9_digest_11 : decode cX9_digest 11 = .ok (.aload_n 0, 1) := by decide +kernel
theorem dX9_digest_12 : decode cX9_digest 12 = .ok (.getfield 63, 3) := by decide +kernel
theorem dX9_digest_15 : decode cX9_digest 15 = .ok (.if_icmp .ge 16, 3) := by decide +kernel
theorem dX9_digest_18 : decode cX9_digest 18 = .ok (.aload_n 0, 1) := by decide +kernel
theorem dX9_digest_19 : decode cX9_digest 19 = .ok (.lload_n 1, 1) := by decide +kernel
theorem dX9_digest_20 : decode cX9_digest 20 = .ok (.iload_n 3, 1) := by decide +kernel
theorem dX9_digest_21 : decode cX9_digest 21 = .ok (.invokevirtual 283, 3) := by decide +kernel
theorem dX9_digest_24 : decode cX9_digest 24 = .ok (.lstore_n 1, 1) := by decide +kernel
theorem dX9_digest_25 : decode cX9_digest 25 = .ok (.iinc 3 1, 3) := by decide +kernel
theorem dX9_digest_28 : decode cX9_digest 28 = .ok (.goto (-18), 3) := by decide +kernel
theorem dX9_digest_31 : decode cX9_digest 31 = .ok (.iconst 0, 1) := by decide +kernel
theorem dX9_digest_32 : decode cX9_digest 32 = .ok (.istore_n 3, 1) := by decide +kernel
theorem dX9_digest_33 : decode cX9_digest 33 = .ok (.iload_n 3, 1) := by decide +kernel
theorem dX9_digest_34 : decode cX9_digest 34 = .ok (.aload_n 0, 1) := by decide +kernel
theorem dX9_digest_35 : decode cX9_digest 35 = .ok (.getfield 55, 3) := by decide +kernel
theorem dX9_digest_38 : decode cX9_digest 38 = .ok (.if_icmp .ge 39, 3) := by decide +kernel
theorem dX9_digest_41 : decode cX9_digest 41 = .ok (.iconst 0, 1) := by decide +kernel
theorem dX9_digest_42 : decode cX9_digest 42 = .ok (.istore 4, 2) := by decide +kernel
theorem dX9_digest_44 : decode cX9_digest 44 = .ok (.iload 4, 2) := by decide +kernel
theorem dX9_digest_46 : decode cX9_digest 46 = .ok (.iconst 5, 1) := by decide +kernel
theorem dX9_digest_47 : decode cX9_digest 47 = .ok (.if_icmp .ge 24, 3) := by decide +kernel
theorem dX9_digest_50 : decode cX9_digest 50 = .ok (.lload_n 1, 1) := by decide +kernel
theorem dX9_digest_51 : decode cX9_digest 51 = .ok (.ldc2_w 287, 3) := by decide +kernel
theorem dX9_digest_54 : decode cX9_digest 54 = .ok (.lmul, 1) := by decide +kernel
theorem dX9_digest_55 : decode cX9_digest 55 = .ok (.aload_n 0, 1) := by decide +kernel
theorem dX9_digest_56 : decode cX9_digest 56 = .ok (.iload_n 3, 1) := by decide +kernel
theorem dX9_digest_57 : decode cX9_digest 57 = .ok (.iload 4, 2) := by decide +kernel
theorem dX9_digest_59 : decode cX9_digest 59 = .ok (.invokevirtual 289, 3) := by decide +kernel
theorem dX9_digest_62 : decode cX9_digest 62 = .ok (.i2l, 1) := by decide +kernel
theorem dX9_digest_63 : decode cX9_digest 63 = .ok (.ladd, 1) := by decide +kernel
theorem dX9_digest_64 : decode cX9_digest 64 = .ok (.lstore_n 1, 1) := by decide +kernel
theorem dX9_digest_65 : decode cX9_digest 65 = .ok (.iinc 4 1, 3) := by decide +kernel
theorem dX9_digest_68 : decode cX9_digest 68 = .ok (.goto (-24), 3) := by decide +kernel
theorem dX9_digest_71 : decode cX9_digest 71 = .ok (.iinc 3 1, 3) := by decide +kernel
theorem dX9_digest_74 : decode cX9_digest 74 = .ok (.goto (-41), 3) := by decide +kernel
theorem dX9_digest_77 : decode cX9_digest 77 = .ok (.iconst 0, 1) := by decide +kernel
theorem dX9_digest_78 : decode cX9_digest 78 = .ok (.istore_n 3, 1) := by decide +kernel
theorem dX9_digest_79 : decode cX9_digest 79 = .ok (.iload_n 3, 1) := by decide +kernel
theorem dX9_digest_80 : decode cX9_digest 80 = .ok (.aload_n 0, 1) := by decide +kernel
theorem dX9_digest_81 : decode cX9_digest 81 = .ok (.getfield 123, 3) := by decide +kernel
theorem dX9_digest_84 : decode cX9_digest 84 = .ok (.if_icmp .ge 39, 3) := by decide +kernel
theorem dX9_digest_87 : decode cX9_digest 87 = .ok (.iconst 0, 1) := by decide +kernel
theorem dX9_digest_88 : decode cX9_digest 88 = .ok (.istore 4, 2) := by decide +kernel
theorem dX9_digest_90 : decode cX9_digest 90 = .ok (.iload 4, 2) := by decide +kernel
theorem dX9_digest_92 : decode cX9_digest 92 = .ok (.iconst 5, 1) := by decide +kernel
theorem dX9_digest_93 : decode cX9_digest 93 = .ok (.if_icmp .ge 24, 3) := by decide +kernel
theorem dX9_digest_96 : decode cX9_digest 96 = .ok (.lload_n 1, 1) := by decide +kernel
theorem dX9_digest_97 : decode cX9_digest 97 = .ok (.ldc2_w 287, 3) := by decide +kernel
theorem dX9_digest_100 : decode cX9_digest 100 = .ok (.lmul, 1) := by decide +kernel
theorem dX9_digest_101 : decode cX9_digest 101 = .ok (.aload_n 0, 1) := by decide +kernel
theorem dX9_digest_102 : decode cX9_digest 102 = .ok (.iload_n 3, 1) := by decide +kernel
theorem dX9_digest_103 : decode cX9_digest 103 = .ok (.iload 4, 2) := by decide +kernel
theorem dX9_digest_105 : decode cX9_digest 105 = .ok (.invokevirtual 292, 3) := by decide +kernel
theorem dX9_digest_108 : decode cX9_digest 108 = .ok (.i2l, 1) := by decide +kernel
theorem dX9_digest_109 : decode cX9_digest 109 = .ok (.ladd, 1) := by decide +kernel
theorem dX9_digest_110 : decode cX9_digest 110 = .ok (.lstore_n 1, 1) := by decide +kernel
theorem dX9_digest_111 : decode cX9_digest 111 = .ok (.iinc 4 1, 3) := by decide +kernel
theorem dX9_digest_114 : decode cX9_digest 114 = .ok (.goto (-24), 3) := by decide +kernel
theorem dX9_digest_117 : decode cX9_digest 117 = .ok (.iinc 3 1, 3) := by decide +kernel
theorem dX9_digest_120 : decode cX9_digest 120 = .ok (.goto (-41), 3) := by decide +kernel
theorem dX9_digest_123 : decode cX9_digest 123 = .ok (.lload_n 1, 1) := by decide +kernel
theorem dX9_digest_124 : decode cX9_digest 124 = .ok (.ldc2_w 287, 3) := by decide +kernel
theorem dX9_digest_127 : decode cX9_digest 127 = .ok (.lmul, 1) := by decide +kernel
theorem dX9_digest_128 : decode cX9_digest 128 = .ok (.aload_n 0, 1) := by decide +kernel
theorem dX9_digest_129 : decode cX9_digest 129 = .ok (.iconst 1, 1) := by decide +kernel
theorem dX9_digest_130 : decode cX9_digest 130 = .ok (.invokevirtual 295, 3) := by decide +kernel
theorem dX9_digest_133 : decode cX9_digest 133 = .ok (.i2l, 1) := by decide +kernel
theorem dX9_digest_134 : decode cX9_digest 134 = .ok (.ladd, 1) := by decide +kernel
theorem dX9_digest_135 : decode cX9_digest 135 = .ok (.lreturn, 1) := by decide +kernel
theorem dX9_digestOfObjects_0 : decode cX9_digestOfObjects 0 = .ok (.lload_n 1, 1) := by decide +kernel
theorem dX9_digestOfObjects_1 : decode cX9_digestOfObjects 1 = .ok (.lstore_n 3, 1) := by decide +kernel
theorem dX9_digestOfObjects_2 : decode cX9_digestOfObjects 2 = .ok (.iconst 0, 1) := by decide +kernel
theorem dX9_digestOfObjects_3 : decode cX9_digestOfObjects 3 = .ok (.istore 5, 2) := by decide +kernel
theorem dX9_digestOfObjects_5 : decode cX9_digestOfObjects 5 = .ok (.iload 5, 2) := by decide +kernel
theorem dX9_digestOfObjects_7 : decode cX9_digestOfObjects 7 = .ok (.bipush 7, 2) := by decide +kernel
theorem dX9_digestOfObjects_9 : decode cX9_digestOfObjects 9 = .ok (.if_icmp .ge 23, 3) := by decide +kernel
theorem dX9_digestOfObjects_12 : decode cX9_digestOfObjects 12 = .ok (.lload_n 3, 1) := by decide +kernel
theorem dX9_digestOfObjects_13 : decode cX9_digestOfObjects 13 = .ok (.ldc2_w 287, 3) := by decide +kernel
theorem dX9_digestOfObjects_16 : decode cX9_digestOfObjects 16 = .ok (.lmul, 1) := by decide +kernel
theorem dX9_digestOfObjects_17 : decode cX9_digestOfObjects 17 = .ok (.aload_n 0, 1) := by decide +kernel
theorem dX9_digestOfObjects_18 : decode cX9_digestOfObjects 18 = .ok (.iload 5, 2) := by decide +kernel
theorem dX9_digestOfObjects_20 : decode cX9_digestOfObjects 20 = .ok (.invokevirtual 298, 3) := by decide +kernel
theorem dX9_digestOfObjects_23 : decode cX9_digestOfObjects 23 = .ok (.i2l, 1) := by decide +kernel
theorem dX9_digestOfObjects_24 : decode cX9_digestOfObjects 24 = .ok (.ladd, 1) := by decide +kernel
theorem dX9_digestOfObjects_25 : decode cX9_digestOfObjects 25 = .ok (.lstore_n 3, 1) := by decide +kernel
theorem dX9_digestOfObjects_26 : decode cX9_digestOfObjects 26 = .ok (.iinc 5 1, 3) := by decide +kernel
theorem dX9_digestOfObjects_29 : decode cX9_digestOfObjects 29 = .ok (.goto (-24), 3) := by decide +kernel
theorem dX9_digestOfObjects_32 : decode cX9_digestOfObjects 32 = .ok (.iconst 0, 1) := by decide +kernel
theorem dX9_digestOfObjects_33 : decode cX9_digestOfObjects 33 = .ok (.istore 5, 2) := by decide +kernel
theorem dX9_digestOfObjects_35 : decode cX9_digestOfObjects 35 = .ok (.iload 5, 2) := by decide +kernel
theorem dX9_digestOfObjects_37 : decode cX9_digestOfObjects 37 = .ok (.iconst 3, 1) := by decide +kernel
theorem dX9_digestOfObjects_38 : decode cX9_digestOfObjects 38 = .ok (.if_icmp .ge 54, 3) := by decide +kernel
theorem dX9_digestOfObjects_41 : decode cX9_digestOfObjects 41 = .ok (.lload_n 3, 1) := by decide +kernel
theorem dX9_digestOfObjects_42 : decode cX9_digestOfObjects 42 = .ok (.ldc2_w 287, 3) := by decide +kernel
theorem dX9_digestOfObjects_45 : decode cX9_digestOfObjects 45 = .ok (.lmul, 1) := by decide +kernel
theorem dX9_digestOfObjects_46 : decode cX9_digestOfObjects 46 = .ok (.aload_n 0, 1) := by decide +kernel
theorem dX9_digestOfObjects_47 : decode cX9_digestOfObjects 47 = .ok (.iload 5, 2) := by decide +kernel
theorem dX9_digestOfObjects_49 : decode cX9_digestOfObjects 49 = .ok (.invokevirtual 301, 3) := by decide +kernel
theorem dX9_digestOfObjects_52 : decode cX9_digestOfObjects 52 = .ok (.i2l, 1) := by decide +kernel
theorem dX9_digestOfObjects_53 : decode cX9_digestOfObjects 53 = .ok (.ladd, 1) := by decide +kernel
theorem dX9_digestOfObjects_54 : decode cX9_digestOfObjects 54 = .ok (.lstore_n 3, 1) := by decide +kernel
theorem dX9_digestOfObjects_55 : decode cX9_digestOfObjects 55 = .ok (.iconst 0, 1) := by decide +kernel
theorem dX9_digestOfObjects_56 : decode cX9_digestOfObjects 56 = .ok (.istore 6, 2) := by decide +kernel
theorem dX9_digestOfObjects_58 : decode cX9_digestOfObjects 58 = .ok (.iload 6, 2) := by decide +kernel
theorem dX9_digestOfObjects_60 : decode cX9_digestOfObjects 60 = .ok (.iconst 4, 1) := by decide +kernel
theorem dX9_digestOfObjects_61 : decode cX9_digestOfObjects 61 = .ok (.if_icmp .ge 25, 3) := by decide +kernel
theorem dX9_digestOfObjects_64 : decode cX9_digestOfObjects 64 = .ok (.lload_n 3, 1) := by decide +kernel
theorem dX9_digestOfObjects_65 : decode cX9_digestOfObjects 65 = .ok (.ldc2_w 287, 3) := by decide +kernel
theorem dX9_digestOfObjects_68 : decode cX9_digestOfObjects 68 = .ok (.lmul, 1) := by decide +kernel
theorem dX9_digestOfObjects_69 : decode cX9_digestOfObjects 69 = .ok (.aload_n 0, 1) := by decide +kernel
theorem dX9_digestOfObjects_70 : decode cX9_digestOfObjects 70 = .ok (.iload 5, 2) := by decide +kernel
theorem dX9_digestOfObjects_72 : decode cX9_digestOfObjects 72 = .ok (.iload 6, 2) := by decide +kernel
theorem dX9_digestOfObjects_74 : decode cX9_digestOfObjects 74 = .ok (.invokevirtual 304, 3) := by decide +kernel
theorem dX9_digestOfObjects_77 : decode cX9_digestOfObjects 77 = .ok (.i2l, 1) := by decide +kernel
theorem dX9_digestOfObjects_78 : decode cX9_digestOfObjects 78 = .ok (.ladd, 1) := by decide +kernel
theorem dX9_digestOfObjects_79 : decode cX9_digestOfObjects 79 = .ok (.lstore_n 3, 1) := by decide +kernel
theorem dX9_digestOfObjects_80 : decode cX9_digestOfObjects 80 = .ok (.iinc 6 1, 3) := by decide +kernel
theorem dX9_digestOfObjects_83 : decode cX9_digestOfObjects 83 = .ok (.goto (-25), 3) := by decide +kernel
theorem dX9_digestOfObjects_86 : decode cX9_digestOfObjects 86 = .ok (.iinc 5 1, 3) := by decide +kernel
theorem dX9_digestOfObjects_89 : decode cX9_digestOfObjects 89 = .ok (.goto (-54), 3) := by decide +kernel
theorem dX9_digestOfObjects_92 : decode cX9_digestOfObjects 92 = .ok (.lload_n 3, 1) := by decide +kernel
theorem dX9_digestOfObjects_93 : decode cX9_digestOfObjects 93 = .ok (.lreturn, 1) := by decide +kernel
theorem dX9_digestOfMap_0 : decode cX9_digestOfMap 0 = .ok (.lload_n 1, 1) := by decide +kernel
theorem dX9_digestOfMap_1 : decode cX9_digestOfMap 1 = .ok (.lstore 4, 2) := by decide +kernel
theorem dX9_digestOfMap_3 : decode cX9_digestOfMap 3 = .ok (.iconst 0, 1) := by decide +kernel
theorem dX9_digestOfMap_4 : decode cX9_digestOfMap 4 = .ok (.istore 6, 2) := by decide +kernel
theorem dX9_digestOfMap_6 : decode cX9_digestOfMap 6 = .ok (.iload 6, 2) := by decide +kernel
theorem dX9_digestOfMap_8 : decode cX9_digestOfMap 8 = .ok (.bipush 8, 2) := by decide +kernel
theorem dX9_digestOfMap_10 : decode cX9_digestOfMap 10 = .ok (.if_icmp .ge 26, 3) := by decide +kernel
theorem dX9_digestOfMap_13 : decode cX9_digestOfMap 13 = .ok (.lload 4, 2) := by decide +kernel
theorem dX9_digestOfMap_15 : decode cX9_digestOfMap 15 = .ok (.ldc2_w 287, 3) := by decide +kernel
theorem dX9_digestOfMap_18 : decode cX9_digestOfMap 18 = .ok (.lmul, 1) := by decide +kernel
theorem dX9_digestOfMap_19 : decode cX9_digestOfMap 19 = .ok (.aload_n 0, 1) := by decide +kernel
theorem dX9_digestOfMap_20 : decode cX9_digestOfMap 20 = .ok (.iload_n 3, 1) := by decide +kernel
theorem dX9_digestOfMap_21 : decode cX9_digestOfMap 21 = .ok (.iload 6, 2) := by decide +kernel
theorem dX9_digestOfMap_23 : decode cX9_digestOfMap 23 = .ok (.invokevirtual 307, 3) := by decide +kernel
theorem dX9_digestOfMap_26 : decode cX9_digestOfMap 26 = .ok (.i2l, 1) := by decide +kernel
theorem dX9_digestOfMap_27 : decode cX9_digestOfMap 27 = .ok (.ladd, 1) := by decide +kernel
theorem dX9_digestOfMap_28 : decode cX9_digestOfMap 28 = .ok (.lstore 4, 2) := by decide +kernel
theorem dX9_digestOfMap_30 : decode cX9_digestOfMap 30 = .ok (.iinc 6 1, 3) := by decide +kernel
theorem dX9_digestOfMap_33 : decode cX9_digestOfMap 33 = .ok (.goto (-27), 3) := by decide +kernel
theorem dX9_digestOfMap_36 : decode cX9_digestOfMap 36 = .ok (.lload 4, 2) := by decide +kernel
theorem dX9_digestOfMap_38 : decode cX9_digestOfMap 38 = .ok (.ldc2_w 287, 3) := by decide +kernel
theorem dX9_digestOfMap_41 : decode cX9_digestOfMap 41 = .ok (.lmul, 1) := by decide +kernel
theorem dX9_digestOfMap_42 : decode cX9_digestOfMap 42 = .ok (.aload_n 0, 1) := by decide +kernel
theorem dX9_digestOfMap_43 : decode cX9_digestOfMap 43 = .ok (.iload_n 3, 1) := by decide +kernel
theorem dX9_digestOfMap_44 : decode cX9_digestOfMap 44 = .ok (.iconst 0, 1) := by decide +kernel
theorem dX9_digestOfMap_45 : decode cX9_digestOfMap 45 = .ok (.invokevirtual 310, 3) := by decide +kernel
theorem dX9_digestOfMap_48 : decode cX9_digestOfMap 48 = .ok (.i2l, 1) := by decide +kernel
theorem dX9_digestOfMap_49 : decode cX9_digestOfMap 49 = .ok (.ladd, 1) := by decide +kernel
theorem dX9_digestOfMap_50 : decode cX9_digestOfMap 50 = .ok (.lstore 4, 2) := by decide +kernel
theorem dX9_digestOfMap_52 : decode cX9_digestOfMap 52 = .ok (.lload 4, 2) := by decide +kernel
theorem dX9_digestOfMap_54 : decode cX9_digestOfMap 54 = .ok (.ldc2_w 287, 3) := by decide +kernel
theorem dX9_digestOfMap_57 : decode cX9_digestOfMap 57 = .ok (.lmul, 1) := by decide +kernel
theorem dX9_digestOfMap_58 : decode cX9_digestOfMap 58 = .ok (.aload_n 0, 1) := by decide +kernel
theorem dX9_digestOfMap_59 : decode cX9_digestOfMap 59 = .ok (.iload_n 3, 1) := by decide +kernel
theorem dX9_digestOfMap_60 : decode cX9_digestOfMap 60 = .ok (.invokevirtual 313, 3) := by decide +kernel
theorem dX9_digestOfMap_63 : decode cX9_digestOfMap 63 = .ok (.i2l, 1) := by decide +kernel
theorem dX9_digestOfMap_64 : decode cX9_digestOfMap 64 = .ok (.ladd, 1) := by decide +kernel
theorem dX9_digestOfMap_65 : decode cX9_digestOfMap 65 = .ok (.lstore 4, 2) := by decide +kernel
theorem dX9_digestOfMap_67 : decode cX9_digestOfMap 67 = .ok (.lload 4, 2) := by decide +kernel
theorem dX9_digestOfMap_69 : decode cX9_digestOfMap 69 = .ok (.ldc2_w 287, 3) := by decide +kernel
theorem dX9_digestOfMap_72 : decode cX9_digestOfMap 72 = .ok (.lmul, 1) := by decide +kernel
theorem dX9_digestOfMap_73 : decode cX9_digestOfMap 73 = .ok (.aload_n 0, 1) := by decide +kernel
theorem dX9_digestOfMap_74 : decode cX9_digestOfMap 74 = .ok (.iload_n 3, 1) := by decide +kernel
theorem dX9_digestOfMap_75 : decode cX9_digestOfMap 75 = .ok (.invokevirtual 315, 3) := by decide +kernel
theorem dX9_digestOfMap_78 : decode cX9_digestOfMap 78 = .ok (.ladd, 1) := by decide +kernel
theorem dX9_digestOfMap_79 : decode cX9_digestOfMap 79 = .ok (.lstore 4, 2) := by decide +kernel
theorem dX9_digestOfMap_81 : decode cX9_digestOfMap 81 = .ok (.lload 4, 2) := by decide +kernel
theorem dX9_digestOfMap_83 : decode cX9_digestOfMap 83 = .ok (.ldc2_w 287, 3) := by decide +kernel
theorem dX9_digestOfMap_86 : decode cX9_digestOfMap 86 = .ok (.lmul, 1) := by decide +kernel
theorem dX9_digestOfMap_87 : decode cX9_digestOfMap 87 = .ok (.aload_n 0, 1) := by decide +kernel
theorem dX9_digestOfMap_88 : decode cX9_digestOfMap 88 = .ok (.iload_n 3, 1) := by decide +kernel
theorem dX9_digestOfMap_89 : decode cX9_digestOfMap 89 = .ok (.iconst 0, 1) := by decide +kernel
theorem dX9_digestOfMap_90 : decode cX9_digestOfMap 90 = .ok (.iconst 0, 1) := by decide +kernel
theorem dX9_digestOfMap_91 : decode cX9_digestOfMap 91 = .ok (.invokevirtual 318, 3) := by decide +kernel
theorem dX9_digestOfMap_94 : decode cX9_digestOfMap 94 = .ok (.i2l, 1) := by decide +kernel
theorem dX9_digestOfMap_95 : decode cX9_digestOfMap 95 = .ok (.ladd, 1) := by decide +kernel
theorem dX9_digestOfMap_96 : decode cX9_digestOfMap 96 = .ok (.lreturn, 1) := by decide +kernel
theorem dX9_needStep_0 : decode cX9_needStep 0 = .ok (.iload_n 0, 1) := by decide +kernel
theorem dX9_needStep_1 : decode cX9_needStep 1 = .ok (.ifCond .lt 9, 3) := by decide +kernel
theorem dX9_needStep_4 : decode cX9_needStep 4 = .ok (.iload_n 0, 1) := by decide +kernel
theorem dX9_needStep_5 : decode cX9_needStep 5 = .ok (.bipush 11, 2) := by decide +kernel
theorem dX9_needStep_7 : decode cX9_needStep 7 = .ok (.if_icmp .lt 14, 3) := by decide +kernel
theorem dX9_needStep_10 : decode cX9_needStep 10 = .ok (.new 48, 3) := by decide +kernel
theorem dX9_needStep_13 : decode cX9_needStep 13 = .ok (.dup, 1) := by decide +kernel
theorem dX9_needStep_14 : decode cX9_needStep 14 = .ok (.ldc_w 321, 3) := by decide +kernel
theorem dX9_needStep_17 : decode cX9_needStep 17 = .ok (.invokespecial 52, 3) := by decide +kernel
theorem dX9_needStep_20 : decode cX9_needStep 20 = .ok (.athrow, 1) := by decide +kernel
theorem dX9_needStep_21 : decode cX9_needStep 21 = .ok (.return_, 1) := by decide +kernel
theorem dX9_needFamily_0 : decode cX9_needFamily 0 = .ok (.iload_n 0, 1) := by decide +kernel
theorem dX9_needFamily_1 : decode cX9_needFamily 1 = .ok (.ifCond .lt 8, 3) := by decide +kernel
theorem dX9_needFamily_4 : decode cX9_needFamily 4 = .ok (.iload_n 0, 1) := by decide +kernel
theorem dX9_needFamily_5 : decode cX9_needFamily 5 = .ok (.iconst 3, 1) := by decide +kernel
theorem dX9_needFamily_6 : decode cX9_needFamily 6 = .ok (.if_icmp .lt 14, 3) := by decide +kernel
theorem dX9_needFamily_9 : decode cX9_needFamily 9 = .ok (.new 323, 3) := by decide +kernel
theorem dX9_needFamily_12 : decode cX9_needFamily 12 = .ok (.dup, 1) := by decide +kernel
theorem dX9_needFamily_13 : decode cX9_needFamily 13 = .ok (.ldc_w 325, 3) := by decide +kernel
theorem dX9_needFamily_16 : decode cX9_needFamily 16 = .ok (.invokespecial 327, 3) := by decide +kernel
theorem dX9_needFamily_19 : decode cX9_needFamily 19 = .ok (.athrow, 1) := by decide +kernel
theorem dX9_needFamily_20 : decode cX9_needFamily 20 = .ok (.return_, 1) := by decide +kernel
theorem dX9_needStatistic_0 : decode cX9_needStatistic 0 = .ok (.iload_n 0, 1) := by decide +kernel
theorem dX9_needStatistic_1 : decode cX9_needStatistic 1 = .ok (.ifCond .lt 8, 3) := by decide +kernel
end
section
theorem dX9_needStatistic_4 : decode cX9_needStatistic 4 = .ok (.iload_n 0, 1) := by decide +kernel
theorem dX9_needStatistic_5 : decode cX9_needStatistic 5 = .ok (.iconst 4, 1) := by decide +kernel
theorem dX9_needStatistic_6 : decode cX9_needStatistic 6 = .ok (.if_icmp .lt 14, 3) := by decide +kernel
theorem dX9_needStatistic_9 : decode cX9_needStatistic 9 = .ok (.new 48, 3) := by decide +kernel
theorem dX9_needStatistic_12 : decode cX9_needStatistic 12 = .ok (.dup, 1) := by decide +kernel
theorem dX9_needStatistic_13 : decode cX9_needStatistic 13 = .ok (.ldc_w 328, 3) := by decide +kernel
theorem dX9_needStatistic_16 : decode cX9_needStatistic 16 = .ok (.invokespecial 52, 3) := by decide +kernel
theorem dX9_needStatistic_19 : decode cX9_needStatistic 19 = .ok (.athrow, 1) := by decide +kernel
theorem dX9_needStatistic_20 : decode cX9_needStatistic 20 = .ok (.return_, 1) := by decide +kernel
theorem dX9_needRank_0 : decode cX9_needRank 0 = .ok (.iload_n 1, 1) := by decide +kernel
theorem dX9_needRank_1 : decode cX9_needRank 1 = .ok (.invokestatic 106, 3) := by decide +kernel
theorem dX9_needRank_4 : decode cX9_needRank 4 = .ok (.iload_n 2, 1) := by decide +kernel
theorem dX9_needRank_5 : decode cX9_needRank 5 = .ok (.ifCond .lt 15, 3) := by decide +kernel
theorem dX9_needRank_8 : decode cX9_needRank 8 = .ok (.iload_n 2, 1) := by decide +kernel
theorem dX9_needRank_9 : decode cX9_needRank 9 = .ok (.aload_n 0, 1) := by decide +kernel
theorem dX9_needRank_10 : decode cX9_needRank 10 = .ok (.getfield 44, 3) := by decide +kernel
theorem dX9_needRank_13 : decode cX9_needRank 13 = .ok (.iload_n 1, 1) := by decide +kernel
theorem dX9_needRank_14 : decode cX9_needRank 14 = .ok (.invokevirtual 178, 3) := by decide +kernel
theorem dX9_needRank_17 : decode cX9_needRank 17 = .ok (.if_icmp .lt 14, 3) := by decide +kernel
theorem dX9_needRank_20 : decode cX9_needRank 20 = .ok (.new 323, 3) := by decide +kernel
theorem dX9_needRank_23 : decode cX9_needRank 23 = .ok (.dup, 1) := by decide +kernel
theorem dX9_needRank_24 : decode cX9_needRank 24 = .ok (.ldc_w 330, 3) := by decide +kernel
theorem dX9_needRank_27 : decode cX9_needRank 27 = .ok (.invokespecial 327, 3) := by decide +kernel
theorem dX9_needRank_30 : decode cX9_needRank 30 = .ok (.athrow, 1) := by decide +kernel
theorem dX9_needRank_31 : decode cX9_needRank 31 = .ok (.return_, 1) := by decide +kernel
theorem dX9_chartAt_0 : decode cX9_chartAt 0 = .ok (.iload_n 1, 1) := by decide +kernel
theorem dX9_chartAt_1 : decode cX9_chartAt 1 = .ok (.ifCond .lt 29, 3) := by decide +kernel
theorem dX9_chartAt_4 : decode cX9_chartAt 4 = .ok (.iload_n 1, 1) := by decide +kernel
theorem dX9_chartAt_5 : decode cX9_chartAt 5 = .ok (.aload_n 0, 1) := by decide +kernel
theorem dX9_chartAt_6 : decode cX9_chartAt 6 = .ok (.getfield 63, 3) := by decide +kernel
theorem dX9_chartAt_9 : decode cX9_chartAt 9 = .ok (.if_icmp .ge 21, 3) := by decide +kernel
theorem dX9_chartAt_12 : decode cX9_chartAt 12 = .ok (.iload_n 1, 1) := by decide +kernel
theorem dX9_chartAt_13 : decode cX9_chartAt 13 = .ok (.aload_n 0, 1) := by decide +kernel
theorem dX9_chartAt_14 : decode cX9_chartAt 14 = .ok (.getfield 24, 3) := by decide +kernel
theorem dX9_chartAt_17 : decode cX9_chartAt 17 = .ok (.arraylength, 1) := by decide +kernel
theorem dX9_chartAt_18 : decode cX9_chartAt 18 = .ok (.if_icmp .ge 12, 3) := by decide +kernel
theorem dX9_chartAt_21 : decode cX9_chartAt 21 = .ok (.aload_n 0, 1) := by decide +kernel
theorem dX9_chartAt_22 : decode cX9_chartAt 22 = .ok (.getfield 24, 3) := by decide +kernel
theorem dX9_chartAt_25 : decode cX9_chartAt 25 = .ok (.iload_n 1, 1) := by decide +kernel
theorem dX9_chartAt_26 : decode cX9_chartAt 26 = .ok (.aaload, 1) := by decide +kernel
theorem dX9_chartAt_27 : decode cX9_chartAt 27 = .ok (.goto 4, 3) := by decide +kernel
theorem dX9_chartAt_30 : decode cX9_chartAt 30 = .ok (.aconst_null, 1) := by decide +kernel
theorem dX9_chartAt_31 : decode cX9_chartAt 31 = .ok (.astore_n 2, 1) := by decide +kernel
theorem dX9_chartAt_32 : decode cX9_chartAt 32 = .ok (.aload_n 2, 1) := by decide +kernel
theorem dX9_chartAt_33 : decode cX9_chartAt 33 = .ok (.ifnonnull 14, 3) := by decide +kernel
theorem dX9_chartAt_36 : decode cX9_chartAt 36 = .ok (.new 323, 3) := by decide +kernel
theorem dX9_chartAt_39 : decode cX9_chartAt 39 = .ok (.dup, 1) := by decide +kernel
theorem dX9_chartAt_40 : decode cX9_chartAt 40 = .ok (.ldc_w 332, 3) := by decide +kernel
theorem dX9_chartAt_43 : decode cX9_chartAt 43 = .ok (.invokespecial 327, 3) := by decide +kernel
theorem dX9_chartAt_46 : decode cX9_chartAt 46 = .ok (.athrow, 1) := by decide +kernel
theorem dX9_chartAt_47 : decode cX9_chartAt 47 = .ok (.aload_n 2, 1) := by decide +kernel
theorem dX9_chartAt_48 : decode cX9_chartAt 48 = .ok (.areturn, 1) := by decide +kernel
theorem dX9_walkerAt_0 : decode cX9_walkerAt 0 = .ok (.iload_n 1, 1) := by decide +kernel
theorem dX9_walkerAt_1 : decode cX9_walkerAt 1 = .ok (.ifCond .lt 29, 3) := by decide +kernel
theorem dX9_walkerAt_4 : decode cX9_walkerAt 4 = .ok (.iload_n 1, 1) := by decide +kernel
theorem dX9_walkerAt_5 : decode cX9_walkerAt 5 = .ok (.aload_n 0, 1) := by decide +kernel
theorem dX9_walkerAt_6 : decode cX9_walkerAt 6 = .ok (.getfield 55, 3) := by decide +kernel
theorem dX9_walkerAt_9 : decode cX9_walkerAt 9 = .ok (.if_icmp .ge 21, 3) := by decide +kernel
theorem dX9_walkerAt_12 : decode cX9_walkerAt 12 = .ok (.iload_n 1, 1) := by decide +kernel
theorem dX9_walkerAt_13 : decode cX9_walkerAt 13 = .ok (.aload_n 0, 1) := by decide +kernel
theorem dX9_walkerAt_14 : decode cX9_walkerAt 14 = .ok (.getfield 30, 3) := by decide +kernel
theorem dX9_walkerAt_17 : decode cX9_walkerAt 17 = .ok (.arraylength, 1) := by decide +kernel
theorem dX9_walkerAt_18 : decode cX9_walkerAt 18 = .ok (.if_icmp .ge 12, 3) := by decide +kernel
theorem dX9_walkerAt_21 : decode cX9_walkerAt 21 = .ok (.aload_n 0, 1) := by decide +kernel
theorem dX9_walkerAt_22 : decode cX9_walkerAt 22 = .ok (.getfield 30, 3) := by decide +kernel
theorem dX9_walkerAt_25 : decode cX9_walkerAt 25 = .ok (.iload_n 1, 1) := by decide +kernel
theorem dX9_walkerAt_26 : decode cX9_walkerAt 26 = .ok (.aaload, 1) := by decide +kernel
theorem dX9_walkerAt_27 : decode cX9_walkerAt 27 = .ok (.goto 4, 3) := by decide +kernel
theorem dX9_walkerAt_30 : decode cX9_walkerAt 30 = .ok (.aconst_null, 1) := by decide +kernel
theorem dX9_walkerAt_31 : decode cX9_walkerAt 31 = .ok (.astore_n 2, 1) := by decide +kernel
theorem dX9_walkerAt_32 : decode cX9_walkerAt 32 = .ok (.aload_n 2, 1) := by decide +kernel
theorem dX9_walkerAt_33 : decode cX9_walkerAt 33 = .ok (.ifnonnull 14, 3) := by decide +kernel
theorem dX9_walkerAt_36 : decode cX9_walkerAt 36 = .ok (.new 323, 3) := by decide +kernel
theorem dX9_walkerAt_39 : decode cX9_walkerAt 39 = .ok (.dup, 1) := by decide +kernel
theorem dX9_walkerAt_40 : decode cX9_walkerAt 40 = .ok (.ldc_w 334, 3) := by decide +kernel
theorem dX9_walkerAt_43 : decode cX9_walkerAt 43 = .ok (.invokespecial 327, 3) := by decide +kernel
theorem dX9_walkerAt_46 : decode cX9_walkerAt 46 = .ok (.athrow, 1) := by decide +kernel
theorem dX9_walkerAt_47 : decode cX9_walkerAt 47 = .ok (.aload_n 2, 1) := by decide +kernel
theorem dX9_walkerAt_48 : decode cX9_walkerAt 48 = .ok (.areturn, 1) := by decide +kernel
theorem dX9_claimAt_0 : decode cX9_claimAt 0 = .ok (.iload_n 1, 1) := by decide +kernel
theorem dX9_claimAt_1 : decode cX9_claimAt 1 = .ok (.ifCond .lt 29, 3) := by decide +kernel
theorem dX9_claimAt_4 : decode cX9_claimAt 4 = .ok (.iload_n 1, 1) := by decide +kernel
theorem dX9_claimAt_5 : decode cX9_claimAt 5 = .ok (.aload_n 0, 1) := by decide +kernel
theorem dX9_claimAt_6 : decode cX9_claimAt 6 = .ok (.getfield 123, 3) := by decide +kernel
theorem dX9_claimAt_9 : decode cX9_claimAt 9 = .ok (.if_icmp .ge 21, 3) := by decide +kernel
theorem dX9_claimAt_12 : decode cX9_claimAt 12 = .ok (.iload_n 1, 1) := by decide +kernel
theorem dX9_claimAt_13 : decode cX9_claimAt 13 = .ok (.aload_n 0, 1) := by decide +kernel
theorem dX9_claimAt_14 : decode cX9_claimAt 14 = .ok (.getfield 36, 3) := by decide +kernel
theorem dX9_claimAt_17 : decode cX9_claimAt 17 = .ok (.arraylength, 1) := by decide +kernel
theorem dX9_claimAt_18 : decode cX9_claimAt 18 = .ok (.if_icmp .ge 12, 3) := by decide +kernel
theorem dX9_claimAt_21 : decode cX9_claimAt 21 = .ok (.aload_n 0, 1) := by decide +kernel
theorem dX9_claimAt_22 : decode cX9_claimAt 22 = .ok (.getfield 36, 3) := by decide +kernel
theorem dX9_claimAt_25 : decode cX9_claimAt 25 = .ok (.iload_n 1, 1) := by decide +kernel
theorem dX9_claimAt_26 : decode cX9_claimAt 26 = .ok (.aaload, 1) := by decide +kernel
theorem dX9_claimAt_27 : decode cX9_claimAt 27 = .ok (.goto 4, 3) := by decide +kernel
theorem dX9_claimAt_30 : decode cX9_claimAt 30 = .ok (.aconst_null, 1) := by decide +kernel
theorem dX9_claimAt_31 : decode cX9_claimAt 31 = .ok (.astore_n 2, 1) := by decide +kernel
theorem dX9_claimAt_32 : decode cX9_claimAt 32 = .ok (.aload_n 2, 1) := by decide +kernel
theorem dX9_claimAt_33 : decode cX9_claimAt 33 = .ok (.ifnonnull 14, 3) := by decide +kernel
theorem dX9_claimAt_36 : decode cX9_claimAt 36 = .ok (.new 323, 3) := by decide +kernel
theorem dX9_claimAt_39 : decode cX9_claimAt 39 = .ok (.dup, 1) := by decide +kernel
theorem dX9_claimAt_40 : decode cX9_claimAt 40 = .ok (.ldc_w 336, 3) := by decide +kernel
theorem dX9_claimAt_43 : decode cX9_claimAt 43 = .ok (.invokespecial 327, 3) := by decide +kernel
theorem dX9_claimAt_46 : decode cX9_claimAt 46 = .ok (.athrow, 1) := by decide +kernel
theorem dX9_claimAt_47 : decode cX9_claimAt 47 = .ok (.aload_n 2, 1) := by decide +kernel
theorem dX9_claimAt_48 : decode cX9_claimAt 48 = .ok (.areturn, 1) := by decide +kernel
theorem dX9_signOf_0 : decode cX9_signOf 0 = .ok (.iload_n 0, 1) := by decide +kernel
theorem dX9_signOf_1 : decode cX9_signOf 1 = .ok (.iconst 1, 1) := by decide +kernel
theorem dX9_signOf_2 : decode cX9_signOf 2 = .ok (.iand, 1) := by decide +kernel
theorem dX9_signOf_3 : decode cX9_signOf 3 = .ok (.ifCond .ne 7, 3) := by decide +kernel
theorem dX9_signOf_6 : decode cX9_signOf 6 = .ok (.iconst 1, 1) := by decide +kernel
theorem dX9_signOf_7 : decode cX9_signOf 7 = .ok (.goto 4, 3) := by decide +kernel
theorem dX9_signOf_10 : decode cX9_signOf 10 = .ok (.iconst (-1), 1) := by decide +kernel
theorem dX9_signOf_11 : decode cX9_signOf 11 = .ok (.ireturn, 1) := by decide +kernel
theorem dX9_patternLength_0 : decode cX9_patternLength 0 = .ok (.iconst 2, 1) := by decide +kernel
theorem dX9_patternLength_1 : decode cX9_patternLength 1 = .ok (.istore_n 1, 1) := by decide +kernel
theorem dX9_patternLength_2 : decode cX9_patternLength 2 = .ok (.iload_n 1, 1) := by decide +kernel
theorem dX9_patternLength_3 : decode cX9_patternLength 3 = .ok (.iconst 4, 1) := by decide +kernel
theorem dX9_patternLength_4 : decode cX9_patternLength 4 = .ok (.if_icmp .gt 19, 3) := by decide +kernel
theorem dX9_patternLength_7 : decode cX9_patternLength 7 = .ok (.iload_n 0, 1) := by decide +kernel
theorem dX9_patternLength_8 : decode cX9_patternLength 8 = .ok (.iload_n 1, 1) := by decide +kernel
theorem dX9_patternLength_9 : decode cX9_patternLength 9 = .ok (.invokestatic 338, 3) := by decide +kernel
theorem dX9_patternLength_12 : decode cX9_patternLength 12 = .ok (.ifCond .eq 5, 3) := by decide +kernel
theorem dX9_patternLength_15 : decode cX9_patternLength 15 = .ok (.iload_n 1, 1) := by decide +kernel
theorem dX9_patternLength_16 : decode cX9_patternLength 16 = .ok (.ireturn, 1) := by decide +kernel
theorem dX9_patternLength_17 : decode cX9_patternLength 17 = .ok (.iinc 1 1, 3) := by decide +kernel
theorem dX9_patternLength_20 : decode cX9_patternLength 20 = .ok (.goto (-18), 3) := by decide +kernel
theorem dX9_patternLength_23 : decode cX9_patternLength 23 = .ok (.iconst (-1), 1) := by decide +kernel
theorem dX9_patternLength_24 : decode cX9_patternLength 24 = .ok (.ireturn, 1) := by decide +kernel
theorem dX9_tryClaim_0 : decode cX9_tryClaim 0 = .ok (.aload_n 0, 1) := by decide +kernel
theorem dX9_tryClaim_1 : decode cX9_tryClaim 1 = .ok (.aload_n 2, 1) := by decide +kernel
theorem dX9_tryClaim_2 : decode cX9_tryClaim 2 = .ok (.aload_n 1, 1) := by decide +kernel
theorem dX9_tryClaim_3 : decode cX9_tryClaim 3 = .ok (.getfield 256, 3) := by decide +kernel
theorem dX9_tryClaim_6 : decode cX9_tryClaim 6 = .ok (.aload_n 1, 1) := by decide +kernel
theorem dX9_tryClaim_7 : decode cX9_tryClaim 7 = .ok (.getfield 259, 3) := by decide +kernel
theorem dX9_tryClaim_10 : decode cX9_tryClaim 10 = .ok (.invokevirtual 234, 3) := by decide +kernel
theorem dX9_tryClaim_13 : decode cX9_tryClaim 13 = .ok (.iconst (-1), 1) := by decide +kernel
theorem dX9_tryClaim_14 : decode cX9_tryClaim 14 = .ok (.if_icmp .ne 7, 3) := by decide +kernel
theorem dX9_tryClaim_17 : decode cX9_tryClaim 17 = .ok (.iconst 1, 1) := by decide +kernel
theorem dX9_tryClaim_18 : decode cX9_tryClaim 18 = .ok (.goto 4, 3) := by decide +kernel
theorem dX9_tryClaim_21 : decode cX9_tryClaim 21 = .ok (.iconst 0, 1) := by decide +kernel
theorem dX9_tryClaim_22 : decode cX9_tryClaim 22 = .ok (.istore_n 3, 1) := by decide +kernel
theorem dX9_tryClaim_23 : decode cX9_tryClaim 23 = .ok (.aload_n 1, 1) := by decide +kernel
theorem dX9_tryClaim_24 : decode cX9_tryClaim 24 = .ok (.aload_n 0, 1) := by decide +kernel
theorem dX9_tryClaim_25 : decode cX9_tryClaim 25 = .ok (.getfield 44, 3) := by decide +kernel
theorem dX9_tryClaim_28 : decode cX9_tryClaim 28 = .ok (.getfield 200, 3) := by decide +kernel
theorem dX9_tryClaim_31 : decode cX9_tryClaim 31 = .ok (.iload_n 3, 1) := by decide +kernel
theorem dX9_tryClaim_32 : decode cX9_tryClaim 32 = .ok (.invokevirtual 341, 3) := by decide +kernel
theorem dX9_tryClaim_35 : decode cX9_tryClaim 35 = .ok (.aload_n 0, 1) := by decide +kernel
theorem dX9_tryClaim_36 : decode cX9_tryClaim 36 = .ok (.dup, 1) := by decide +kernel
theorem dX9_tryClaim_37 : decode cX9_tryClaim 37 = .ok (.getfield 274, 3) := by decide +kernel
theorem dX9_tryClaim_40 : decode cX9_tryClaim 40 = .ok (.iconst 1, 1) := by decide +kernel
theorem dX9_tryClaim_41 : decode cX9_tryClaim 41 = .ok (.iadd, 1) := by decide +kernel
theorem dX9_tryClaim_42 : decode cX9_tryClaim 42 = .ok (.putfield 274, 3) := by decide +kernel
theorem dX9_tryClaim_45 : decode cX9_tryClaim 45 = .ok (.iload_n 3, 1) := by decide +kernel
theorem dX9_tryClaim_46 : decode cX9_tryClaim 46 = .ok (.ireturn, 1) := by decide +kernel
theorem dX9_firstAgainst_0 : decode cX9_firstAgainst 0 = .ok (.iconst 0, 1) := by decide +kernel
theorem dX9_firstAgainst_1 : decode cX9_firstAgainst 1 = .ok (.istore 4, 2) := by decide +kernel
theorem dX9_firstAgainst_3 : decode cX9_firstAgainst 3 = .ok (.iload 4, 2) := by decide +kernel
theorem dX9_firstAgainst_5 : decode cX9_firstAgainst 5 = .ok (.aload_n 0, 1) := by decide +kernel
theorem dX9_firstAgainst_6 : decode cX9_firstAgainst 6 = .ok (.getfield 44, 3) := by decide +kernel
theorem dX9_firstAgainst_9 : decode cX9_firstAgainst 9 = .ok (.aload_n 1, 1) := by decide +kernel
theorem dX9_firstAgainst_10 : decode cX9_firstAgainst 10 = .ok (.getfield 141, 3) := by decide +kernel
theorem dX9_firstAgainst_13 : decode cX9_firstAgainst 13 = .ok (.invokevirtual 178, 3) := by decide +kernel
theorem dX9_firstAgainst_16 : decode cX9_firstAgainst 16 = .ok (.if_icmp .ge 55, 3) := by decide +kernel
theorem dX9_firstAgainst_19 : decode cX9_firstAgainst 19 = .ok (.aload_n 0, 1) := by decide +kernel
theorem dX9_firstAgainst_20 : decode cX9_firstAgainst 20 = .ok (.getfield 44, 3) := by decide +kernel
theorem dX9_firstAgainst_23 : decode cX9_firstAgainst 23 = .ok (.aload_n 1, 1) := by decide +kernel
theorem dX9_firstAgainst_24 : decode cX9_firstAgainst 24 = .ok (.iload 4, 2) := by decide +kernel
theorem dX9_firstAgainst_26 : decode cX9_firstAgainst 26 = .ok (.invokevirtual 158, 3) := by decide +kernel
theorem dX9_firstAgainst_29 : decode cX9_firstAgainst 29 = .ok (.istore 5, 2) := by decide +kernel
theorem dX9_firstAgainst_31 : decode cX9_firstAgainst 31 = .ok (.aload_n 0, 1) := by decide +kernel
theorem dX9_firstAgainst_32 : decode cX9_firstAgainst 32 = .ok (.getfield 44, 3) := by decide +kernel
theorem dX9_firstAgainst_35 : decode cX9_firstAgainst 35 = .ok (.aload_n 1, 1) := by decide +kernel
theorem dX9_firstAgainst_36 : decode cX9_firstAgainst 36 = .ok (.getfield 141, 3) := by decide +kernel
theorem dX9_firstAgainst_39 : decode cX9_firstAgainst 39 = .ok (.iload_n 2, 1) := by decide +kernel
theorem dX9_firstAgainst_40 : decode cX9_firstAgainst 40 = .ok (.iload 4, 2) := by decide +kernel
theorem dX9_firstAgainst_42 : decode cX9_firstAgainst 42 = .ok (.invokevirtual 185, 3) := by decide +kernel
theorem dX9_firstAgainst_45 : decode cX9_firstAgainst 45 = .ok (.aload_n 0, 1) := by decide +kernel
theorem dX9_firstAgainst_46 : decode cX9_firstAgainst 46 = .ok (.getfield 44, 3) := by decide +kernel
theorem dX9_firstAgainst_49 : decode cX9_firstAgainst 49 = .ok (.aload_n 1, 1) := by decide +kernel
theorem dX9_firstAgainst_50 : decode cX9_firstAgainst 50 = .ok (.getfield 98, 3) := by decide +kernel
theorem dX9_firstAgainst_53 : decode cX9_firstAgainst 53 = .ok (.iload_n 3, 1) := by decide +kernel
theorem dX9_firstAgainst_54 : decode cX9_firstAgainst 54 = .ok (.iload 5, 2) := by decide +kernel
theorem dX9_firstAgainst_56 : decode cX9_firstAgainst 56 = .ok (.invokevirtual 185, 3) := by decide +kernel
theorem dX9_firstAgainst_59 : decode cX9_firstAgainst 59 = .ok (.if_icmp .eq 6, 3) := by decide +kernel
theorem dX9_firstAgainst_62 : decode cX9_firstAgainst 62 = .ok (.iload 4, 2) := by decide +kernel
theorem dX9_firstAgainst_64 : decode cX9_firstAgainst 64 = .ok (.ireturn, 1) := by decide +kernel
theorem dX9_firstAgainst_65 : decode cX9_firstAgainst 65 = .ok (.iinc 4 1, 3) := by decide +kernel
theorem dX9_firstAgainst_68 : decode cX9_firstAgainst 68 = .ok (.goto (-65), 3) := by decide +kernel
theorem dX9_firstAgainst_71 : decode cX9_firstAgainst 71 = .ok (.iconst (-1), 1) := by decide +kernel
theorem dX9_firstAgainst_72 : decode cX9_firstAgainst 72 = .ok (.ireturn, 1) := by decide +kernel
theorem dX9_isPairedOff_0 : decode cX9_isPairedOff 0 = .ok (.aload_n 0, 1) := by decide +kernel
theorem dX9_isPairedOff_1 : decode cX9_isPairedOff 1 = .ok (.getfield 44, 3) := by decide +kernel
theorem dX9_isPairedOff_4 : decode cX9_isPairedOff 4 = .ok (.aload_n 1, 1) := by decide +kernel
theorem dX9_isPairedOff_5 : decode cX9_isPairedOff 5 = .ok (.iload_n 3, 1) := by decide +kernel
theorem dX9_isPairedOff_6 : decode cX9_isPairedOff 6 = .ok (.invokevirtual 158, 3) := by decide +kernel
theorem dX9_isPairedOff_9 : decode cX9_isPairedOff 9 = .ok (.istore 4, 2) := by decide +kernel
theorem dX9_isPairedOff_11 : decode cX9_isPairedOff 11 = .ok (.iload 4, 2) := by decide +kernel
theorem dX9_isPairedOff_13 : decode cX9_isPairedOff 13 = .ok (.iload_n 3, 1) := by decide +kernel
theorem dX9_isPairedOff_14 : decode cX9_isPairedOff 14 = .ok (.if_icmp .ne 5, 3) := by decide +kernel
theorem dX9_isPairedOff_17 : decode cX9_isPairedOff 17 = .ok (.iconst 1, 1) := by decide +kernel
theorem dX9_isPairedOff_18 : decode cX9_isPairedOff 18 = .ok (.ireturn, 1) := by decide +kernel
theorem dX9_isPairedOff_19 : decode cX9_isPairedOff 19 = .ok (.aload_n 1, 1) := by decide +kernel
theorem dX9_isPairedOff_20 : decode cX9_isPairedOff 20 = .ok (.getfield 141, 3) := by decide +kernel
theorem dX9_isPairedOff_23 : decode cX9_isPairedOff 23 = .ok (.istore 5, 2) := by decide +kernel
theorem dX9_isPairedOff_25 : decode cX9_isPairedOff 25 = .ok (.aload_n 0, 1) := by decide +kernel
theorem dX9_isPairedOff_26 : decode cX9_isPairedOff 26 = .ok (.getfield 44, 3) := by decide +kernel
theorem dX9_isPairedOff_29 : decode cX9_isPairedOff 29 = .ok (.aload_n 1, 1) := by decide +kernel
theorem dX9_isPairedOff_30 : decode cX9_isPairedOff 30 = .ok (.iload 4, 2) := by decide +kernel
theorem dX9_isPairedOff_32 : decode cX9_isPairedOff 32 = .ok (.invokevirtual 158, 3) := by decide +kernel
theorem dX9_isPairedOff_35 : decode cX9_isPairedOff 35 = .ok (.iload_n 3, 1) := by decide +kernel
theorem dX9_isPairedOff_36 : decode cX9_isPairedOff 36 = .ok (.if_icmp .ne 39, 3) := by decide +kernel
theorem dX9_isPairedOff_39 : decode cX9_isPairedOff 39 = .ok (.aload_n 0, 1) := by decide +kernel
theorem dX9_isPairedOff_40 : decode cX9_isPairedOff 40 = .ok (.getfield 44, 3) := by decide +kernel
theorem dX9_isPairedOff_43 : decode cX9_isPairedOff 43 = .ok (.iload 5, 2) := by decide +kernel
theorem dX9_isPairedOff_45 : decode cX9_isPairedOff 45 = .ok (.iload_n 2, 1) := by decide +kernel
theorem dX9_isPairedOff_46 : decode cX9_isPairedOff 46 = .ok (.iload_n 3, 1) := by decide +kernel
theorem dX9_isPairedOff_47 : decode cX9_isPairedOff 47 = .ok (.invokevirtual 185, 3) := by decide +kernel
theorem dX9_isPairedOff_50 : decode cX9_isPairedOff 50 = .ok (.invokestatic 192, 3) := by decide +kernel
theorem dX9_isPairedOff_53 : decode cX9_isPairedOff 53 = .ok (.aload_n 0, 1) := by decide +kernel
theorem dX9_isPairedOff_54 : decode cX9_isPairedOff 54 = .ok (.getfield 44, 3) := by decide +kernel
theorem dX9_isPairedOff_57 : decode cX9_isPairedOff 57 = .ok (.iload 5, 2) := by decide +kernel
theorem dX9_isPairedOff_59 : decode cX9_isPairedOff 59 = .ok (.iload_n 2, 1) := by decide +kernel
theorem dX9_isPairedOff_60 : decode cX9_isPairedOff 60 = .ok (.iload 4, 2) := by decide +kernel
theorem dX9_isPairedOff_62 : decode cX9_isPairedOff 62 = .ok (.invokevirtual 185, 3) := by decide +kernel
theorem dX9_isPairedOff_65 : decode cX9_isPairedOff 65 = .ok (.invokestatic 192, 3) := by decide +kernel
theorem dX9_isPairedOff_68 : decode cX9_isPairedOff 68 = .ok (.if_icmp .eq 7, 3) := by decide +kernel
theorem dX9_isPairedOff_71 : decode cX9_isPairedOff 71 = .ok (.iconst 1, 1) := by decide +kernel
theorem dX9_isPairedOff_72 : decode cX9_isPairedOff 72 = .ok (.goto 4, 3) := by decide +kernel
theorem dX9_isPairedOff_75 : decode cX9_isPairedOff 75 = .ok (.iconst 0, 1) := by decide +kernel
theorem dX9_isPairedOff_76 : decode cX9_isPairedOff 76 = .ok (.ireturn, 1) := by decide +kernel
theorem dX9_refutedClaims_0 : decode cX9_refutedClaims 0 = .ok (.iconst 0, 1) := by decide +kernel
theorem dX9_refutedClaims_1 : decode cX9_refutedClaims 1 = .ok (.istore_n 1, 1) := by decide +kernel
theorem dX9_refutedClaims_2 : decode cX9_refutedClaims 2 = .ok (.iconst 0, 1) := by decide +kernel
theorem dX9_refutedClaims_3 : decode cX9_refutedClaims 3 = .ok (.istore_n 2, 1) := by decide +kernel
theorem dX9_refutedClaims_4 : decode cX9_refutedClaims 4 = .ok (.iload_n 2, 1) := by decide +kernel
theorem dX9_refutedClaims_5 : decode cX9_refutedClaims 5 = .ok (.aload_n 0, 1) := by decide +kernel
theorem dX9_refutedClaims_6 : decode cX9_refutedClaims 6 = .ok (.getfield 123, 3) := by decide +kernel
theorem dX9_refutedClaims_9 : decode cX9_refutedClaims 9 = .ok (.if_icmp .ge 23, 3) := by decide +kernel
theorem dX9_refutedClaims_12 : decode cX9_refutedClaims 12 = .ok (.aload_n 0, 1) := by decide +kernel
theorem dX9_refutedClaims_13 : decode cX9_refutedClaims 13 = .ok (.iload_n 2, 1) := by decide +kernel
theorem dX9_refutedClaims_14 : decode cX9_refutedClaims 14 = .ok (.invokevirtual 171, 3) := by decide +kernel
theorem dX9_refutedClaims_17 : decode cX9_refutedClaims 17 = .ok (.getfield 265, 3) := by decide +kernel
theorem dX9_refutedClaims_20 : decode cX9_refutedClaims 20 = .ok (.ifCond .eq 6, 3) := by decide +kernel
theorem dX9_refutedClaims_23 : decode cX9_refutedClaims 23 = .ok (.iinc 1 1, 3) := by decide +kernel
theorem dX9_refutedClaims_26 : decode cX9_refutedClaims 26 = .ok (.iinc 2 1, 3) := by decide +kernel
theorem dX9_refutedClaims_29 : decode cX9_refutedClaims 29 = .ok (.goto (-25), 3) := by decide +kernel
theorem dX9_refutedClaims_32 : decode cX9_refutedClaims 32 = .ok (.iload_n 1, 1) := by decide +kernel
theorem dX9_refutedClaims_33 : decode cX9_refutedClaims 33 = .ok (.ireturn, 1) := by decide +kernel
end
section
/-! ===== the classes, the tables of ints, the methods; the words that are used ===== -/
def kCl : List vw_C := [(RJ6, TJ6, 1), (RJx35411, TJx35411, 4), (RJx4a65c, TJx4a65c, 3), (RX0, TX0, 10), (RX1, TX1, 5), (RX4, TX4, 6), (RX6, TX6, 2), (RX8, TX8, 6), (RX9, TX9, 11), (RX10, TX10, 5), (RX11, TX11, 6), (RX12, TX12, 11)]
theorem kcl_at {E : kE} (hE : kcl E = kCl) (i : Nat) {r : vw_C} (h : kCl[i]? = some r) : (kcl E)[i]? = some r := by rw [hE]; exact h
def kZs : List (String × String × Nat) := [("Bijectory", "STEP_FROM", 0), ("Bijectory", "STEP_TO", 1), ("Bijectory", "PATH_COUNTS", 2), ("Bijectory", "ORDER_COUNTS", 3), ("Bijectory", "TENS", 4), ("BijectoryModel", "FROM", 5), ("BijectoryModel", "TO", 6)]
theorem zin_0 : ("Bijectory", "STEP_FROM", 0) ∈ kZs := List.mem_of_getElem? (i := 0) rfl
theorem zin_1 : ("Bijectory", "STEP_TO", 1) ∈ kZs := List.mem_of_getElem? (i := 1) rfl
theorem zin_2 : ("Bijectory", "PATH_COUNTS", 2) ∈ kZs := List.mem_of_getElem? (i := 2) rfl
theorem zin_3 : ("Bijectory", "ORDER_COUNTS", 3) ∈ kZs := List.mem_of_getElem? (i := 3) rfl
theorem zin_4 : ("Bijectory", "TENS", 4) ∈ kZs := List.mem_of_getElem? (i := 4) rfl
theorem zin_5 : ("BijectoryModel", "FROM", 5) ∈ kZs := List.mem_of_getElem? (i := 5) rfl
theorem zin_6 : ("BijectoryModel", "TO", 6) ∈ kZs := List.mem_of_getElem? (i := 6) rfl
def kY (mi : Nat) : MethodName := (bif Nat.ble mi 58 then (bif Nat.ble mi 28 then (bif Nat.ble mi 13 then (bif Nat.ble mi 6 then (bif Nat.ble mi 2 then (bif Nat.ble mi 0 then yX5_at else (bif Nat.ble mi 1 then yX5_at_ else yX5_put)) else (bif Nat.ble mi 4 then (bif Nat.ble mi 3 then yX5_put_ else yX3_isPath) else (bif Nat.ble mi 5 then yX3_isUp else yX3_rise))) else (bif Nat.ble mi 9 then (bif Nat.ble mi 7 then yX3_part else (bif Nat.ble mi 8 then yX3_pairsOfFirst else yX3_pairsOfLast)) else (bif Nat.ble mi 11 then (bif Nat.ble mi 10 then yX3_graft else yX3_backward) else (bif Nat.ble mi 12 then yX3_roll else yX3_valueOf)))) else (bif Nat.ble mi 20 then (bif Nat.ble mi 16 then (bif Nat.ble mi 14 then yX3_peaks else (bif Nat.ble mi 15 then yX3_returns else yX3_greatestHeight)) else (bif Nat.ble mi 18 then (bif Nat.ble mi 17 then yX3_area else yX2_isOrder) else (bif Nat.ble mi 19 then yX2_at else yX2_ofRank))) else (bif Nat.ble mi 24 then (bif Nat.ble mi 22 then (bif Nat.ble mi 21 then yX2_freeNumber else yX2_shape) else (bif Nat.ble mi 23 then yX2_invert else yX2_turn)) else (bif Nat.ble mi 26 then (bif Nat.ble mi 25 then yX2_sort else yX2_valueOf) else (bif Nat.ble mi 27 then yX2_drops else yX2_inversions))))) else (bif Nat.ble mi 43 then (bif Nat.ble mi 35 then (bif Nat.ble mi 31 then (bif Nat.ble mi 29 then yX2_records else (bif Nat.ble mi 30 then yX2_unmoved else yX2_timesContained)) else (bif Nat.ble mi 33 then (bif Nat.ble mi 32 then yX2_chosen else yX2_patternOf) else (bif Nat.ble mi 34 then yX7_node else yX7_leftOf))) else (bif Nat.ble mi 39 then (bif Nat.ble mi 37 then (bif Nat.ble mi 36 then yX7_rightOf else yX7_mirror) else (bif Nat.ble mi 38 then yX7_label else yX7_valueOf)) else (bif Nat.ble mi 41 then (bif Nat.ble mi 40 then yJ6_bitCount_0f7a4 else yX4_init) else (bif Nat.ble mi 42 then yX4_of else yX4_listPaths)))) else (bif Nat.ble mi 50 then (bif Nat.ble mi 46 then (bif Nat.ble mi 44 then yX4_listOrders else (bif Nat.ble mi 45 then yX4_listImages else yX4_listValues)) else (bif Nat.ble mi 48 then (bif Nat.ble mi 47 then yX4_imageCode else yX4_valueByCode) else (bif Nat.ble mi 49 then yX4_codes else yX4_count))) else (bif Nat.ble mi 54 then (bif Nat.ble mi 52 then (bif Nat.ble mi 51 then yX4_codeOf else yX4_rankOf) else (bif Nat.ble mi 53 then yX4_through else yX4_valueOf)) else (bif Nat.ble mi 56 then (bif Nat.ble mi 55 then yX4_countOf else yX4_isInOrderBehind) else (bif Nat.ble mi 57 then yX0_init else yX0_append)))))) else (bif Nat.ble mi 87 then (bif Nat.ble mi 72 then (bif Nat.ble mi 65 then (bif Nat.ble mi 61 then (bif Nat.ble mi 59 then yX0_stepAt else (bif Nat.ble mi 60 then yX0_isMove else yX6_init)) else (bif Nat.ble mi 63 then (bif Nat.ble mi 62 then yX6_take else yX6_countDistinct) else (bif Nat.ble mi 64 then yX6_countUnmoved else yX6_followRounds))) else (bif Nat.ble mi 68 then (bif Nat.ble mi 66 then yX6_roundLength else (bif Nat.ble mi 67 then yX6_commonMultiple else yX6_forget)) else (bif Nat.ble mi 70 then (bif Nat.ble mi 69 then yX6_meet else yX8_init) else (bif Nat.ble mi 71 then yX8_go else yX1_init)))) else (bif Nat.ble mi 79 then (bif Nat.ble mi 75 then (bif Nat.ble mi 73 then yX1_note else (bif Nat.ble mi 74 then yX9_init else yX9_size)) else (bif Nat.ble mi 77 then (bif Nat.ble mi 76 then yX9_map else yX9_then) else (bif Nat.ble mi 78 then yX9_walker else yX9_claim))) else (bif Nat.ble mi 83 then (bif Nat.ble mi 81 then (bif Nat.ble mi 80 then yX9_send else yX9_trial) else (bif Nat.ble mi 82 then yX9_objects else yX9_unrank)) else (bif Nat.ble mi 85 then (bif Nat.ble mi 84 then yX9_rank else yX9_statistic) else (bif Nat.ble mi 86 then yX9_spread else yX9_signs))))) else (bif Nat.ble mi 102 then (bif Nat.ble mi 94 then (bif Nat.ble mi 90 then (bif Nat.ble mi 88 then yX9_alike else (bif Nat.ble mi 89 then yX9_contains else yX9_sorted)) else (bif Nat.ble mi 92 then (bif Nat.ble mi 91 then yX9_ofMap else yX9_image) else (bif Nat.ble mi 93 then yX9_source else yX9_rounds))) else (bif Nat.ble mi 98 then (bif Nat.ble mi 96 then (bif Nat.ble mi 95 then yX9_period else yX9_against) else (bif Nat.ble mi 97 then yX9_cancels else yX9_ofWalker)) else (bif Nat.ble mi 100 then (bif Nat.ble mi 99 then yX9_ofClaim else yX9_many) else (bif Nat.ble mi 101 then yX9_mean else yX9_digest)))) else (bif Nat.ble mi 109 then (bif Nat.ble mi 105 then (bif Nat.ble mi 103 then yX9_digestOfObjects else (bif Nat.ble mi 104 then yX9_digestOfMap else yX9_needStep)) else (bif Nat.ble mi 107 then (bif Nat.ble mi 106 then yX9_needFamily else yX9_needStatistic) else (bif Nat.ble mi 108 then yX9_needRank else yX9_chartAt))) else (bif Nat.ble mi 113 then (bif Nat.ble mi 111 then (bif Nat.ble mi 110 then yX9_walkerAt else yX9_claimAt) else (bif Nat.ble mi 112 then yX9_signOf else yX9_patternLength)) else (bif Nat.ble mi 115 then (bif Nat.ble mi 114 then yX9_tryClaim else yX9_firstAgainst) else (bif Nat.ble mi 116 then yX9_isPairedOff else yX9_refutedClaims)))))))
def kCC (mi : Nat) : ByteArray := (bif Nat.ble mi 58 then (bif Nat.ble mi 28 then (bif Nat.ble mi 13 then (bif Nat.ble mi 6 then (bif Nat.ble mi 2 then (bif Nat.ble mi 0 then cX5_at else (bif Nat.ble mi 1 then cX5_at_ else cX5_put)) else (bif Nat.ble mi 4 then (bif Nat.ble mi 3 then cX5_put_ else cX3_isPath) else (bif Nat.ble mi 5 then cX3_isUp else cX3_rise))) else (bif Nat.ble mi 9 then (bif Nat.ble mi 7 then cX3_part else (bif Nat.ble mi 8 then cX3_pairsOfFirst else cX3_pairsOfLast)) else (bif Nat.ble mi 11 then (bif Nat.ble mi 10 then cX3_graft else cX3_backward) else (bif Nat.ble mi 12 then cX3_roll else cX3_valueOf)))) else (bif Nat.ble mi 20 then (bif Nat.ble mi 16 then (bif Nat.ble mi 14 then cX3_peaks else (bif Nat.ble mi 15 then cX3_returns else cX3_greatestHeight)) else (bif Nat.ble mi 18 then (bif Nat.ble mi 17 then cX3_area else cX2_isOrder) else (bif Nat.ble mi 19 then cX2_at else cX2_ofRank))) else (bif Nat.ble mi 24 then (bif Nat.ble mi 22 then (bif Nat.ble mi 21 then cX2_freeNumber else cX2_shape) else (bif Nat.ble mi 23 then cX2_invert else cX2_turn)) else (bif Nat.ble mi 26 then (bif Nat.ble mi 25 then cX2_sort else cX2_valueOf) else (bif Nat.ble mi 27 then cX2_drops else cX2_inversions))))) else (bif Nat.ble mi 43 then (bif Nat.ble mi 35 then (bif Nat.ble mi 31 then (bif Nat.ble mi 29 then cX2_records else (bif Nat.ble mi 30 then cX2_unmoved else cX2_timesContained)) else (bif Nat.ble mi 33 then (bif Nat.ble mi 32 then cX2_chosen else cX2_patternOf) else (bif Nat.ble mi 34 then cX7_node else cX7_leftOf))) else (bif Nat.ble mi 39 then (bif Nat.ble mi 37 then (bif Nat.ble mi 36 then cX7_rightOf else cX7_mirror) else (bif Nat.ble mi 38 then cX7_label else cX7_valueOf)) else (bif Nat.ble mi 41 then (bif Nat.ble mi 40 then cJ6_bitCount_0f7a4 else cX4_init) else (bif Nat.ble mi 42 then cX4_of else cX4_listPaths)))) else (bif Nat.ble mi 50 then (bif Nat.ble mi 46 then (bif Nat.ble mi 44 then cX4_listOrders else (bif Nat.ble mi 45 then cX4_listImages else cX4_listValues)) else (bif Nat.ble mi 48 then (bif Nat.ble mi 47 then cX4_imageCode else cX4_valueByCode) else (bif Nat.ble mi 49 then cX4_codes else cX4_count))) else (bif Nat.ble mi 54 then (bif Nat.ble mi 52 then (bif Nat.ble mi 51 then cX4_codeOf else cX4_rankOf) else (bif Nat.ble mi 53 then cX4_through else cX4_valueOf)) else (bif Nat.ble mi 56 then (bif Nat.ble mi 55 then cX4_countOf else cX4_isInOrderBehind) else (bif Nat.ble mi 57 then cX0_init else cX0_append)))))) else (bif Nat.ble mi 87 then (bif Nat.ble mi 72 then (bif Nat.ble mi 65 then (bif Nat.ble mi 61 then (bif Nat.ble mi 59 then cX0_stepAt else (bif Nat.ble mi 60 then cX0_isMove else cX6_init)) else (bif Nat.ble mi 63 then (bif Nat.ble mi 62 then cX6_take else cX6_countDistinct) else (bif Nat.ble mi 64 then cX6_countUnmoved else cX6_followRounds))) else (bif Nat.ble mi 68 then (bif Nat.ble mi 66 then cX6_roundLength else (bif Nat.ble mi 67 then cX6_commonMultiple else cX6_forget)) else (bif Nat.ble mi 70 then (bif Nat.ble mi 69 then cX6_meet else cX8_init) else (bif Nat.ble mi 71 then cX8_go else cX1_init)))) else (bif Nat.ble mi 79 then (bif Nat.ble mi 75 then (bif Nat.ble mi 73 then cX1_note else (bif Nat.ble mi 74 then cX9_init else cX9_size)) else (bif Nat.ble mi 77 then (bif Nat.ble mi 76 then cX9_map else cX9_then) else (bif Nat.ble mi 78 then cX9_walker else cX9_claim))) else (bif Nat.ble mi 83 then (bif Nat.ble mi 81 then (bif Nat.ble mi 80 then cX9_send else cX9_trial) else (bif Nat.ble mi 82 then cX9_objects else cX9_unrank)) else (bif Nat.ble mi 85 then (bif Nat.ble mi 84 then cX9_rank else cX9_statistic) else (bif Nat.ble mi 86 then cX9_spread else cX9_signs))))) else (bif Nat.ble mi 102 then (bif Nat.ble mi 94 then (bif Nat.ble mi 90 then (bif Nat.ble mi 88 then cX9_alike else (bif Nat.ble mi 89 then cX9_contains else cX9_sorted)) else (bif Nat.ble mi 92 then (bif Nat.ble mi 91 then cX9_ofMap else cX9_image) else (bif Nat.ble mi 93 then cX9_source else cX9_rounds))) else (bif Nat.ble mi 98 then (bif Nat.ble mi 96 then (bif Nat.ble mi 95 then cX9_period else cX9_against) else (bif Nat.ble mi 97 then cX9_cancels else cX9_ofWalker)) else (bif Nat.ble mi 100 then (bif Nat.ble mi 99 then cX9_ofClaim else cX9_many) else (bif Nat.ble mi 101 then cX9_mean else cX9_digest)))) else (bif Nat.ble mi 109 then (bif Nat.ble mi 105 then (bif Nat.ble mi 103 then cX9_digestOfObjects else (bif Nat.ble mi 104 then cX9_digestOfMap else cX9_needStep)) else (bif Nat.ble mi 107 then (bif Nat.ble mi 106 then cX9_needFamily else cX9_needStatistic) else (bif Nat.ble mi 108 then cX9_needRank else cX9_chartAt))) else (bif Nat.ble mi 113 then (bif Nat.ble mi 111 then (bif Nat.ble mi 110 then cX9_walkerAt else cX9_claimAt) else (bif Nat.ble mi 112 then cX9_signOf else cX9_patternLength)) else (bif Nat.ble mi 115 then (bif Nat.ble mi 114 then cX9_tryClaim else cX9_firstAgainst) else (bif Nat.ble mi 116 then cX9_isPairedOff else cX9_refutedClaims)))))))
def kML (mi : Nat) : Nat := (bif Nat.ble mi 58 then (bif Nat.ble mi 28 then (bif Nat.ble mi 13 then (bif Nat.ble mi 6 then (bif Nat.ble mi 2 then (bif Nat.ble mi 0 then 2 else (bif Nat.ble mi 1 then 4 else 3)) else (bif Nat.ble mi 4 then (bif Nat.ble mi 3 then 5 else 4) else (bif Nat.ble mi 5 then 2 else 2))) else (bif Nat.ble mi 9 then (bif Nat.ble mi 7 then 3 else (bif Nat.ble mi 8 then 4 else 4)) else (bif Nat.ble mi 11 then (bif Nat.ble mi 10 then 6 else 4) else (bif Nat.ble mi 12 then 6 else 3)))) else (bif Nat.ble mi 20 then (bif Nat.ble mi 16 then (bif Nat.ble mi 14 then 4 else (bif Nat.ble mi 15 then 5 else 5)) else (bif Nat.ble mi 18 then (bif Nat.ble mi 17 then 5 else 6) else (bif Nat.ble mi 19 then 5 else 8))) else (bif Nat.ble mi 24 then (bif Nat.ble mi 22 then (bif Nat.ble mi 21 then 5 else 7) else (bif Nat.ble mi 23 then 4 else 5)) else (bif Nat.ble mi 26 then (bif Nat.ble mi 25 then 6 else 3) else (bif Nat.ble mi 27 then 4 else 5))))) else (bif Nat.ble mi 43 then (bif Nat.ble mi 35 then (bif Nat.ble mi 31 then (bif Nat.ble mi 29 then 6 else (bif Nat.ble mi 30 then 4 else 6)) else (bif Nat.ble mi 33 then (bif Nat.ble mi 32 then 5 else 6) else (bif Nat.ble mi 34 then 4 else 3))) else (bif Nat.ble mi 39 then (bif Nat.ble mi 37 then (bif Nat.ble mi 36 then 2 else 6) else (bif Nat.ble mi 38 then 7 else 7)) else (bif Nat.ble mi 41 then (bif Nat.ble mi 40 then 1 else 4) else (bif Nat.ble mi 42 then 4 else 3)))) else (bif Nat.ble mi 50 then (bif Nat.ble mi 46 then (bif Nat.ble mi 44 then 2 else (bif Nat.ble mi 45 then 5 else 6)) else (bif Nat.ble mi 48 then (bif Nat.ble mi 47 then 3 else 4) else (bif Nat.ble mi 49 then 2 else 2))) else (bif Nat.ble mi 54 then (bif Nat.ble mi 52 then (bif Nat.ble mi 51 then 3 else 6) else (bif Nat.ble mi 53 then 5 else 4)) else (bif Nat.ble mi 56 then (bif Nat.ble mi 55 then 4 else 5) else (bif Nat.ble mi 57 then 2 else 2)))))) else (bif Nat.ble mi 87 then (bif Nat.ble mi 72 then (bif Nat.ble mi 65 then (bif Nat.ble mi 61 then (bif Nat.ble mi 59 then 2 else (bif Nat.ble mi 60 then 1 else 2)) else (bif Nat.ble mi 63 then (bif Nat.ble mi 62 then 5 else 4) else (bif Nat.ble mi 64 then 4 else 5))) else (bif Nat.ble mi 68 then (bif Nat.ble mi 66 then 5 else (bif Nat.ble mi 67 then 4 else 2)) else (bif Nat.ble mi 70 then (bif Nat.ble mi 69 then 2 else 3) else (bif Nat.ble mi 71 then 3 else 4)))) else (bif Nat.ble mi 79 then (bif Nat.ble mi 75 then (bif Nat.ble mi 73 then 3 else (bif Nat.ble mi 74 then 1 else 4)) else (bif Nat.ble mi 77 then (bif Nat.ble mi 76 then 2 else 4) else (bif Nat.ble mi 78 then 4 else 6))) else (bif Nat.ble mi 83 then (bif Nat.ble mi 81 then (bif Nat.ble mi 80 then 7 else 3) else (bif Nat.ble mi 82 then 2 else 3)) else (bif Nat.ble mi 85 then (bif Nat.ble mi 84 then 3 else 4) else (bif Nat.ble mi 86 then 4 else 5))))) else (bif Nat.ble mi 102 then (bif Nat.ble mi 94 then (bif Nat.ble mi 90 then (bif Nat.ble mi 88 then 6 else (bif Nat.ble mi 89 then 4 else 4)) else (bif Nat.ble mi 92 then (bif Nat.ble mi 91 then 4 else 4) else (bif Nat.ble mi 93 then 5 else 3))) else (bif Nat.ble mi 98 then (bif Nat.ble mi 96 then (bif Nat.ble mi 95 then 3 else 5) else (bif Nat.ble mi 97 then 5 else 4)) else (bif Nat.ble mi 100 then (bif Nat.ble mi 99 then 4 else 2) else (bif Nat.ble mi 101 then 5 else 5)))) else (bif Nat.ble mi 109 then (bif Nat.ble mi 105 then (bif Nat.ble mi 103 then 7 else (bif Nat.ble mi 104 then 7 else 1)) else (bif Nat.ble mi 107 then (bif Nat.ble mi 106 then 1 else 1) else (bif Nat.ble mi 108 then 3 else 3))) else (bif Nat.ble mi 113 then (bif Nat.ble mi 111 then (bif Nat.ble mi 110 then 3 else 3) else (bif Nat.ble mi 112 then 1 else 2)) else (bif Nat.ble mi 115 then (bif Nat.ble mi 114 then 4 else 6) else (bif Nat.ble mi 116 then 6 else 3)))))))
def kRT (mi : Nat) : Option FieldType := (bif Nat.ble mi 58 then (bif Nat.ble mi 28 then (bif Nat.ble mi 13 then (bif Nat.ble mi 6 then (bif Nat.ble mi 2 then (bif Nat.ble mi 0 then (some .int) else (bif Nat.ble mi 1 then (some .int) else none)) else (bif Nat.ble mi 4 then (bif Nat.ble mi 3 then none else (some .boolean)) else (bif Nat.ble mi 5 then (some .boolean) else (some .int)))) else (bif Nat.ble mi 9 then (bif Nat.ble mi 7 then (some .int) else (bif Nat.ble mi 8 then (some .int) else (some .int))) else (bif Nat.ble mi 11 then (bif Nat.ble mi 10 then (some .int) else (some .int)) else (bif Nat.ble mi 12 then (some .int) else (some .int))))) else (bif Nat.ble mi 20 then (bif Nat.ble mi 16 then (bif Nat.ble mi 14 then (some .int) else (bif Nat.ble mi 15 then (some .int) else (some .int))) else (bif Nat.ble mi 18 then (bif Nat.ble mi 17 then (some .int) else (some .boolean)) else (bif Nat.ble mi 19 then (some .int) else (some .int)))) else (bif Nat.ble mi 24 then (bif Nat.ble mi 22 then (bif Nat.ble mi 21 then (some .int) else (some .int)) else (bif Nat.ble mi 23 then (some .int) else (some .int))) else (bif Nat.ble mi 26 then (bif Nat.ble mi 25 then (some .int) else (some .int)) else (bif Nat.ble mi 27 then (some .int) else (some .int)))))) else (bif Nat.ble mi 43 then (bif Nat.ble mi 35 then (bif Nat.ble mi 31 then (bif Nat.ble mi 29 then (some .int) else (bif Nat.ble mi 30 then (some .int) else (some .int))) else (bif Nat.ble mi 33 then (bif Nat.ble mi 32 then (some .int) else (some .int)) else (bif Nat.ble mi 34 then (some .int) else (some .int)))) else (bif Nat.ble mi 39 then (bif Nat.ble mi 37 then (bif Nat.ble mi 36 then (some .int) else (some .int)) else (bif Nat.ble mi 38 then (some .int) else (some .int))) else (bif Nat.ble mi 41 then (bif Nat.ble mi 40 then (some .int) else none) else (bif Nat.ble mi 42 then (some (.object "Bijectory$Realm")) else none)))) else (bif Nat.ble mi 50 then (bif Nat.ble mi 46 then (bif Nat.ble mi 44 then none else (bif Nat.ble mi 45 then none else none)) else (bif Nat.ble mi 48 then (bif Nat.ble mi 47 then (some .int) else (some .int)) else (bif Nat.ble mi 49 then (some (.array .int)) else (some .int)))) else (bif Nat.ble mi 54 then (bif Nat.ble mi 52 then (bif Nat.ble mi 51 then (some .int) else (some .int)) else (bif Nat.ble mi 53 then (some .int) else (some .int))) else (bif Nat.ble mi 56 then (bif Nat.ble mi 55 then (some .int) else (some .boolean)) else (bif Nat.ble mi 57 then none else none)))))) else (bif Nat.ble mi 87 then (bif Nat.ble mi 72 then (bif Nat.ble mi 65 then (bif Nat.ble mi 61 then (bif Nat.ble mi 59 then (some .int) else (bif Nat.ble mi 60 then (some .boolean) else none)) else (bif Nat.ble mi 63 then (bif Nat.ble mi 62 then none else (some .int)) else (bif Nat.ble mi 64 then (some .int) else none))) else (bif Nat.ble mi 68 then (bif Nat.ble mi 66 then (some .int) else (bif Nat.ble mi 67 then (some .long) else none)) else (bif Nat.ble mi 70 then (bif Nat.ble mi 69 then (some .boolean) else none) else (bif Nat.ble mi 71 then none else none)))) else (bif Nat.ble mi 79 then (bif Nat.ble mi 75 then (bif Nat.ble mi 73 then none else (bif Nat.ble mi 74 then none else (some .int))) else (bif Nat.ble mi 77 then (bif Nat.ble mi 76 then (some .int) else (some .int)) else (bif Nat.ble mi 78 then (some .int) else (some .int)))) else (bif Nat.ble mi 83 then (bif Nat.ble mi 81 then (bif Nat.ble mi 80 then (some .int) else (some .boolean)) else (bif Nat.ble mi 82 then (some .int) else (some .int))) else (bif Nat.ble mi 85 then (bif Nat.ble mi 84 then (some .int) else (some .int)) else (bif Nat.ble mi 86 then (some .int) else (some .int)))))) else (bif Nat.ble mi 102 then (bif Nat.ble mi 94 then (bif Nat.ble mi 90 then (bif Nat.ble mi 88 then (some .boolean) else (bif Nat.ble mi 89 then (some .int) else (some .int))) else (bif Nat.ble mi 92 then (bif Nat.ble mi 91 then (some .int) else (some .int)) else (bif Nat.ble mi 93 then (some .int) else (some .int)))) else (bif Nat.ble mi 98 then (bif Nat.ble mi 96 then (bif Nat.ble mi 95 then (some .long) else (some .int)) else (bif Nat.ble mi 97 then (some .boolean) else (some .int))) else (bif Nat.ble mi 100 then (bif Nat.ble mi 99 then (some .int) else (some .int)) else (bif Nat.ble mi 101 then (some .double) else (some .long))))) else (bif Nat.ble mi 109 then (bif Nat.ble mi 105 then (bif Nat.ble mi 103 then (some .long) else (bif Nat.ble mi 104 then (some .long) else none)) else (bif Nat.ble mi 107 then (bif Nat.ble mi 106 then none else none) else (bif Nat.ble mi 108 then none else (some (.object "Bijectory$Chart"))))) else (bif Nat.ble mi 113 then (bif Nat.ble mi 111 then (bif Nat.ble mi 110 then (some (.object "Bijectory$Walker")) else (some (.object "Bijectory$Claim"))) else (bif Nat.ble mi 112 then (some .int) else (some .int))) else (bif Nat.ble mi 115 then (bif Nat.ble mi 114 then (some .boolean) else (some .int)) else (bif Nat.ble mi 116 then (some .boolean) else (some .int))))))))
def kWS (mi : Nat) : List Cond := kws (kY mi) (kCC mi) (kML mi) (kRT mi)
theorem k_same {p : Program} {l : Launch} {e : Env} {R : Room} {s : State} {m : MethodId} {args : Array Value} {below : List Frame} {meth : Method} {c : Code} {E : kE} {XX : State → Prop} {σ α0 : List Nat} {cc : ByteArray} {nL nc0 ns0 : Nat} {res : kRes} {own : String} {ws : List Cond} {zs : List (String × String × Nat)} (C : kCx E XX σ zs p l e R s m args below meth c α0 cc nL nc0 ns0 res own ws) {ci : Nat} {r0 : vw_C} (hc : (kcl E)[ci]? = some r0) {comp : ClassId} (h : s.vm.findClass r0.1 = some comp) : s.vm.assignable (kdC E ci) comp = true := by
  have hK := (C.2.2.2.2.2.2.1.2.1 ci _ hc).2
  have e1 : comp = kdC E ci := Option.some.inj (h.symm.trans hK.1)
  subst e1
  exact va_assign hK
theorem kG_list {L : List Cond} (ps : List Nat) (h : L = ps.filterMap (fun i => lw_tbl[i]?)) (h2 : L.all goodWord = true) : ∀ w ∈ L, w ∈ kG := fun w hw => kG_of (by
  rw [h] at hw
  obtain ⟨i, -, hi⟩ := List.mem_filterMap.mp hw
  exact List.mem_of_getElem? hi) (List.all_eq_true.mp h2 w hw)
theorem inG_X9 : ∀ w ∈ wsX90, w ∈ kG := kG_list [348, 350, 352, 354, 356, 358, 360, 362, 364, 366, 368] (by decide +kernel) (by decide +kernel)
theorem inG_X0 : ∀ w ∈ wsX00, w ∈ kG := kG_list [681, 683, 685, 687, 689, 691, 693, 695, 697, 699] (by decide +kernel) (by decide +kernel)
theorem inG_X1 : ∀ w ∈ wsX10, w ∈ kG := kG_list [782, 784, 786, 788, 790] (by decide +kernel) (by decide +kernel)
theorem inG_X4 : ∀ w ∈ wsX40, w ∈ kG := kG_list [160, 162, 164, 166, 168, 170] (by decide +kernel) (by decide +kernel)
theorem inG_X6 : ∀ w ∈ wsX60, w ∈ kG := kG_list [123, 125] (by decide +kernel) (by decide +kernel)
theorem inG_X8 : ∀ w ∈ wsX80, w ∈ kG := kG_list [746, 748, 750, 752, 754, 756] (by decide +kernel) (by decide +kernel)
theorem gw_0 : (.code yX3_rise cX3_rise 2 (some .int) : Cond) ∈ kG := kG_of (List.mem_of_getElem? (i := 182) (by decide +kernel)) (by decide +kernel)
theorem gw_1 : (.methodLink "Bijectory$Paths" 9 yX3_rise : Cond) ∈ kG := kG_of (List.mem_of_getElem? (i := 180) (by decide +kernel)) (by decide +kernel)
theorem gw_2 : (.static yX3_rise : Cond) ∈ kG := kG_of (List.mem_of_getElem? (i := 181) (by decide +kernel)) (by decide +kernel)
theorem gw_3 : (.initialized "Bijectory$Paths" : Cond) ∈ kG := kG_of (List.mem_of_getElem? (i := 70) (by decide +kernel)) (by decide +kernel)
theorem gw_4 : (.code yX3_pairsOfLast cX3_pairsOfLast 4 (some .int) : Cond) ∈ kG := kG_of (List.mem_of_getElem? (i := 226) (by decide +kernel)) (by decide +kernel)
theorem gw_5 : (.methodLink "Bijectory$Paths" 15 yX3_pairsOfLast : Cond) ∈ kG := kG_of (List.mem_of_getElem? (i := 224) (by decide +kernel)) (by decide +kernel)
theorem gw_6 : (.static yX3_pairsOfLast : Cond) ∈ kG := kG_of (List.mem_of_getElem? (i := 225) (by decide +kernel)) (by decide +kernel)
theorem gw_7 : (.code yX3_part cX3_part 3 (some .int) : Cond) ∈ kG := kG_of (List.mem_of_getElem? (i := 229) (by decide +kernel)) (by decide +kernel)
theorem gw_8 : (.methodLink "Bijectory$Paths" 18 yX3_part : Cond) ∈ kG := kG_of (List.mem_of_getElem? (i := 227) (by decide +kernel)) (by decide +kernel)
theorem gw_9 : (.static yX3_part : Cond) ∈ kG := kG_of (List.mem_of_getElem? (i := 228) (by decide +kernel)) (by decide +kernel)
theorem gw_10 : (.code yX3_graft cX3_graft 6 (some .int) : Cond) ∈ kG := kG_of (List.mem_of_getElem? (i := 223) (by decide +kernel)) (by decide +kernel)
theorem gw_11 : (.methodLink "Bijectory$Paths" 22 yX3_graft : Cond) ∈ kG := kG_of (List.mem_of_getElem? (i := 230) (by decide +kernel)) (by decide +kernel)
theorem gw_12 : (.static yX3_graft : Cond) ∈ kG := kG_of (List.mem_of_getElem? (i := 222) (by decide +kernel)) (by decide +kernel)
theorem gw_13 : (.code yX7_node cX7_node 4 (some .int) : Cond) ∈ kG := kG_of (List.mem_of_getElem? (i := 233) (by decide +kernel)) (by decide +kernel)
theorem gw_14 : (.methodLink "Bijectory$Paths" 25 yX7_node : Cond) ∈ kG := kG_of (List.mem_of_getElem? (i := 231) (by decide +kernel)) (by decide +kernel)
theorem gw_15 : (.static yX7_node : Cond) ∈ kG := kG_of (List.mem_of_getElem? (i := 232) (by decide +kernel)) (by decide +kernel)
theorem gw_16 : (.initialized "Bijectory$Trees" : Cond) ∈ kG := kG_of (List.mem_of_getElem? (i := 72) (by decide +kernel)) (by decide +kernel)
theorem gw_17 : (.code yX3_isUp cX3_isUp 2 (some .boolean) : Cond) ∈ kG := kG_of (List.mem_of_getElem? (i := 254) (by decide +kernel)) (by decide +kernel)
theorem gw_18 : (.methodLink "Bijectory$Paths" 31 yX3_isUp : Cond) ∈ kG := kG_of (List.mem_of_getElem? (i := 252) (by decide +kernel)) (by decide +kernel)
theorem gw_19 : (.static yX3_isUp : Cond) ∈ kG := kG_of (List.mem_of_getElem? (i := 253) (by decide +kernel)) (by decide +kernel)
theorem gw_20 : (.code yX3_pairsOfFirst cX3_pairsOfFirst 4 (some .int) : Cond) ∈ kG := kG_of (List.mem_of_getElem? (i := 239) (by decide +kernel)) (by decide +kernel)
theorem gw_21 : (.methodLink "Bijectory$Paths" 35 yX3_pairsOfFirst : Cond) ∈ kG := kG_of (List.mem_of_getElem? (i := 258) (by decide +kernel)) (by decide +kernel)
theorem gw_22 : (.static yX3_pairsOfFirst : Cond) ∈ kG := kG_of (List.mem_of_getElem? (i := 238) (by decide +kernel)) (by decide +kernel)
theorem gw_23 : (.code yX3_peaks cX3_peaks 4 (some .int) : Cond) ∈ kG := kG_of (List.mem_of_getElem? (i := 303) (by decide +kernel)) (by decide +kernel)
theorem gw_24 : (.methodLink "Bijectory$Paths" 38 yX3_peaks : Cond) ∈ kG := kG_of (List.mem_of_getElem? (i := 301) (by decide +kernel)) (by decide +kernel)
theorem gw_25 : (.static yX3_peaks : Cond) ∈ kG := kG_of (List.mem_of_getElem? (i := 302) (by decide +kernel)) (by decide +kernel)
theorem gw_26 : (.code yX3_returns cX3_returns 5 (some .int) : Cond) ∈ kG := kG_of (List.mem_of_getElem? (i := 306) (by decide +kernel)) (by decide +kernel)
theorem gw_27 : (.methodLink "Bijectory$Paths" 41 yX3_returns : Cond) ∈ kG := kG_of (List.mem_of_getElem? (i := 304) (by decide +kernel)) (by decide +kernel)
theorem gw_28 : (.static yX3_returns : Cond) ∈ kG := kG_of (List.mem_of_getElem? (i := 305) (by decide +kernel)) (by decide +kernel)
theorem gw_29 : (.code yX3_greatestHeight cX3_greatestHeight 5 (some .int) : Cond) ∈ kG := kG_of (List.mem_of_getElem? (i := 309) (by decide +kernel)) (by decide +kernel)
theorem gw_30 : (.methodLink "Bijectory$Paths" 44 yX3_greatestHeight : Cond) ∈ kG := kG_of (List.mem_of_getElem? (i := 307) (by decide +kernel)) (by decide +kernel)
theorem gw_31 : (.static yX3_greatestHeight : Cond) ∈ kG := kG_of (List.mem_of_getElem? (i := 308) (by decide +kernel)) (by decide +kernel)
theorem gw_32 : (.code yX3_area cX3_area 5 (some .int) : Cond) ∈ kG := kG_of (List.mem_of_getElem? (i := 313) (by decide +kernel)) (by decide +kernel)
theorem gw_33 : (.methodLink "Bijectory$Paths" 47 yX3_area : Cond) ∈ kG := kG_of (List.mem_of_getElem? (i := 311) (by decide +kernel)) (by decide +kernel)
theorem gw_34 : (.static yX3_area : Cond) ∈ kG := kG_of (List.mem_of_getElem? (i := 312) (by decide +kernel)) (by decide +kernel)
theorem gw_35 : (.methodLink "Bijectory$Paths" 50 Lib.Math.max.name : Cond) ∈ kG := kG_of (List.mem_of_getElem? (i := 310) (by decide +kernel)) (by decide +kernel)
theorem gw_36 : (.static Lib.Math.max.name : Cond) ∈ kG := kG_of (List.mem_of_getElem? (i := 119) (by decide +kernel)) (by decide +kernel)
theorem gw_37 : (.initialized "java/lang/Math" : Cond) ∈ kG := kG_of (List.mem_of_getElem? (i := 68) (by decide +kernel)) (by decide +kernel)
theorem gw_38 : (.code Lib.Math.max.name Lib.Math.max.code 2 (some .int) : Cond) ∈ kG := kG_of (List.mem_of_getElem? (i := 120) (by decide +kernel)) (by decide +kernel)
theorem gw_39 : (.code yX5_at cX5_at 2 (some .int) : Cond) ∈ kG := kG_of (List.mem_of_getElem? (i := 117) (by decide +kernel)) (by decide +kernel)
theorem gw_40 : (.methodLink "Bijectory$Orders" 13 yX5_at : Cond) ∈ kG := kG_of (List.mem_of_getElem? (i := 194) (by decide +kernel)) (by decide +kernel)
theorem gw_41 : (.static yX5_at : Cond) ∈ kG := kG_of (List.mem_of_getElem? (i := 116) (by decide +kernel)) (by decide +kernel)
theorem gw_42 : (.initialized "Bijectory$Rows" : Cond) ∈ kG := kG_of (List.mem_of_getElem? (i := 67) (by decide +kernel)) (by decide +kernel)
theorem gw_43 : (.code yX2_freeNumber cX2_freeNumber 5 (some .int) : Cond) ∈ kG := kG_of (List.mem_of_getElem? (i := 197) (by decide +kernel)) (by decide +kernel)
theorem gw_44 : (.methodLink "Bijectory$Orders" 19 yX2_freeNumber : Cond) ∈ kG := kG_of (List.mem_of_getElem? (i := 195) (by decide +kernel)) (by decide +kernel)
theorem gw_45 : (.static yX2_freeNumber : Cond) ∈ kG := kG_of (List.mem_of_getElem? (i := 196) (by decide +kernel)) (by decide +kernel)
theorem gw_46 : (.initialized "Bijectory$Orders" : Cond) ∈ kG := kG_of (List.mem_of_getElem? (i := 71) (by decide +kernel)) (by decide +kernel)
theorem gw_47 : (.code yX2_at cX2_at 5 (some .int) : Cond) ∈ kG := kG_of (List.mem_of_getElem? (i := 271) (by decide +kernel)) (by decide +kernel)
theorem gw_48 : (.methodLink "Bijectory$Orders" 25 yX2_at : Cond) ∈ kG := kG_of (List.mem_of_getElem? (i := 269) (by decide +kernel)) (by decide +kernel)
theorem gw_49 : (.static yX2_at : Cond) ∈ kG := kG_of (List.mem_of_getElem? (i := 270) (by decide +kernel)) (by decide +kernel)
theorem gw_50 : (.code yX2_shape cX2_shape 7 (some .int) : Cond) ∈ kG := kG_of (List.mem_of_getElem? (i := 268) (by decide +kernel)) (by decide +kernel)
theorem gw_51 : (.methodLink "Bijectory$Orders" 28 yX2_shape : Cond) ∈ kG := kG_of (List.mem_of_getElem? (i := 272) (by decide +kernel)) (by decide +kernel)
theorem gw_52 : (.static yX2_shape : Cond) ∈ kG := kG_of (List.mem_of_getElem? (i := 267) (by decide +kernel)) (by decide +kernel)
theorem gw_53 : (.methodLink "Bijectory$Orders" 32 yX7_node : Cond) ∈ kG := kG_of (List.mem_of_getElem? (i := 273) (by decide +kernel)) (by decide +kernel)
theorem gw_54 : (.code yX2_drops cX2_drops 4 (some .int) : Cond) ∈ kG := kG_of (List.mem_of_getElem? (i := 324) (by decide +kernel)) (by decide +kernel)
theorem gw_55 : (.methodLink "Bijectory$Orders" 40 yX2_drops : Cond) ∈ kG := kG_of (List.mem_of_getElem? (i := 322) (by decide +kernel)) (by decide +kernel)
theorem gw_56 : (.static yX2_drops : Cond) ∈ kG := kG_of (List.mem_of_getElem? (i := 323) (by decide +kernel)) (by decide +kernel)
theorem gw_57 : (.code yX2_inversions cX2_inversions 5 (some .int) : Cond) ∈ kG := kG_of (List.mem_of_getElem? (i := 327) (by decide +kernel)) (by decide +kernel)
theorem gw_58 : (.methodLink "Bijectory$Orders" 43 yX2_inversions : Cond) ∈ kG := kG_of (List.mem_of_getElem? (i := 325) (by decide +kernel)) (by decide +kernel)
theorem gw_59 : (.static yX2_inversions : Cond) ∈ kG := kG_of (List.mem_of_getElem? (i := 326) (by decide +kernel)) (by decide +kernel)
theorem gw_60 : (.code yX2_records cX2_records 6 (some .int) : Cond) ∈ kG := kG_of (List.mem_of_getElem? (i := 330) (by decide +kernel)) (by decide +kernel)
theorem gw_61 : (.methodLink "Bijectory$Orders" 46 yX2_records : Cond) ∈ kG := kG_of (List.mem_of_getElem? (i := 328) (by decide +kernel)) (by decide +kernel)
theorem gw_62 : (.static yX2_records : Cond) ∈ kG := kG_of (List.mem_of_getElem? (i := 329) (by decide +kernel)) (by decide +kernel)
theorem gw_63 : (.code yX2_unmoved cX2_unmoved 4 (some .int) : Cond) ∈ kG := kG_of (List.mem_of_getElem? (i := 333) (by decide +kernel)) (by decide +kernel)
theorem gw_64 : (.methodLink "Bijectory$Orders" 49 yX2_unmoved : Cond) ∈ kG := kG_of (List.mem_of_getElem? (i := 331) (by decide +kernel)) (by decide +kernel)
theorem gw_65 : (.static yX2_unmoved : Cond) ∈ kG := kG_of (List.mem_of_getElem? (i := 332) (by decide +kernel)) (by decide +kernel)
theorem gw_66 : (.code yJ6_bitCount_0f7a4 cJ6_bitCount_0f7a4 1 (some .int) : Cond) ∈ kG := kG_of (List.mem_of_getElem? (i := 885) (by decide +kernel)) (by decide +kernel)
theorem gw_67 : (.methodLink "Bijectory$Orders" 52 yJ6_bitCount_0f7a4 : Cond) ∈ kG := kG_of (List.mem_of_getElem? (i := 883) (by decide +kernel)) (by decide +kernel)
theorem gw_68 : (.static yJ6_bitCount_0f7a4 : Cond) ∈ kG := kG_of (List.mem_of_getElem? (i := 884) (by decide +kernel)) (by decide +kernel)
theorem gw_69 : (.initialized "java/lang/Integer" : Cond) ∈ kG := kG_of (List.mem_of_getElem? (i := 85) (by decide +kernel)) (by decide +kernel)
theorem gw_70 : (.code yX2_chosen cX2_chosen 5 (some .int) : Cond) ∈ kG := kG_of (List.mem_of_getElem? (i := 891) (by decide +kernel)) (by decide +kernel)
theorem gw_71 : (.methodLink "Bijectory$Orders" 58 yX2_chosen : Cond) ∈ kG := kG_of (List.mem_of_getElem? (i := 889) (by decide +kernel)) (by decide +kernel)
theorem gw_72 : (.static yX2_chosen : Cond) ∈ kG := kG_of (List.mem_of_getElem? (i := 890) (by decide +kernel)) (by decide +kernel)
theorem gw_73 : (.code yX2_patternOf cX2_patternOf 6 (some .int) : Cond) ∈ kG := kG_of (List.mem_of_getElem? (i := 894) (by decide +kernel)) (by decide +kernel)
theorem gw_74 : (.methodLink "Bijectory$Orders" 61 yX2_patternOf : Cond) ∈ kG := kG_of (List.mem_of_getElem? (i := 892) (by decide +kernel)) (by decide +kernel)
theorem gw_75 : (.static yX2_patternOf : Cond) ∈ kG := kG_of (List.mem_of_getElem? (i := 893) (by decide +kernel)) (by decide +kernel)
theorem gw_76 : (.methodLink "Bijectory$Trees" 9 yX3_part : Cond) ∈ kG := kG_of (List.mem_of_getElem? (i := 243) (by decide +kernel)) (by decide +kernel)
theorem gw_77 : (.methodLink "Bijectory$Trees" 15 yX3_pairsOfFirst : Cond) ∈ kG := kG_of (List.mem_of_getElem? (i := 237) (by decide +kernel)) (by decide +kernel)
theorem gw_78 : (.code yX7_leftOf cX7_leftOf 3 (some .int) : Cond) ∈ kG := kG_of (List.mem_of_getElem? (i := 242) (by decide +kernel)) (by decide +kernel)
theorem gw_79 : (.methodLink "Bijectory$Trees" 19 yX7_leftOf : Cond) ∈ kG := kG_of (List.mem_of_getElem? (i := 240) (by decide +kernel)) (by decide +kernel)
theorem gw_80 : (.static yX7_leftOf : Cond) ∈ kG := kG_of (List.mem_of_getElem? (i := 241) (by decide +kernel)) (by decide +kernel)
theorem gw_81 : (.code yX7_mirror cX7_mirror 6 (some .int) : Cond) ∈ kG := kG_of (List.mem_of_getElem? (i := 236) (by decide +kernel)) (by decide +kernel)
theorem gw_82 : (.methodLink "Bijectory$Trees" 24 yX7_mirror : Cond) ∈ kG := kG_of (List.mem_of_getElem? (i := 244) (by decide +kernel)) (by decide +kernel)
theorem gw_83 : (.static yX7_mirror : Cond) ∈ kG := kG_of (List.mem_of_getElem? (i := 235) (by decide +kernel)) (by decide +kernel)
theorem gw_84 : (.code yX7_rightOf cX7_rightOf 2 (some .int) : Cond) ∈ kG := kG_of (List.mem_of_getElem? (i := 247) (by decide +kernel)) (by decide +kernel)
theorem gw_85 : (.methodLink "Bijectory$Trees" 27 yX7_rightOf : Cond) ∈ kG := kG_of (List.mem_of_getElem? (i := 245) (by decide +kernel)) (by decide +kernel)
theorem gw_86 : (.static yX7_rightOf : Cond) ∈ kG := kG_of (List.mem_of_getElem? (i := 246) (by decide +kernel)) (by decide +kernel)
theorem gw_87 : (.methodLink "Bijectory$Trees" 30 yX7_node : Cond) ∈ kG := kG_of (List.mem_of_getElem? (i := 248) (by decide +kernel)) (by decide +kernel)
theorem gw_88 : (.code yX7_label cX7_label 7 (some .int) : Cond) ∈ kG := kG_of (List.mem_of_getElem? (i := 261) (by decide +kernel)) (by decide +kernel)
theorem gw_89 : (.methodLink "Bijectory$Trees" 34 yX7_label : Cond) ∈ kG := kG_of (List.mem_of_getElem? (i := 262) (by decide +kernel)) (by decide +kernel)
theorem gw_90 : (.static yX7_label : Cond) ∈ kG := kG_of (List.mem_of_getElem? (i := 260) (by decide +kernel)) (by decide +kernel)
theorem gw_91 : (.methodLink "Bijectory$Trees" 41 yX5_at : Cond) ∈ kG := kG_of (List.mem_of_getElem? (i := 265) (by decide +kernel)) (by decide +kernel)
theorem gw_92 : (.code yX7_valueOf cX7_valueOf 7 (some .int) : Cond) ∈ kG := kG_of (List.mem_of_getElem? (i := 316) (by decide +kernel)) (by decide +kernel)
theorem gw_93 : (.methodLink "Bijectory$Trees" 47 yX7_valueOf : Cond) ∈ kG := kG_of (List.mem_of_getElem? (i := 317) (by decide +kernel)) (by decide +kernel)
theorem gw_94 : (.static yX7_valueOf : Cond) ∈ kG := kG_of (List.mem_of_getElem? (i := 315) (by decide +kernel)) (by decide +kernel)
theorem gw_95 : (.methodLink "Bijectory$Trees" 50 Lib.Math.max.name : Cond) ∈ kG := kG_of (List.mem_of_getElem? (i := 318) (by decide +kernel)) (by decide +kernel)
theorem gw_96 : (.constant "java/lang/Integer" 265 (1431655765) : Cond) ∈ kG := kG_of (List.mem_of_getElem? (i := 886) (by decide +kernel)) (by decide +kernel)
theorem gw_97 : (.constant "java/lang/Integer" 266 (858993459) : Cond) ∈ kG := kG_of (List.mem_of_getElem? (i := 887) (by decide +kernel)) (by decide +kernel)
theorem gw_98 : (.constant "java/lang/Integer" 267 (252645135) : Cond) ∈ kG := kG_of (List.mem_of_getElem? (i := 888) (by decide +kernel)) (by decide +kernel)
theorem gw_99 : (.methodLink "Bijectory$Realm" 3 Lib.objectInit : Cond) ∈ kG := kG_of (List.mem_of_getElem? (i := 144) (by decide +kernel)) (by decide +kernel)
theorem gw_100 : (.instanceMethod Lib.objectInit : Cond) ∈ kG := kG_of (List.mem_of_getElem? (i := 103) (by decide +kernel)) (by decide +kernel)
theorem gw_101 : (.code Lib.objectInit ⟨#[0xb1]⟩ 1 none : Cond) ∈ kG := kG_of (List.mem_of_getElem? (i := 104) (by decide +kernel)) (by decide +kernel)
theorem gw_102 : (.methodLink "Bijectory$Realm" 13 yX5_at : Cond) ∈ kG := kG_of (List.mem_of_getElem? (i := 147) (by decide +kernel)) (by decide +kernel)
theorem gw_103 : (.methodLink "Bijectory$Realm" 19 Lib.Math.max.name : Cond) ∈ kG := kG_of (List.mem_of_getElem? (i := 148) (by decide +kernel)) (by decide +kernel)
theorem gw_104 : (.fieldLink "Bijectory$Realm" 28 "Bijectory$Realm" "size" "I" : Cond) ∈ kG := kG_of (List.mem_of_getElem? (i := 152) (by decide +kernel)) (by decide +kernel)
theorem gw_105 : (.arrayClass .int : Cond) ∈ kG := kG_of (List.mem_of_getElem? (i := 128) (by decide +kernel)) (by decide +kernel)
theorem gw_106 : (.fieldLink "Bijectory$Realm" 34 "Bijectory$Realm" "paths" "[I" : Cond) ∈ kG := kG_of (List.mem_of_getElem? (i := 155) (by decide +kernel)) (by decide +kernel)
theorem gw_107 : (.fieldLink "Bijectory$Realm" 37 "Bijectory$Realm" "orders" "[I" : Cond) ∈ kG := kG_of (List.mem_of_getElem? (i := 156) (by decide +kernel)) (by decide +kernel)
theorem gw_108 : (.classLink "Bijectory$Realm" 40 "[[I" : Cond) ∈ kG := kG_of (List.mem_of_getElem? (i := 150) (by decide +kernel)) (by decide +kernel)
theorem gw_109 : (.fieldLink "Bijectory$Realm" 42 "Bijectory$Realm" "images" "[[I" : Cond) ∈ kG := kG_of (List.mem_of_getElem? (i := 157) (by decide +kernel)) (by decide +kernel)
theorem gw_110 : (.fieldLink "Bijectory$Realm" 45 "Bijectory$Realm" "values" "[[I" : Cond) ∈ kG := kG_of (List.mem_of_getElem? (i := 158) (by decide +kernel)) (by decide +kernel)
theorem gw_111 : (.fieldLink "Bijectory$Realm" 48 "Bijectory$Realm" "counts" "[[I" : Cond) ∈ kG := kG_of (List.mem_of_getElem? (i := 159) (by decide +kernel)) (by decide +kernel)
theorem gw_112 : (.classLink "Bijectory$Realm" 29 "Bijectory$Realm" : Cond) ∈ kG := kG_of (List.mem_of_getElem? (i := 139) (by decide +kernel)) (by decide +kernel)
theorem gw_113 : (.instantiable "Bijectory$Realm" 6 : Cond) ∈ kG := kG_of (List.mem_of_getElem? (i := 140) (by decide +kernel)) (by decide +kernel)
theorem gw_114 : (.initialized "Bijectory$Realm" : Cond) ∈ kG := kG_of (List.mem_of_getElem? (i := 69) (by decide +kernel)) (by decide +kernel)
theorem gw_115 : (.code yX4_init cX4_init 4 none : Cond) ∈ kG := kG_of (List.mem_of_getElem? (i := 143) (by decide +kernel)) (by decide +kernel)
theorem gw_116 : (.methodLink "Bijectory$Realm" 51 yX4_init : Cond) ∈ kG := kG_of (List.mem_of_getElem? (i := 141) (by decide +kernel)) (by decide +kernel)
theorem gw_117 : (.instanceMethod yX4_init : Cond) ∈ kG := kG_of (List.mem_of_getElem? (i := 142) (by decide +kernel)) (by decide +kernel)
theorem gw_118 : (.code yX4_listPaths cX4_listPaths 3 none : Cond) ∈ kG := kG_of (List.mem_of_getElem? (i := 176) (by decide +kernel)) (by decide +kernel)
theorem gw_119 : (.methodLink "Bijectory$Realm" 54 yX4_listPaths : Cond) ∈ kG := kG_of (List.mem_of_getElem? (i := 173) (by decide +kernel)) (by decide +kernel)
theorem gw_120 : (.instanceMethod yX4_listPaths : Cond) ∈ kG := kG_of (List.mem_of_getElem? (i := 175) (by decide +kernel)) (by decide +kernel)
theorem gw_121 : (.selects "Bijectory$Realm" yX4_listPaths yX4_listPaths : Cond) ∈ kG := kG_of (List.mem_of_getElem? (i := 0) (by decide +kernel)) (by decide +kernel)
theorem gw_122 : (.code yX4_listOrders cX4_listOrders 2 none : Cond) ∈ kG := kG_of (List.mem_of_getElem? (i := 189) (by decide +kernel)) (by decide +kernel)
theorem gw_123 : (.methodLink "Bijectory$Realm" 57 yX4_listOrders : Cond) ∈ kG := kG_of (List.mem_of_getElem? (i := 186) (by decide +kernel)) (by decide +kernel)
theorem gw_124 : (.instanceMethod yX4_listOrders : Cond) ∈ kG := kG_of (List.mem_of_getElem? (i := 188) (by decide +kernel)) (by decide +kernel)
theorem gw_125 : (.selects "Bijectory$Realm" yX4_listOrders yX4_listOrders : Cond) ∈ kG := kG_of (List.mem_of_getElem? (i := 1) (by decide +kernel)) (by decide +kernel)
theorem gw_126 : (.code yX4_listImages cX4_listImages 5 none : Cond) ∈ kG := kG_of (List.mem_of_getElem? (i := 201) (by decide +kernel)) (by decide +kernel)
theorem gw_127 : (.methodLink "Bijectory$Realm" 60 yX4_listImages : Cond) ∈ kG := kG_of (List.mem_of_getElem? (i := 198) (by decide +kernel)) (by decide +kernel)
theorem gw_128 : (.instanceMethod yX4_listImages : Cond) ∈ kG := kG_of (List.mem_of_getElem? (i := 200) (by decide +kernel)) (by decide +kernel)
theorem gw_129 : (.selects "Bijectory$Realm" yX4_listImages yX4_listImages : Cond) ∈ kG := kG_of (List.mem_of_getElem? (i := 2) (by decide +kernel)) (by decide +kernel)
theorem gw_130 : (.code yX4_listValues cX4_listValues 6 none : Cond) ∈ kG := kG_of (List.mem_of_getElem? (i := 294) (by decide +kernel)) (by decide +kernel)
theorem gw_131 : (.methodLink "Bijectory$Realm" 63 yX4_listValues : Cond) ∈ kG := kG_of (List.mem_of_getElem? (i := 291) (by decide +kernel)) (by decide +kernel)
theorem gw_132 : (.instanceMethod yX4_listValues : Cond) ∈ kG := kG_of (List.mem_of_getElem? (i := 293) (by decide +kernel)) (by decide +kernel)
theorem gw_133 : (.selects "Bijectory$Realm" yX4_listValues yX4_listValues : Cond) ∈ kG := kG_of (List.mem_of_getElem? (i := 4) (by decide +kernel)) (by decide +kernel)
theorem gw_134 : (.code yX3_isPath cX3_isPath 4 (some .boolean) : Cond) ∈ kG := kG_of (List.mem_of_getElem? (i := 179) (by decide +kernel)) (by decide +kernel)
theorem gw_135 : (.methodLink "Bijectory$Realm" 67 yX3_isPath : Cond) ∈ kG := kG_of (List.mem_of_getElem? (i := 177) (by decide +kernel)) (by decide +kernel)
theorem gw_136 : (.static yX3_isPath : Cond) ∈ kG := kG_of (List.mem_of_getElem? (i := 178) (by decide +kernel)) (by decide +kernel)
theorem gw_137 : (.code yX5_put cX5_put 3 none : Cond) ∈ kG := kG_of (List.mem_of_getElem? (i := 185) (by decide +kernel)) (by decide +kernel)
theorem gw_138 : (.methodLink "Bijectory$Realm" 73 yX5_put : Cond) ∈ kG := kG_of (List.mem_of_getElem? (i := 183) (by decide +kernel)) (by decide +kernel)
theorem gw_139 : (.static yX5_put : Cond) ∈ kG := kG_of (List.mem_of_getElem? (i := 184) (by decide +kernel)) (by decide +kernel)
theorem gw_140 : (.code yX2_ofRank cX2_ofRank 8 (some .int) : Cond) ∈ kG := kG_of (List.mem_of_getElem? (i := 192) (by decide +kernel)) (by decide +kernel)
theorem gw_141 : (.methodLink "Bijectory$Realm" 77 yX2_ofRank : Cond) ∈ kG := kG_of (List.mem_of_getElem? (i := 190) (by decide +kernel)) (by decide +kernel)
theorem gw_142 : (.static yX2_ofRank : Cond) ∈ kG := kG_of (List.mem_of_getElem? (i := 191) (by decide +kernel)) (by decide +kernel)
theorem gw_143 : (.code yX4_count cX4_count 2 (some .int) : Cond) ∈ kG := kG_of (List.mem_of_getElem? (i := 209) (by decide +kernel)) (by decide +kernel)
theorem gw_144 : (.methodLink "Bijectory$Realm" 88 yX4_count : Cond) ∈ kG := kG_of (List.mem_of_getElem? (i := 206) (by decide +kernel)) (by decide +kernel)
theorem gw_145 : (.instanceMethod yX4_count : Cond) ∈ kG := kG_of (List.mem_of_getElem? (i := 207) (by decide +kernel)) (by decide +kernel)
theorem gw_146 : (.selects "Bijectory$Realm" yX4_count yX4_count : Cond) ∈ kG := kG_of (List.mem_of_getElem? (i := 208) (by decide +kernel)) (by decide +kernel)
theorem gw_147 : (.code yX4_codeOf cX4_codeOf 3 (some .int) : Cond) ∈ kG := kG_of (List.mem_of_getElem? (i := 217) (by decide +kernel)) (by decide +kernel)
theorem gw_148 : (.methodLink "Bijectory$Realm" 92 yX4_codeOf : Cond) ∈ kG := kG_of (List.mem_of_getElem? (i := 214) (by decide +kernel)) (by decide +kernel)
theorem gw_149 : (.instanceMethod yX4_codeOf : Cond) ∈ kG := kG_of (List.mem_of_getElem? (i := 215) (by decide +kernel)) (by decide +kernel)
theorem gw_150 : (.selects "Bijectory$Realm" yX4_codeOf yX4_codeOf : Cond) ∈ kG := kG_of (List.mem_of_getElem? (i := 216) (by decide +kernel)) (by decide +kernel)
theorem gw_151 : (.code yX4_imageCode cX4_imageCode 3 (some .int) : Cond) ∈ kG := kG_of (List.mem_of_getElem? (i := 220) (by decide +kernel)) (by decide +kernel)
theorem gw_152 : (.methodLink "Bijectory$Realm" 95 yX4_imageCode : Cond) ∈ kG := kG_of (List.mem_of_getElem? (i := 218) (by decide +kernel)) (by decide +kernel)
theorem gw_153 : (.static yX4_imageCode : Cond) ∈ kG := kG_of (List.mem_of_getElem? (i := 219) (by decide +kernel)) (by decide +kernel)
theorem gw_154 : (.code yX4_rankOf cX4_rankOf 6 (some .int) : Cond) ∈ kG := kG_of (List.mem_of_getElem? (i := 287) (by decide +kernel)) (by decide +kernel)
theorem gw_155 : (.methodLink "Bijectory$Realm" 99 yX4_rankOf : Cond) ∈ kG := kG_of (List.mem_of_getElem? (i := 284) (by decide +kernel)) (by decide +kernel)
theorem gw_156 : (.instanceMethod yX4_rankOf : Cond) ∈ kG := kG_of (List.mem_of_getElem? (i := 285) (by decide +kernel)) (by decide +kernel)
theorem gw_157 : (.selects "Bijectory$Realm" yX4_rankOf yX4_rankOf : Cond) ∈ kG := kG_of (List.mem_of_getElem? (i := 286) (by decide +kernel)) (by decide +kernel)
theorem gw_158 : (.code yX5_put_ cX5_put_ 5 none : Cond) ∈ kG := kG_of (List.mem_of_getElem? (i := 290) (by decide +kernel)) (by decide +kernel)
theorem gw_159 : (.methodLink "Bijectory$Realm" 102 yX5_put_ : Cond) ∈ kG := kG_of (List.mem_of_getElem? (i := 288) (by decide +kernel)) (by decide +kernel)
theorem gw_160 : (.static yX5_put_ : Cond) ∈ kG := kG_of (List.mem_of_getElem? (i := 289) (by decide +kernel)) (by decide +kernel)
theorem gw_161 : (.code yX4_valueByCode cX4_valueByCode 4 (some .int) : Cond) ∈ kG := kG_of (List.mem_of_getElem? (i := 297) (by decide +kernel)) (by decide +kernel)
theorem gw_162 : (.methodLink "Bijectory$Realm" 105 yX4_valueByCode : Cond) ∈ kG := kG_of (List.mem_of_getElem? (i := 295) (by decide +kernel)) (by decide +kernel)
theorem gw_163 : (.static yX4_valueByCode : Cond) ∈ kG := kG_of (List.mem_of_getElem? (i := 296) (by decide +kernel)) (by decide +kernel)
theorem gw_164 : (.code yX5_at_ cX5_at_ 4 (some .int) : Cond) ∈ kG := kG_of (List.mem_of_getElem? (i := 336) (by decide +kernel)) (by decide +kernel)
theorem gw_165 : (.methodLink "Bijectory$Realm" 109 yX5_at_ : Cond) ∈ kG := kG_of (List.mem_of_getElem? (i := 334) (by decide +kernel)) (by decide +kernel)
theorem gw_166 : (.static yX5_at_ : Cond) ∈ kG := kG_of (List.mem_of_getElem? (i := 335) (by decide +kernel)) (by decide +kernel)
theorem gw_167 : (.code yX3_backward cX3_backward 4 (some .int) : Cond) ∈ kG := kG_of (List.mem_of_getElem? (i := 251) (by decide +kernel)) (by decide +kernel)
theorem gw_168 : (.methodLink "Bijectory$Realm" 120 yX3_backward : Cond) ∈ kG := kG_of (List.mem_of_getElem? (i := 249) (by decide +kernel)) (by decide +kernel)
theorem gw_169 : (.static yX3_backward : Cond) ∈ kG := kG_of (List.mem_of_getElem? (i := 250) (by decide +kernel)) (by decide +kernel)
theorem gw_170 : (.code yX3_roll cX3_roll 6 (some .int) : Cond) ∈ kG := kG_of (List.mem_of_getElem? (i := 257) (by decide +kernel)) (by decide +kernel)
theorem gw_171 : (.methodLink "Bijectory$Realm" 123 yX3_roll : Cond) ∈ kG := kG_of (List.mem_of_getElem? (i := 255) (by decide +kernel)) (by decide +kernel)
theorem gw_172 : (.static yX3_roll : Cond) ∈ kG := kG_of (List.mem_of_getElem? (i := 256) (by decide +kernel)) (by decide +kernel)
theorem gw_173 : (.code yX2_invert cX2_invert 4 (some .int) : Cond) ∈ kG := kG_of (List.mem_of_getElem? (i := 276) (by decide +kernel)) (by decide +kernel)
theorem gw_174 : (.methodLink "Bijectory$Realm" 132 yX2_invert : Cond) ∈ kG := kG_of (List.mem_of_getElem? (i := 274) (by decide +kernel)) (by decide +kernel)
theorem gw_175 : (.static yX2_invert : Cond) ∈ kG := kG_of (List.mem_of_getElem? (i := 275) (by decide +kernel)) (by decide +kernel)
theorem gw_176 : (.code yX2_turn cX2_turn 5 (some .int) : Cond) ∈ kG := kG_of (List.mem_of_getElem? (i := 280) (by decide +kernel)) (by decide +kernel)
theorem gw_177 : (.methodLink "Bijectory$Realm" 135 yX2_turn : Cond) ∈ kG := kG_of (List.mem_of_getElem? (i := 278) (by decide +kernel)) (by decide +kernel)
theorem gw_178 : (.static yX2_turn : Cond) ∈ kG := kG_of (List.mem_of_getElem? (i := 279) (by decide +kernel)) (by decide +kernel)
theorem gw_179 : (.code yX2_sort cX2_sort 6 (some .int) : Cond) ∈ kG := kG_of (List.mem_of_getElem? (i := 283) (by decide +kernel)) (by decide +kernel)
theorem gw_180 : (.methodLink "Bijectory$Realm" 138 yX2_sort : Cond) ∈ kG := kG_of (List.mem_of_getElem? (i := 281) (by decide +kernel)) (by decide +kernel)
theorem gw_181 : (.static yX2_sort : Cond) ∈ kG := kG_of (List.mem_of_getElem? (i := 282) (by decide +kernel)) (by decide +kernel)
theorem gw_182 : (.code yX3_valueOf cX3_valueOf 3 (some .int) : Cond) ∈ kG := kG_of (List.mem_of_getElem? (i := 300) (by decide +kernel)) (by decide +kernel)
theorem gw_183 : (.methodLink "Bijectory$Realm" 141 yX3_valueOf : Cond) ∈ kG := kG_of (List.mem_of_getElem? (i := 298) (by decide +kernel)) (by decide +kernel)
theorem gw_184 : (.static yX3_valueOf : Cond) ∈ kG := kG_of (List.mem_of_getElem? (i := 299) (by decide +kernel)) (by decide +kernel)
theorem gw_185 : (.code yX2_valueOf cX2_valueOf 3 (some .int) : Cond) ∈ kG := kG_of (List.mem_of_getElem? (i := 321) (by decide +kernel)) (by decide +kernel)
theorem gw_186 : (.methodLink "Bijectory$Realm" 145 yX2_valueOf : Cond) ∈ kG := kG_of (List.mem_of_getElem? (i := 319) (by decide +kernel)) (by decide +kernel)
theorem gw_187 : (.static yX2_valueOf : Cond) ∈ kG := kG_of (List.mem_of_getElem? (i := 320) (by decide +kernel)) (by decide +kernel)
theorem gw_188 : (.code yX4_codes cX4_codes 2 (some (.array .int)) : Cond) ∈ kG := kG_of (List.mem_of_getElem? (i := 213) (by decide +kernel)) (by decide +kernel)
theorem gw_189 : (.methodLink "Bijectory$Realm" 146 yX4_codes : Cond) ∈ kG := kG_of (List.mem_of_getElem? (i := 210) (by decide +kernel)) (by decide +kernel)
theorem gw_190 : (.instanceMethod yX4_codes : Cond) ∈ kG := kG_of (List.mem_of_getElem? (i := 212) (by decide +kernel)) (by decide +kernel)
theorem gw_191 : (.selects "Bijectory$Realm" yX4_codes yX4_codes : Cond) ∈ kG := kG_of (List.mem_of_getElem? (i := 3) (by decide +kernel)) (by decide +kernel)
theorem gw_192 : (.fieldLink "Bijectory$Realm" 150 "Bijectory$Chart" "length" "I" : Cond) ∈ kG := kG_of (List.mem_of_getElem? (i := 669) (by decide +kernel)) (by decide +kernel)
theorem gw_193 : (.code yX0_stepAt cX0_stepAt 2 (some .int) : Cond) ∈ kG := kG_of (List.mem_of_getElem? (i := 527) (by decide +kernel)) (by decide +kernel)
theorem gw_194 : (.methodLink "Bijectory$Realm" 155 yX0_stepAt : Cond) ∈ kG := kG_of (List.mem_of_getElem? (i := 524) (by decide +kernel)) (by decide +kernel)
theorem gw_195 : (.instanceMethod yX0_stepAt : Cond) ∈ kG := kG_of (List.mem_of_getElem? (i := 525) (by decide +kernel)) (by decide +kernel)
theorem gw_196 : (.selects "Bijectory$Chart" yX0_stepAt yX0_stepAt : Cond) ∈ kG := kG_of (List.mem_of_getElem? (i := 526) (by decide +kernel)) (by decide +kernel)
theorem gw_197 : (.initialized "Bijectory$Chart" : Cond) ∈ kG := kG_of (List.mem_of_getElem? (i := 83) (by decide +kernel)) (by decide +kernel)
theorem gw_198 : (.methodLink "Bijectory$Chart" 3 Lib.objectInit : Cond) ∈ kG := kG_of (List.mem_of_getElem? (i := 656) (by decide +kernel)) (by decide +kernel)
theorem gw_199 : (.fieldLink "Bijectory$Chart" 9 "Bijectory$Chart" "steps" "[I" : Cond) ∈ kG := kG_of (List.mem_of_getElem? (i := 666) (by decide +kernel)) (by decide +kernel)
theorem gw_200 : (.methodLink "Bijectory$Chart" 15 yX5_put : Cond) ∈ kG := kG_of (List.mem_of_getElem? (i := 657) (by decide +kernel)) (by decide +kernel)
theorem gw_201 : (.fieldLink "Bijectory$Chart" 21 "Bijectory$Chart" "length" "I" : Cond) ∈ kG := kG_of (List.mem_of_getElem? (i := 667) (by decide +kernel)) (by decide +kernel)
theorem gw_202 : (.methodLink "Bijectory$Chart" 28 yX5_at : Cond) ∈ kG := kG_of (List.mem_of_getElem? (i := 659) (by decide +kernel)) (by decide +kernel)
theorem gw_203 : (.fieldLink "Bijectory$Chart" 32 "Bijectory$Chart" "from" "I" : Cond) ∈ kG := kG_of (List.mem_of_getElem? (i := 661) (by decide +kernel)) (by decide +kernel)
theorem gw_204 : (.fieldLink "Bijectory$Chart" 38 "Bijectory$Chart" "to" "I" : Cond) ∈ kG := kG_of (List.mem_of_getElem? (i := 664) (by decide +kernel)) (by decide +kernel)
theorem gw_205 : (.fieldLink "Bijectory$Chart" 41 "Bijectory$Chart" "surveyed" "I" : Cond) ∈ kG := kG_of (List.mem_of_getElem? (i := 672) (by decide +kernel)) (by decide +kernel)
theorem gw_206 : (.methodLink "Bijectory$Survey" 3 Lib.objectInit : Cond) ∈ kG := kG_of (List.mem_of_getElem? (i := 112) (by decide +kernel)) (by decide +kernel)
theorem gw_207 : (.methodLink "Bijectory$Survey" 13 yX5_at : Cond) ∈ kG := kG_of (List.mem_of_getElem? (i := 115) (by decide +kernel)) (by decide +kernel)
theorem gw_208 : (.methodLink "Bijectory$Survey" 19 Lib.Math.max.name : Cond) ∈ kG := kG_of (List.mem_of_getElem? (i := 118) (by decide +kernel)) (by decide +kernel)
theorem gw_209 : (.fieldLink "Bijectory$Survey" 25 "Bijectory$Survey" "ends" "[I" : Cond) ∈ kG := kG_of (List.mem_of_getElem? (i := 121) (by decide +kernel)) (by decide +kernel)
theorem gw_210 : (.arrayClass .boolean : Cond) ∈ kG := kG_of (List.mem_of_getElem? (i := 129) (by decide +kernel)) (by decide +kernel)
theorem gw_211 : (.fieldLink "Bijectory$Survey" 30 "Bijectory$Survey" "met" "[Z" : Cond) ∈ kG := kG_of (List.mem_of_getElem? (i := 122) (by decide +kernel)) (by decide +kernel)
theorem gw_212 : (.fieldLink "Bijectory$Survey" 34 "Bijectory$Chart" "surveyed" "I" : Cond) ∈ kG := kG_of (List.mem_of_getElem? (i := 671) (by decide +kernel)) (by decide +kernel)
theorem gw_213 : (.fieldLink "Bijectory$Survey" 40 "Bijectory$Realm" "size" "I" : Cond) ∈ kG := kG_of (List.mem_of_getElem? (i := 153) (by decide +kernel)) (by decide +kernel)
theorem gw_214 : (.fieldLink "Bijectory$Survey" 45 "Bijectory$Chart" "from" "I" : Cond) ∈ kG := kG_of (List.mem_of_getElem? (i := 662) (by decide +kernel)) (by decide +kernel)
theorem gw_215 : (.methodLink "Bijectory$Survey" 48 yX4_count : Cond) ∈ kG := kG_of (List.mem_of_getElem? (i := 519) (by decide +kernel)) (by decide +kernel)
theorem gw_216 : (.code yX4_through cX4_through 5 (some .int) : Cond) ∈ kG := kG_of (List.mem_of_getElem? (i := 523) (by decide +kernel)) (by decide +kernel)
theorem gw_217 : (.methodLink "Bijectory$Survey" 52 yX4_through : Cond) ∈ kG := kG_of (List.mem_of_getElem? (i := 520) (by decide +kernel)) (by decide +kernel)
theorem gw_218 : (.instanceMethod yX4_through : Cond) ∈ kG := kG_of (List.mem_of_getElem? (i := 521) (by decide +kernel)) (by decide +kernel)
theorem gw_219 : (.selects "Bijectory$Realm" yX4_through yX4_through : Cond) ∈ kG := kG_of (List.mem_of_getElem? (i := 522) (by decide +kernel)) (by decide +kernel)
theorem gw_220 : (.methodLink "Bijectory$Survey" 56 yX5_put : Cond) ∈ kG := kG_of (List.mem_of_getElem? (i := 528) (by decide +kernel)) (by decide +kernel)
theorem gw_221 : (.code yX6_countDistinct cX6_countDistinct 4 (some .int) : Cond) ∈ kG := kG_of (List.mem_of_getElem? (i := 532) (by decide +kernel)) (by decide +kernel)
theorem gw_222 : (.methodLink "Bijectory$Survey" 60 yX6_countDistinct : Cond) ∈ kG := kG_of (List.mem_of_getElem? (i := 529) (by decide +kernel)) (by decide +kernel)
theorem gw_223 : (.instanceMethod yX6_countDistinct : Cond) ∈ kG := kG_of (List.mem_of_getElem? (i := 531) (by decide +kernel)) (by decide +kernel)
theorem gw_224 : (.selects "Bijectory$Survey" yX6_countDistinct yX6_countDistinct : Cond) ∈ kG := kG_of (List.mem_of_getElem? (i := 11) (by decide +kernel)) (by decide +kernel)
theorem gw_225 : (.initialized "Bijectory$Survey" : Cond) ∈ kG := kG_of (List.mem_of_getElem? (i := 66) (by decide +kernel)) (by decide +kernel)
theorem gw_226 : (.fieldLink "Bijectory$Survey" 63 "Bijectory$Chart" "distinct" "I" : Cond) ∈ kG := kG_of (List.mem_of_getElem? (i := 673) (by decide +kernel)) (by decide +kernel)
theorem gw_227 : (.code yX0_isMove cX0_isMove 1 (some .boolean) : Cond) ∈ kG := kG_of (List.mem_of_getElem? (i := 544) (by decide +kernel)) (by decide +kernel)
theorem gw_228 : (.methodLink "Bijectory$Survey" 66 yX0_isMove : Cond) ∈ kG := kG_of (List.mem_of_getElem? (i := 541) (by decide +kernel)) (by decide +kernel)
theorem gw_229 : (.instanceMethod yX0_isMove : Cond) ∈ kG := kG_of (List.mem_of_getElem? (i := 542) (by decide +kernel)) (by decide +kernel)
theorem gw_230 : (.selects "Bijectory$Chart" yX0_isMove yX0_isMove : Cond) ∈ kG := kG_of (List.mem_of_getElem? (i := 543) (by decide +kernel)) (by decide +kernel)
theorem gw_231 : (.code yX6_countUnmoved cX6_countUnmoved 4 (some .int) : Cond) ∈ kG := kG_of (List.mem_of_getElem? (i := 548) (by decide +kernel)) (by decide +kernel)
theorem gw_232 : (.methodLink "Bijectory$Survey" 70 yX6_countUnmoved : Cond) ∈ kG := kG_of (List.mem_of_getElem? (i := 545) (by decide +kernel)) (by decide +kernel)
theorem gw_233 : (.instanceMethod yX6_countUnmoved : Cond) ∈ kG := kG_of (List.mem_of_getElem? (i := 547) (by decide +kernel)) (by decide +kernel)
theorem gw_234 : (.selects "Bijectory$Survey" yX6_countUnmoved yX6_countUnmoved : Cond) ∈ kG := kG_of (List.mem_of_getElem? (i := 14) (by decide +kernel)) (by decide +kernel)
theorem gw_235 : (.fieldLink "Bijectory$Survey" 73 "Bijectory$Chart" "unmoved" "I" : Cond) ∈ kG := kG_of (List.mem_of_getElem? (i := 675) (by decide +kernel)) (by decide +kernel)
theorem gw_236 : (.fieldLink "Bijectory$Survey" 76 "Bijectory$Chart" "rounds" "I" : Cond) ∈ kG := kG_of (List.mem_of_getElem? (i := 677) (by decide +kernel)) (by decide +kernel)
theorem gw_237 : (.constantLong "Bijectory$Survey" 79 (-1) : Cond) ∈ kG := kG_of (List.mem_of_getElem? (i := 549) (by decide +kernel)) (by decide +kernel)
theorem gw_238 : (.fieldLink "Bijectory$Survey" 81 "Bijectory$Chart" "period" "J" : Cond) ∈ kG := kG_of (List.mem_of_getElem? (i := 679) (by decide +kernel)) (by decide +kernel)
theorem gw_239 : (.code yX6_followRounds cX6_followRounds 5 none : Cond) ∈ kG := kG_of (List.mem_of_getElem? (i := 553) (by decide +kernel)) (by decide +kernel)
theorem gw_240 : (.methodLink "Bijectory$Survey" 85 yX6_followRounds : Cond) ∈ kG := kG_of (List.mem_of_getElem? (i := 550) (by decide +kernel)) (by decide +kernel)
theorem gw_241 : (.instanceMethod yX6_followRounds : Cond) ∈ kG := kG_of (List.mem_of_getElem? (i := 552) (by decide +kernel)) (by decide +kernel)
theorem gw_242 : (.selects "Bijectory$Survey" yX6_followRounds yX6_followRounds : Cond) ∈ kG := kG_of (List.mem_of_getElem? (i := 15) (by decide +kernel)) (by decide +kernel)
theorem gw_243 : (.code yX6_forget cX6_forget 2 none : Cond) ∈ kG := kG_of (List.mem_of_getElem? (i := 536) (by decide +kernel)) (by decide +kernel)
theorem gw_244 : (.methodLink "Bijectory$Survey" 89 yX6_forget : Cond) ∈ kG := kG_of (List.mem_of_getElem? (i := 533) (by decide +kernel)) (by decide +kernel)
theorem gw_245 : (.instanceMethod yX6_forget : Cond) ∈ kG := kG_of (List.mem_of_getElem? (i := 535) (by decide +kernel)) (by decide +kernel)
theorem gw_246 : (.selects "Bijectory$Survey" yX6_forget yX6_forget : Cond) ∈ kG := kG_of (List.mem_of_getElem? (i := 12) (by decide +kernel)) (by decide +kernel)
theorem gw_247 : (.code yX6_meet cX6_meet 2 (some .boolean) : Cond) ∈ kG := kG_of (List.mem_of_getElem? (i := 540) (by decide +kernel)) (by decide +kernel)
theorem gw_248 : (.methodLink "Bijectory$Survey" 92 yX6_meet : Cond) ∈ kG := kG_of (List.mem_of_getElem? (i := 537) (by decide +kernel)) (by decide +kernel)
theorem gw_249 : (.instanceMethod yX6_meet : Cond) ∈ kG := kG_of (List.mem_of_getElem? (i := 539) (by decide +kernel)) (by decide +kernel)
theorem gw_250 : (.selects "Bijectory$Survey" yX6_meet yX6_meet : Cond) ∈ kG := kG_of (List.mem_of_getElem? (i := 13) (by decide +kernel)) (by decide +kernel)
theorem gw_251 : (.code yX6_roundLength cX6_roundLength 5 (some .int) : Cond) ∈ kG := kG_of (List.mem_of_getElem? (i := 557) (by decide +kernel)) (by decide +kernel)
theorem gw_252 : (.methodLink "Bijectory$Survey" 96 yX6_roundLength : Cond) ∈ kG := kG_of (List.mem_of_getElem? (i := 554) (by decide +kernel)) (by decide +kernel)
theorem gw_253 : (.instanceMethod yX6_roundLength : Cond) ∈ kG := kG_of (List.mem_of_getElem? (i := 556) (by decide +kernel)) (by decide +kernel)
theorem gw_254 : (.selects "Bijectory$Survey" yX6_roundLength yX6_roundLength : Cond) ∈ kG := kG_of (List.mem_of_getElem? (i := 16) (by decide +kernel)) (by decide +kernel)
theorem gw_255 : (.code yX6_commonMultiple cX6_commonMultiple 4 (some .long) : Cond) ∈ kG := kG_of (List.mem_of_getElem? (i := 560) (by decide +kernel)) (by decide +kernel)
theorem gw_256 : (.methodLink "Bijectory$Survey" 99 yX6_commonMultiple : Cond) ∈ kG := kG_of (List.mem_of_getElem? (i := 558) (by decide +kernel)) (by decide +kernel)
theorem gw_257 : (.static yX6_commonMultiple : Cond) ∈ kG := kG_of (List.mem_of_getElem? (i := 559) (by decide +kernel)) (by decide +kernel)
theorem gw_258 : (.methodLink "Bijectory$Walker" 1 Lib.objectInit : Cond) ∈ kG := kG_of (List.mem_of_getElem? (i := 733) (by decide +kernel)) (by decide +kernel)
theorem gw_259 : (.fieldLink "Bijectory$Walker" 7 "Bijectory$Walker" "homeFamily" "I" : Cond) ∈ kG := kG_of (List.mem_of_getElem? (i := 734) (by decide +kernel)) (by decide +kernel)
theorem gw_260 : (.fieldLink "Bijectory$Walker" 13 "Bijectory$Walker" "home" "I" : Cond) ∈ kG := kG_of (List.mem_of_getElem? (i := 736) (by decide +kernel)) (by decide +kernel)
theorem gw_261 : (.fieldLink "Bijectory$Walker" 16 "Bijectory$Walker" "family" "I" : Cond) ∈ kG := kG_of (List.mem_of_getElem? (i := 738) (by decide +kernel)) (by decide +kernel)
theorem gw_262 : (.fieldLink "Bijectory$Walker" 19 "Bijectory$Walker" "place" "I" : Cond) ∈ kG := kG_of (List.mem_of_getElem? (i := 740) (by decide +kernel)) (by decide +kernel)
theorem gw_263 : (.fieldLink "Bijectory$Walker" 22 "Bijectory$Walker" "trips" "I" : Cond) ∈ kG := kG_of (List.mem_of_getElem? (i := 742) (by decide +kernel)) (by decide +kernel)
theorem gw_264 : (.fieldLink "Bijectory$Walker" 25 "Bijectory$Walker" "backs" "I" : Cond) ∈ kG := kG_of (List.mem_of_getElem? (i := 744) (by decide +kernel)) (by decide +kernel)
theorem gw_265 : (.methodLink "Bijectory$Claim" 1 Lib.objectInit : Cond) ∈ kG := kG_of (List.mem_of_getElem? (i := 771) (by decide +kernel)) (by decide +kernel)
theorem gw_266 : (.fieldLink "Bijectory$Claim" 7 "Bijectory$Claim" "map" "I" : Cond) ∈ kG := kG_of (List.mem_of_getElem? (i := 772) (by decide +kernel)) (by decide +kernel)
theorem gw_267 : (.fieldLink "Bijectory$Claim" 13 "Bijectory$Claim" "which" "I" : Cond) ∈ kG := kG_of (List.mem_of_getElem? (i := 774) (by decide +kernel)) (by decide +kernel)
theorem gw_268 : (.fieldLink "Bijectory$Claim" 16 "Bijectory$Claim" "other" "I" : Cond) ∈ kG := kG_of (List.mem_of_getElem? (i := 776) (by decide +kernel)) (by decide +kernel)
theorem gw_269 : (.fieldLink "Bijectory$Claim" 19 "Bijectory$Claim" "tried" "I" : Cond) ∈ kG := kG_of (List.mem_of_getElem? (i := 778) (by decide +kernel)) (by decide +kernel)
theorem gw_270 : (.fieldLink "Bijectory$Claim" 22 "Bijectory$Claim" "refuted" "I" : Cond) ∈ kG := kG_of (List.mem_of_getElem? (i := 780) (by decide +kernel)) (by decide +kernel)
theorem gw_271 : (.methodLink "Bijectory" 1 Lib.objectInit : Cond) ∈ kG := kG_of (List.mem_of_getElem? (i := 102) (by decide +kernel)) (by decide +kernel)
theorem gw_272 : (.classLink "Bijectory" 9 "Bijectory$Realm" : Cond) ∈ kG := kG_of (List.mem_of_getElem? (i := 105) (by decide +kernel)) (by decide +kernel)
theorem gw_273 : (.fieldLink "Bijectory" 11 "Bijectory" "realms" "[LBijectory$Realm;" : Cond) ∈ kG := kG_of (List.mem_of_getElem? (i := 337) (by decide +kernel)) (by decide +kernel)
theorem gw_274 : (.classLink "Bijectory" 15 "Bijectory$Survey" : Cond) ∈ kG := kG_of (List.mem_of_getElem? (i := 107) (by decide +kernel)) (by decide +kernel)
theorem gw_275 : (.instantiable "Bijectory$Survey" 2 : Cond) ∈ kG := kG_of (List.mem_of_getElem? (i := 108) (by decide +kernel)) (by decide +kernel)
theorem gw_276 : (.code yX6_init cX6_init 2 none : Cond) ∈ kG := kG_of (List.mem_of_getElem? (i := 111) (by decide +kernel)) (by decide +kernel)
theorem gw_277 : (.methodLink "Bijectory" 17 yX6_init : Cond) ∈ kG := kG_of (List.mem_of_getElem? (i := 109) (by decide +kernel)) (by decide +kernel)
theorem gw_278 : (.instanceMethod yX6_init : Cond) ∈ kG := kG_of (List.mem_of_getElem? (i := 110) (by decide +kernel)) (by decide +kernel)
theorem gw_279 : (.fieldLink "Bijectory" 18 "Bijectory" "survey" "LBijectory$Survey;" : Cond) ∈ kG := kG_of (List.mem_of_getElem? (i := 338) (by decide +kernel)) (by decide +kernel)
theorem gw_280 : (.classLink "Bijectory" 22 "Bijectory$Chart" : Cond) ∈ kG := kG_of (List.mem_of_getElem? (i := 130) (by decide +kernel)) (by decide +kernel)
theorem gw_281 : (.fieldLink "Bijectory" 24 "Bijectory" "charts" "[LBijectory$Chart;" : Cond) ∈ kG := kG_of (List.mem_of_getElem? (i := 339) (by decide +kernel)) (by decide +kernel)
theorem gw_282 : (.classLink "Bijectory" 28 "Bijectory$Walker" : Cond) ∈ kG := kG_of (List.mem_of_getElem? (i := 132) (by decide +kernel)) (by decide +kernel)
theorem gw_283 : (.fieldLink "Bijectory" 30 "Bijectory" "walkers" "[LBijectory$Walker;" : Cond) ∈ kG := kG_of (List.mem_of_getElem? (i := 340) (by decide +kernel)) (by decide +kernel)
theorem gw_284 : (.classLink "Bijectory" 34 "Bijectory$Claim" : Cond) ∈ kG := kG_of (List.mem_of_getElem? (i := 134) (by decide +kernel)) (by decide +kernel)
theorem gw_285 : (.fieldLink "Bijectory" 36 "Bijectory" "claims" "[LBijectory$Claim;" : Cond) ∈ kG := kG_of (List.mem_of_getElem? (i := 341) (by decide +kernel)) (by decide +kernel)
theorem gw_286 : (.code yX4_of cX4_of 4 (some (.object "Bijectory$Realm")) : Cond) ∈ kG := kG_of (List.mem_of_getElem? (i := 138) (by decide +kernel)) (by decide +kernel)
theorem gw_287 : (.methodLink "Bijectory" 40 yX4_of : Cond) ∈ kG := kG_of (List.mem_of_getElem? (i := 136) (by decide +kernel)) (by decide +kernel)
theorem gw_288 : (.static yX4_of : Cond) ∈ kG := kG_of (List.mem_of_getElem? (i := 137) (by decide +kernel)) (by decide +kernel)
theorem gw_289 : (.fieldLink "Bijectory" 44 "Bijectory" "realm" "LBijectory$Realm;" : Cond) ∈ kG := kG_of (List.mem_of_getElem? (i := 342) (by decide +kernel)) (by decide +kernel)
theorem gw_290 : (.classLink "Bijectory" 48 "java/lang/IllegalArgumentException" : Cond) ∈ kG := kG_of (List.mem_of_getElem? (i := 385) (by decide +kernel)) (by decide +kernel)
theorem gw_291 : (.initialized "java/lang/IllegalArgumentException" : Cond) ∈ kG := kG_of (List.mem_of_getElem? (i := 81) (by decide +kernel)) (by decide +kernel)
theorem gw_292 : (.fieldLink "Bijectory" 55 "Bijectory" "walkerCount" "I" : Cond) ∈ kG := kG_of (List.mem_of_getElem? (i := 344) (by decide +kernel)) (by decide +kernel)
theorem gw_293 : (.code yX9_needStep cX9_needStep 1 none : Cond) ∈ kG := kG_of (List.mem_of_getElem? (i := 634) (by decide +kernel)) (by decide +kernel)
theorem gw_294 : (.methodLink "Bijectory" 59 yX9_needStep : Cond) ∈ kG := kG_of (List.mem_of_getElem? (i := 632) (by decide +kernel)) (by decide +kernel)
theorem gw_295 : (.static yX9_needStep : Cond) ∈ kG := kG_of (List.mem_of_getElem? (i := 633) (by decide +kernel)) (by decide +kernel)
theorem gw_296 : (.initialized "Bijectory" : Cond) ∈ kG := kG_of (List.mem_of_getElem? (i := 65) (by decide +kernel)) (by decide +kernel)
theorem gw_297 : (.fieldLink "Bijectory" 63 "Bijectory" "chartCount" "I" : Cond) ∈ kG := kG_of (List.mem_of_getElem? (i := 343) (by decide +kernel)) (by decide +kernel)
theorem gw_298 : (.classLink "Bijectory" 66 "java/lang/IllegalStateException" : Cond) ∈ kG := kG_of (List.mem_of_getElem? (i := 636) (by decide +kernel)) (by decide +kernel)
theorem gw_299 : (.initialized "java/lang/IllegalStateException" : Cond) ∈ kG := kG_of (List.mem_of_getElem? (i := 82) (by decide +kernel)) (by decide +kernel)
theorem gw_300 : (.instantiable "Bijectory$Chart" 10 : Cond) ∈ kG := kG_of (List.mem_of_getElem? (i := 652) (by decide +kernel)) (by decide +kernel)
theorem gw_301 : (.code yX0_init cX0_init 2 none : Cond) ∈ kG := kG_of (List.mem_of_getElem? (i := 655) (by decide +kernel)) (by decide +kernel)
theorem gw_302 : (.methodLink "Bijectory" 71 yX0_init : Cond) ∈ kG := kG_of (List.mem_of_getElem? (i := 653) (by decide +kernel)) (by decide +kernel)
theorem gw_303 : (.instanceMethod yX0_init : Cond) ∈ kG := kG_of (List.mem_of_getElem? (i := 654) (by decide +kernel)) (by decide +kernel)
theorem gw_304 : (.code yX9_chartAt cX9_chartAt 3 (some (.object "Bijectory$Chart")) : Cond) ∈ kG := kG_of (List.mem_of_getElem? (i := 512) (by decide +kernel)) (by decide +kernel)
theorem gw_305 : (.methodLink "Bijectory" 73 yX9_chartAt : Cond) ∈ kG := kG_of (List.mem_of_getElem? (i := 509) (by decide +kernel)) (by decide +kernel)
theorem gw_306 : (.instanceMethod yX9_chartAt : Cond) ∈ kG := kG_of (List.mem_of_getElem? (i := 511) (by decide +kernel)) (by decide +kernel)
theorem gw_307 : (.selects "Bijectory" yX9_chartAt yX9_chartAt : Cond) ∈ kG := kG_of (List.mem_of_getElem? (i := 10) (by decide +kernel)) (by decide +kernel)
theorem gw_308 : (.fieldLink "Bijectory" 77 "Bijectory$Chart" "length" "I" : Cond) ∈ kG := kG_of (List.mem_of_getElem? (i := 668) (by decide +kernel)) (by decide +kernel)
theorem gw_309 : (.fieldLink "Bijectory" 82 "Bijectory$Chart" "claimed" "Z" : Cond) ∈ kG := kG_of (List.mem_of_getElem? (i := 670) (by decide +kernel)) (by decide +kernel)
theorem gw_310 : (.fieldLink "Bijectory" 88 "Bijectory" "STEP_FROM" "[I" : Cond) ∈ kG := kG_of (List.mem_of_getElem? (i := 712) (by decide +kernel)) (by decide +kernel)
theorem gw_311 : (.methodLink "Bijectory" 92 yX5_at : Cond) ∈ kG := kG_of (List.mem_of_getElem? (i := 713) (by decide +kernel)) (by decide +kernel)
theorem gw_312 : (.fieldLink "Bijectory" 98 "Bijectory$Chart" "to" "I" : Cond) ∈ kG := kG_of (List.mem_of_getElem? (i := 665) (by decide +kernel)) (by decide +kernel)
theorem gw_313 : (.code yX0_append cX0_append 2 none : Cond) ∈ kG := kG_of (List.mem_of_getElem? (i := 718) (by decide +kernel)) (by decide +kernel)
theorem gw_314 : (.methodLink "Bijectory" 103 yX0_append : Cond) ∈ kG := kG_of (List.mem_of_getElem? (i := 715) (by decide +kernel)) (by decide +kernel)
theorem gw_315 : (.instanceMethod yX0_append : Cond) ∈ kG := kG_of (List.mem_of_getElem? (i := 716) (by decide +kernel)) (by decide +kernel)
theorem gw_316 : (.selects "Bijectory$Chart" yX0_append yX0_append : Cond) ∈ kG := kG_of (List.mem_of_getElem? (i := 717) (by decide +kernel)) (by decide +kernel)
theorem gw_317 : (.code yX9_needFamily cX9_needFamily 1 none : Cond) ∈ kG := kG_of (List.mem_of_getElem? (i := 483) (by decide +kernel)) (by decide +kernel)
theorem gw_318 : (.methodLink "Bijectory" 106 yX9_needFamily : Cond) ∈ kG := kG_of (List.mem_of_getElem? (i := 481) (by decide +kernel)) (by decide +kernel)
theorem gw_319 : (.static yX9_needFamily : Cond) ∈ kG := kG_of (List.mem_of_getElem? (i := 482) (by decide +kernel)) (by decide +kernel)
theorem gw_320 : (.methodLink "Bijectory" 109 yX4_rankOf : Cond) ∈ kG := kG_of (List.mem_of_getElem? (i := 726) (by decide +kernel)) (by decide +kernel)
theorem gw_321 : (.instantiable "Bijectory$Walker" 6 : Cond) ∈ kG := kG_of (List.mem_of_getElem? (i := 729) (by decide +kernel)) (by decide +kernel)
theorem gw_322 : (.initialized "Bijectory$Walker" : Cond) ∈ kG := kG_of (List.mem_of_getElem? (i := 93) (by decide +kernel)) (by decide +kernel)
theorem gw_323 : (.code yX8_init cX8_init 3 none : Cond) ∈ kG := kG_of (List.mem_of_getElem? (i := 732) (by decide +kernel)) (by decide +kernel)
theorem gw_324 : (.methodLink "Bijectory" 117 yX8_init : Cond) ∈ kG := kG_of (List.mem_of_getElem? (i := 730) (by decide +kernel)) (by decide +kernel)
theorem gw_325 : (.instanceMethod yX8_init : Cond) ∈ kG := kG_of (List.mem_of_getElem? (i := 731) (by decide +kernel)) (by decide +kernel)
theorem gw_326 : (.code yX9_needStatistic cX9_needStatistic 1 none : Cond) ∈ kG := kG_of (List.mem_of_getElem? (i := 492) (by decide +kernel)) (by decide +kernel)
theorem gw_327 : (.methodLink "Bijectory" 120 yX9_needStatistic : Cond) ∈ kG := kG_of (List.mem_of_getElem? (i := 490) (by decide +kernel)) (by decide +kernel)
theorem gw_328 : (.static yX9_needStatistic : Cond) ∈ kG := kG_of (List.mem_of_getElem? (i := 491) (by decide +kernel)) (by decide +kernel)
theorem gw_329 : (.fieldLink "Bijectory" 123 "Bijectory" "claimCount" "I" : Cond) ∈ kG := kG_of (List.mem_of_getElem? (i := 345) (by decide +kernel)) (by decide +kernel)
theorem gw_330 : (.instantiable "Bijectory$Claim" 5 : Cond) ∈ kG := kG_of (List.mem_of_getElem? (i := 767) (by decide +kernel)) (by decide +kernel)
theorem gw_331 : (.initialized "Bijectory$Claim" : Cond) ∈ kG := kG_of (List.mem_of_getElem? (i := 95) (by decide +kernel)) (by decide +kernel)
theorem gw_332 : (.code yX1_init cX1_init 4 none : Cond) ∈ kG := kG_of (List.mem_of_getElem? (i := 770) (by decide +kernel)) (by decide +kernel)
theorem gw_333 : (.methodLink "Bijectory" 128 yX1_init : Cond) ∈ kG := kG_of (List.mem_of_getElem? (i := 768) (by decide +kernel)) (by decide +kernel)
theorem gw_334 : (.instanceMethod yX1_init : Cond) ∈ kG := kG_of (List.mem_of_getElem? (i := 769) (by decide +kernel)) (by decide +kernel)
theorem gw_335 : (.code yX9_tryClaim cX9_tryClaim 4 (some .boolean) : Cond) ∈ kG := kG_of (List.mem_of_getElem? (i := 796) (by decide +kernel)) (by decide +kernel)
theorem gw_336 : (.methodLink "Bijectory" 131 yX9_tryClaim : Cond) ∈ kG := kG_of (List.mem_of_getElem? (i := 793) (by decide +kernel)) (by decide +kernel)
theorem gw_337 : (.instanceMethod yX9_tryClaim : Cond) ∈ kG := kG_of (List.mem_of_getElem? (i := 795) (by decide +kernel)) (by decide +kernel)
theorem gw_338 : (.selects "Bijectory" yX9_tryClaim yX9_tryClaim : Cond) ∈ kG := kG_of (List.mem_of_getElem? (i := 20) (by decide +kernel)) (by decide +kernel)
theorem gw_339 : (.code yX9_walkerAt cX9_walkerAt 3 (some (.object "Bijectory$Walker")) : Cond) ∈ kG := kG_of (List.mem_of_getElem? (i := 598) (by decide +kernel)) (by decide +kernel)
theorem gw_340 : (.methodLink "Bijectory" 135 yX9_walkerAt : Cond) ∈ kG := kG_of (List.mem_of_getElem? (i := 595) (by decide +kernel)) (by decide +kernel)
theorem gw_341 : (.instanceMethod yX9_walkerAt : Cond) ∈ kG := kG_of (List.mem_of_getElem? (i := 597) (by decide +kernel)) (by decide +kernel)
theorem gw_342 : (.selects "Bijectory" yX9_walkerAt yX9_walkerAt : Cond) ∈ kG := kG_of (List.mem_of_getElem? (i := 19) (by decide +kernel)) (by decide +kernel)
theorem gw_343 : (.fieldLink "Bijectory" 141 "Bijectory$Chart" "from" "I" : Cond) ∈ kG := kG_of (List.mem_of_getElem? (i := 663) (by decide +kernel)) (by decide +kernel)
theorem gw_344 : (.fieldLink "Bijectory" 144 "Bijectory$Walker" "family" "I" : Cond) ∈ kG := kG_of (List.mem_of_getElem? (i := 739) (by decide +kernel)) (by decide +kernel)
theorem gw_345 : (.methodLink "Bijectory" 149 yX0_isMove : Cond) ∈ kG := kG_of (List.mem_of_getElem? (i := 810) (by decide +kernel)) (by decide +kernel)
theorem gw_346 : (.fieldLink "Bijectory" 155 "Bijectory$Walker" "place" "I" : Cond) ∈ kG := kG_of (List.mem_of_getElem? (i := 741) (by decide +kernel)) (by decide +kernel)
theorem gw_347 : (.methodLink "Bijectory" 158 yX4_through : Cond) ∈ kG := kG_of (List.mem_of_getElem? (i := 570) (by decide +kernel)) (by decide +kernel)
theorem gw_348 : (.code yX8_go cX8_go 3 none : Cond) ∈ kG := kG_of (List.mem_of_getElem? (i := 815) (by decide +kernel)) (by decide +kernel)
theorem gw_349 : (.methodLink "Bijectory" 162 yX8_go : Cond) ∈ kG := kG_of (List.mem_of_getElem? (i := 812) (by decide +kernel)) (by decide +kernel)
theorem gw_350 : (.instanceMethod yX8_go : Cond) ∈ kG := kG_of (List.mem_of_getElem? (i := 813) (by decide +kernel)) (by decide +kernel)
theorem gw_351 : (.selects "Bijectory$Walker" yX8_go yX8_go : Cond) ∈ kG := kG_of (List.mem_of_getElem? (i := 814) (by decide +kernel)) (by decide +kernel)
theorem gw_352 : (.fieldLink "Bijectory" 165 "Bijectory" "tripsEver" "I" : Cond) ∈ kG := kG_of (List.mem_of_getElem? (i := 346) (by decide +kernel)) (by decide +kernel)
theorem gw_353 : (.methodLink "Bijectory" 168 yX4_codeOf : Cond) ∈ kG := kG_of (List.mem_of_getElem? (i := 601) (by decide +kernel)) (by decide +kernel)
theorem gw_354 : (.code yX9_claimAt cX9_claimAt 3 (some (.object "Bijectory$Claim")) : Cond) ∈ kG := kG_of (List.mem_of_getElem? (i := 460) (by decide +kernel)) (by decide +kernel)
theorem gw_355 : (.methodLink "Bijectory" 171 yX9_claimAt : Cond) ∈ kG := kG_of (List.mem_of_getElem? (i := 457) (by decide +kernel)) (by decide +kernel)
theorem gw_356 : (.instanceMethod yX9_claimAt : Cond) ∈ kG := kG_of (List.mem_of_getElem? (i := 459) (by decide +kernel)) (by decide +kernel)
theorem gw_357 : (.selects "Bijectory" yX9_claimAt yX9_claimAt : Cond) ∈ kG := kG_of (List.mem_of_getElem? (i := 8) (by decide +kernel)) (by decide +kernel)
theorem gw_358 : (.fieldLink "Bijectory" 175 "Bijectory$Claim" "map" "I" : Cond) ∈ kG := kG_of (List.mem_of_getElem? (i := 773) (by decide +kernel)) (by decide +kernel)
theorem gw_359 : (.methodLink "Bijectory" 178 yX4_count : Cond) ∈ kG := kG_of (List.mem_of_getElem? (i := 485) (by decide +kernel)) (by decide +kernel)
theorem gw_360 : (.code yX9_needRank cX9_needRank 3 none : Cond) ∈ kG := kG_of (List.mem_of_getElem? (i := 568) (by decide +kernel)) (by decide +kernel)
theorem gw_361 : (.methodLink "Bijectory" 182 yX9_needRank : Cond) ∈ kG := kG_of (List.mem_of_getElem? (i := 565) (by decide +kernel)) (by decide +kernel)
theorem gw_362 : (.instanceMethod yX9_needRank : Cond) ∈ kG := kG_of (List.mem_of_getElem? (i := 567) (by decide +kernel)) (by decide +kernel)
theorem gw_363 : (.selects "Bijectory" yX9_needRank yX9_needRank : Cond) ∈ kG := kG_of (List.mem_of_getElem? (i := 17) (by decide +kernel)) (by decide +kernel)
theorem gw_364 : (.code yX4_valueOf cX4_valueOf 4 (some .int) : Cond) ∈ kG := kG_of (List.mem_of_getElem? (i := 590) (by decide +kernel)) (by decide +kernel)
theorem gw_365 : (.methodLink "Bijectory" 185 yX4_valueOf : Cond) ∈ kG := kG_of (List.mem_of_getElem? (i := 587) (by decide +kernel)) (by decide +kernel)
theorem gw_366 : (.instanceMethod yX4_valueOf : Cond) ∈ kG := kG_of (List.mem_of_getElem? (i := 588) (by decide +kernel)) (by decide +kernel)
theorem gw_367 : (.selects "Bijectory$Realm" yX4_valueOf yX4_valueOf : Cond) ∈ kG := kG_of (List.mem_of_getElem? (i := 589) (by decide +kernel)) (by decide +kernel)
theorem gw_368 : (.code yX4_countOf cX4_countOf 4 (some .int) : Cond) ∈ kG := kG_of (List.mem_of_getElem? (i := 500) (by decide +kernel)) (by decide +kernel)
theorem gw_369 : (.methodLink "Bijectory" 189 yX4_countOf : Cond) ∈ kG := kG_of (List.mem_of_getElem? (i := 497) (by decide +kernel)) (by decide +kernel)
theorem gw_370 : (.instanceMethod yX4_countOf : Cond) ∈ kG := kG_of (List.mem_of_getElem? (i := 498) (by decide +kernel)) (by decide +kernel)
theorem gw_371 : (.selects "Bijectory$Realm" yX4_countOf yX4_countOf : Cond) ∈ kG := kG_of (List.mem_of_getElem? (i := 499) (by decide +kernel)) (by decide +kernel)
theorem gw_372 : (.code yX9_signOf cX9_signOf 1 (some .int) : Cond) ∈ kG := kG_of (List.mem_of_getElem? (i := 496) (by decide +kernel)) (by decide +kernel)
theorem gw_373 : (.methodLink "Bijectory" 192 yX9_signOf : Cond) ∈ kG := kG_of (List.mem_of_getElem? (i := 494) (by decide +kernel)) (by decide +kernel)
theorem gw_374 : (.static yX9_signOf : Cond) ∈ kG := kG_of (List.mem_of_getElem? (i := 495) (by decide +kernel)) (by decide +kernel)
theorem gw_375 : (.code yX9_patternLength cX9_patternLength 2 (some .int) : Cond) ∈ kG := kG_of (List.mem_of_getElem? (i := 875) (by decide +kernel)) (by decide +kernel)
theorem gw_376 : (.methodLink "Bijectory" 195 yX9_patternLength : Cond) ∈ kG := kG_of (List.mem_of_getElem? (i := 873) (by decide +kernel)) (by decide +kernel)
theorem gw_377 : (.static yX9_patternLength : Cond) ∈ kG := kG_of (List.mem_of_getElem? (i := 874) (by decide +kernel)) (by decide +kernel)
theorem gw_378 : (.fieldLink "Bijectory" 200 "Bijectory$Realm" "size" "I" : Cond) ∈ kG := kG_of (List.mem_of_getElem? (i := 154) (by decide +kernel)) (by decide +kernel)
theorem gw_379 : (.code yX2_timesContained cX2_timesContained 6 (some .int) : Cond) ∈ kG := kG_of (List.mem_of_getElem? (i := 882) (by decide +kernel)) (by decide +kernel)
theorem gw_380 : (.methodLink "Bijectory" 203 yX2_timesContained : Cond) ∈ kG := kG_of (List.mem_of_getElem? (i := 880) (by decide +kernel)) (by decide +kernel)
theorem gw_381 : (.static yX2_timesContained : Cond) ∈ kG := kG_of (List.mem_of_getElem? (i := 881) (by decide +kernel)) (by decide +kernel)
theorem gw_382 : (.code yX4_isInOrderBehind cX4_isInOrderBehind 5 (some .boolean) : Cond) ∈ kG := kG_of (List.mem_of_getElem? (i := 614) (by decide +kernel)) (by decide +kernel)
theorem gw_383 : (.methodLink "Bijectory" 211 yX4_isInOrderBehind : Cond) ∈ kG := kG_of (List.mem_of_getElem? (i := 611) (by decide +kernel)) (by decide +kernel)
theorem gw_384 : (.instanceMethod yX4_isInOrderBehind : Cond) ∈ kG := kG_of (List.mem_of_getElem? (i := 612) (by decide +kernel)) (by decide +kernel)
theorem gw_385 : (.selects "Bijectory$Realm" yX4_isInOrderBehind yX4_isInOrderBehind : Cond) ∈ kG := kG_of (List.mem_of_getElem? (i := 613) (by decide +kernel)) (by decide +kernel)
theorem gw_386 : (.code yX6_take cX6_take 5 none : Cond) ∈ kG := kG_of (List.mem_of_getElem? (i := 518) (by decide +kernel)) (by decide +kernel)
theorem gw_387 : (.methodLink "Bijectory" 217 yX6_take : Cond) ∈ kG := kG_of (List.mem_of_getElem? (i := 515) (by decide +kernel)) (by decide +kernel)
theorem gw_388 : (.instanceMethod yX6_take : Cond) ∈ kG := kG_of (List.mem_of_getElem? (i := 516) (by decide +kernel)) (by decide +kernel)
theorem gw_389 : (.selects "Bijectory$Survey" yX6_take yX6_take : Cond) ∈ kG := kG_of (List.mem_of_getElem? (i := 517) (by decide +kernel)) (by decide +kernel)
theorem gw_390 : (.fieldLink "Bijectory" 221 "Bijectory$Chart" "distinct" "I" : Cond) ∈ kG := kG_of (List.mem_of_getElem? (i := 674) (by decide +kernel)) (by decide +kernel)
theorem gw_391 : (.fieldLink "Bijectory" 224 "Bijectory$Chart" "unmoved" "I" : Cond) ∈ kG := kG_of (List.mem_of_getElem? (i := 676) (by decide +kernel)) (by decide +kernel)
theorem gw_392 : (.fieldLink "Bijectory" 227 "Bijectory$Chart" "rounds" "I" : Cond) ∈ kG := kG_of (List.mem_of_getElem? (i := 678) (by decide +kernel)) (by decide +kernel)
theorem gw_393 : (.fieldLink "Bijectory" 230 "Bijectory$Chart" "period" "J" : Cond) ∈ kG := kG_of (List.mem_of_getElem? (i := 680) (by decide +kernel)) (by decide +kernel)
theorem gw_394 : (.code yX9_firstAgainst cX9_firstAgainst 6 (some .int) : Cond) ∈ kG := kG_of (List.mem_of_getElem? (i := 586) (by decide +kernel)) (by decide +kernel)
theorem gw_395 : (.methodLink "Bijectory" 234 yX9_firstAgainst : Cond) ∈ kG := kG_of (List.mem_of_getElem? (i := 583) (by decide +kernel)) (by decide +kernel)
theorem gw_396 : (.instanceMethod yX9_firstAgainst : Cond) ∈ kG := kG_of (List.mem_of_getElem? (i := 585) (by decide +kernel)) (by decide +kernel)
theorem gw_397 : (.selects "Bijectory" yX9_firstAgainst yX9_firstAgainst : Cond) ∈ kG := kG_of (List.mem_of_getElem? (i := 18) (by decide +kernel)) (by decide +kernel)
theorem gw_398 : (.code yX9_isPairedOff cX9_isPairedOff 6 (some .boolean) : Cond) ∈ kG := kG_of (List.mem_of_getElem? (i := 936) (by decide +kernel)) (by decide +kernel)
theorem gw_399 : (.methodLink "Bijectory" 238 yX9_isPairedOff : Cond) ∈ kG := kG_of (List.mem_of_getElem? (i := 933) (by decide +kernel)) (by decide +kernel)
theorem gw_400 : (.instanceMethod yX9_isPairedOff : Cond) ∈ kG := kG_of (List.mem_of_getElem? (i := 935) (by decide +kernel)) (by decide +kernel)
theorem gw_401 : (.selects "Bijectory" yX9_isPairedOff yX9_isPairedOff : Cond) ∈ kG := kG_of (List.mem_of_getElem? (i := 21) (by decide +kernel)) (by decide +kernel)
theorem gw_402 : (.fieldLink "Bijectory" 244 "Bijectory$Walker" "homeFamily" "I" : Cond) ∈ kG := kG_of (List.mem_of_getElem? (i := 735) (by decide +kernel)) (by decide +kernel)
theorem gw_403 : (.fieldLink "Bijectory" 247 "Bijectory$Walker" "home" "I" : Cond) ∈ kG := kG_of (List.mem_of_getElem? (i := 737) (by decide +kernel)) (by decide +kernel)
theorem gw_404 : (.fieldLink "Bijectory" 250 "Bijectory$Walker" "trips" "I" : Cond) ∈ kG := kG_of (List.mem_of_getElem? (i := 743) (by decide +kernel)) (by decide +kernel)
theorem gw_405 : (.fieldLink "Bijectory" 253 "Bijectory$Walker" "backs" "I" : Cond) ∈ kG := kG_of (List.mem_of_getElem? (i := 745) (by decide +kernel)) (by decide +kernel)
theorem gw_406 : (.fieldLink "Bijectory" 256 "Bijectory$Claim" "which" "I" : Cond) ∈ kG := kG_of (List.mem_of_getElem? (i := 775) (by decide +kernel)) (by decide +kernel)
theorem gw_407 : (.fieldLink "Bijectory" 259 "Bijectory$Claim" "other" "I" : Cond) ∈ kG := kG_of (List.mem_of_getElem? (i := 777) (by decide +kernel)) (by decide +kernel)
theorem gw_408 : (.fieldLink "Bijectory" 262 "Bijectory$Claim" "tried" "I" : Cond) ∈ kG := kG_of (List.mem_of_getElem? (i := 779) (by decide +kernel)) (by decide +kernel)
theorem gw_409 : (.fieldLink "Bijectory" 265 "Bijectory$Claim" "refuted" "I" : Cond) ∈ kG := kG_of (List.mem_of_getElem? (i := 781) (by decide +kernel)) (by decide +kernel)
theorem gw_410 : (.code yX9_refutedClaims cX9_refutedClaims 3 (some .int) : Cond) ∈ kG := kG_of (List.mem_of_getElem? (i := 456) (by decide +kernel)) (by decide +kernel)
theorem gw_411 : (.methodLink "Bijectory" 270 yX9_refutedClaims : Cond) ∈ kG := kG_of (List.mem_of_getElem? (i := 453) (by decide +kernel)) (by decide +kernel)
theorem gw_412 : (.instanceMethod yX9_refutedClaims : Cond) ∈ kG := kG_of (List.mem_of_getElem? (i := 455) (by decide +kernel)) (by decide +kernel)
theorem gw_413 : (.selects "Bijectory" yX9_refutedClaims yX9_refutedClaims : Cond) ∈ kG := kG_of (List.mem_of_getElem? (i := 7) (by decide +kernel)) (by decide +kernel)
theorem gw_414 : (.fieldLink "Bijectory" 274 "Bijectory" "trialsEver" "I" : Cond) ∈ kG := kG_of (List.mem_of_getElem? (i := 347) (by decide +kernel)) (by decide +kernel)
theorem gw_415 : (.constantLong "Bijectory" 277 (9503) : Cond) ∈ kG := kG_of (List.mem_of_getElem? (i := 375) (by decide +kernel)) (by decide +kernel)
theorem gw_416 : (.code yX9_digestOfObjects cX9_digestOfObjects 7 (some .long) : Cond) ∈ kG := kG_of (List.mem_of_getElem? (i := 379) (by decide +kernel)) (by decide +kernel)
theorem gw_417 : (.methodLink "Bijectory" 279 yX9_digestOfObjects : Cond) ∈ kG := kG_of (List.mem_of_getElem? (i := 376) (by decide +kernel)) (by decide +kernel)
theorem gw_418 : (.instanceMethod yX9_digestOfObjects : Cond) ∈ kG := kG_of (List.mem_of_getElem? (i := 378) (by decide +kernel)) (by decide +kernel)
theorem gw_419 : (.selects "Bijectory" yX9_digestOfObjects yX9_digestOfObjects : Cond) ∈ kG := kG_of (List.mem_of_getElem? (i := 5) (by decide +kernel)) (by decide +kernel)
theorem gw_420 : (.code yX9_digestOfMap cX9_digestOfMap 7 (some .long) : Cond) ∈ kG := kG_of (List.mem_of_getElem? (i := 504) (by decide +kernel)) (by decide +kernel)
theorem gw_421 : (.methodLink "Bijectory" 283 yX9_digestOfMap : Cond) ∈ kG := kG_of (List.mem_of_getElem? (i := 501) (by decide +kernel)) (by decide +kernel)
theorem gw_422 : (.instanceMethod yX9_digestOfMap : Cond) ∈ kG := kG_of (List.mem_of_getElem? (i := 503) (by decide +kernel)) (by decide +kernel)
theorem gw_423 : (.selects "Bijectory" yX9_digestOfMap yX9_digestOfMap : Cond) ∈ kG := kG_of (List.mem_of_getElem? (i := 9) (by decide +kernel)) (by decide +kernel)
theorem gw_424 : (.constantLong "Bijectory" 287 (31) : Cond) ∈ kG := kG_of (List.mem_of_getElem? (i := 380) (by decide +kernel)) (by decide +kernel)
theorem gw_425 : (.code yX9_ofWalker cX9_ofWalker 4 (some .int) : Cond) ∈ kG := kG_of (List.mem_of_getElem? (i := 594) (by decide +kernel)) (by decide +kernel)
theorem gw_426 : (.methodLink "Bijectory" 289 yX9_ofWalker : Cond) ∈ kG := kG_of (List.mem_of_getElem? (i := 591) (by decide +kernel)) (by decide +kernel)
theorem gw_427 : (.instanceMethod yX9_ofWalker : Cond) ∈ kG := kG_of (List.mem_of_getElem? (i := 592) (by decide +kernel)) (by decide +kernel)
theorem gw_428 : (.selects "Bijectory" yX9_ofWalker yX9_ofWalker : Cond) ∈ kG := kG_of (List.mem_of_getElem? (i := 593) (by decide +kernel)) (by decide +kernel)
theorem gw_429 : (.code yX9_ofClaim cX9_ofClaim 4 (some .int) : Cond) ∈ kG := kG_of (List.mem_of_getElem? (i := 605) (by decide +kernel)) (by decide +kernel)
theorem gw_430 : (.methodLink "Bijectory" 292 yX9_ofClaim : Cond) ∈ kG := kG_of (List.mem_of_getElem? (i := 602) (by decide +kernel)) (by decide +kernel)
theorem gw_431 : (.instanceMethod yX9_ofClaim : Cond) ∈ kG := kG_of (List.mem_of_getElem? (i := 603) (by decide +kernel)) (by decide +kernel)
theorem gw_432 : (.selects "Bijectory" yX9_ofClaim yX9_ofClaim : Cond) ∈ kG := kG_of (List.mem_of_getElem? (i := 604) (by decide +kernel)) (by decide +kernel)
theorem gw_433 : (.code yX9_sorted cX9_sorted 4 (some .int) : Cond) ∈ kG := kG_of (List.mem_of_getElem? (i := 609) (by decide +kernel)) (by decide +kernel)
theorem gw_434 : (.methodLink "Bijectory" 295 yX9_sorted : Cond) ∈ kG := kG_of (List.mem_of_getElem? (i := 606) (by decide +kernel)) (by decide +kernel)
theorem gw_435 : (.instanceMethod yX9_sorted : Cond) ∈ kG := kG_of (List.mem_of_getElem? (i := 607) (by decide +kernel)) (by decide +kernel)
theorem gw_436 : (.selects "Bijectory" yX9_sorted yX9_sorted : Cond) ∈ kG := kG_of (List.mem_of_getElem? (i := 608) (by decide +kernel)) (by decide +kernel)
theorem gw_437 : (.code yX9_many cX9_many 2 (some .int) : Cond) ∈ kG := kG_of (List.mem_of_getElem? (i := 384) (by decide +kernel)) (by decide +kernel)
theorem gw_438 : (.methodLink "Bijectory" 298 yX9_many : Cond) ∈ kG := kG_of (List.mem_of_getElem? (i := 381) (by decide +kernel)) (by decide +kernel)
theorem gw_439 : (.instanceMethod yX9_many : Cond) ∈ kG := kG_of (List.mem_of_getElem? (i := 382) (by decide +kernel)) (by decide +kernel)
theorem gw_440 : (.selects "Bijectory" yX9_many yX9_many : Cond) ∈ kG := kG_of (List.mem_of_getElem? (i := 383) (by decide +kernel)) (by decide +kernel)
theorem gw_441 : (.code yX9_objects cX9_objects 2 (some .int) : Cond) ∈ kG := kG_of (List.mem_of_getElem? (i := 480) (by decide +kernel)) (by decide +kernel)
theorem gw_442 : (.methodLink "Bijectory" 301 yX9_objects : Cond) ∈ kG := kG_of (List.mem_of_getElem? (i := 477) (by decide +kernel)) (by decide +kernel)
theorem gw_443 : (.instanceMethod yX9_objects : Cond) ∈ kG := kG_of (List.mem_of_getElem? (i := 478) (by decide +kernel)) (by decide +kernel)
theorem gw_444 : (.selects "Bijectory" yX9_objects yX9_objects : Cond) ∈ kG := kG_of (List.mem_of_getElem? (i := 479) (by decide +kernel)) (by decide +kernel)
theorem gw_445 : (.code yX9_signs cX9_signs 5 (some .int) : Cond) ∈ kG := kG_of (List.mem_of_getElem? (i := 489) (by decide +kernel)) (by decide +kernel)
theorem gw_446 : (.methodLink "Bijectory" 304 yX9_signs : Cond) ∈ kG := kG_of (List.mem_of_getElem? (i := 486) (by decide +kernel)) (by decide +kernel)
theorem gw_447 : (.instanceMethod yX9_signs : Cond) ∈ kG := kG_of (List.mem_of_getElem? (i := 487) (by decide +kernel)) (by decide +kernel)
theorem gw_448 : (.selects "Bijectory" yX9_signs yX9_signs : Cond) ∈ kG := kG_of (List.mem_of_getElem? (i := 488) (by decide +kernel)) (by decide +kernel)
theorem gw_449 : (.code yX9_ofMap cX9_ofMap 4 (some .int) : Cond) ∈ kG := kG_of (List.mem_of_getElem? (i := 508) (by decide +kernel)) (by decide +kernel)
theorem gw_450 : (.methodLink "Bijectory" 307 yX9_ofMap : Cond) ∈ kG := kG_of (List.mem_of_getElem? (i := 505) (by decide +kernel)) (by decide +kernel)
theorem gw_451 : (.instanceMethod yX9_ofMap : Cond) ∈ kG := kG_of (List.mem_of_getElem? (i := 506) (by decide +kernel)) (by decide +kernel)
theorem gw_452 : (.selects "Bijectory" yX9_ofMap yX9_ofMap : Cond) ∈ kG := kG_of (List.mem_of_getElem? (i := 507) (by decide +kernel)) (by decide +kernel)
theorem gw_453 : (.code yX9_image cX9_image 4 (some .int) : Cond) ∈ kG := kG_of (List.mem_of_getElem? (i := 564) (by decide +kernel)) (by decide +kernel)
theorem gw_454 : (.methodLink "Bijectory" 310 yX9_image : Cond) ∈ kG := kG_of (List.mem_of_getElem? (i := 561) (by decide +kernel)) (by decide +kernel)
theorem gw_455 : (.instanceMethod yX9_image : Cond) ∈ kG := kG_of (List.mem_of_getElem? (i := 562) (by decide +kernel)) (by decide +kernel)
theorem gw_456 : (.selects "Bijectory" yX9_image yX9_image : Cond) ∈ kG := kG_of (List.mem_of_getElem? (i := 563) (by decide +kernel)) (by decide +kernel)
theorem gw_457 : (.code yX9_rounds cX9_rounds 3 (some .int) : Cond) ∈ kG := kG_of (List.mem_of_getElem? (i := 574) (by decide +kernel)) (by decide +kernel)
theorem gw_458 : (.methodLink "Bijectory" 313 yX9_rounds : Cond) ∈ kG := kG_of (List.mem_of_getElem? (i := 571) (by decide +kernel)) (by decide +kernel)
theorem gw_459 : (.instanceMethod yX9_rounds : Cond) ∈ kG := kG_of (List.mem_of_getElem? (i := 572) (by decide +kernel)) (by decide +kernel)
theorem gw_460 : (.selects "Bijectory" yX9_rounds yX9_rounds : Cond) ∈ kG := kG_of (List.mem_of_getElem? (i := 573) (by decide +kernel)) (by decide +kernel)
theorem gw_461 : (.code yX9_period cX9_period 3 (some .long) : Cond) ∈ kG := kG_of (List.mem_of_getElem? (i := 578) (by decide +kernel)) (by decide +kernel)
theorem gw_462 : (.methodLink "Bijectory" 315 yX9_period : Cond) ∈ kG := kG_of (List.mem_of_getElem? (i := 575) (by decide +kernel)) (by decide +kernel)
theorem gw_463 : (.instanceMethod yX9_period : Cond) ∈ kG := kG_of (List.mem_of_getElem? (i := 576) (by decide +kernel)) (by decide +kernel)
theorem gw_464 : (.selects "Bijectory" yX9_period yX9_period : Cond) ∈ kG := kG_of (List.mem_of_getElem? (i := 577) (by decide +kernel)) (by decide +kernel)
theorem gw_465 : (.code yX9_against cX9_against 5 (some .int) : Cond) ∈ kG := kG_of (List.mem_of_getElem? (i := 582) (by decide +kernel)) (by decide +kernel)
theorem gw_466 : (.methodLink "Bijectory" 318 yX9_against : Cond) ∈ kG := kG_of (List.mem_of_getElem? (i := 579) (by decide +kernel)) (by decide +kernel)
theorem gw_467 : (.instanceMethod yX9_against : Cond) ∈ kG := kG_of (List.mem_of_getElem? (i := 580) (by decide +kernel)) (by decide +kernel)
theorem gw_468 : (.selects "Bijectory" yX9_against yX9_against : Cond) ∈ kG := kG_of (List.mem_of_getElem? (i := 581) (by decide +kernel)) (by decide +kernel)
theorem gw_469 : (.classLink "Bijectory" 323 "java/lang/IndexOutOfBoundsException" : Cond) ∈ kG := kG_of (List.mem_of_getElem? (i := 461) (by decide +kernel)) (by decide +kernel)
theorem gw_470 : (.initialized "java/lang/IndexOutOfBoundsException" : Cond) ∈ kG := kG_of (List.mem_of_getElem? (i := 89) (by decide +kernel)) (by decide +kernel)
theorem gw_471 : (.code yX2_isOrder cX2_isOrder 6 (some .boolean) : Cond) ∈ kG := kG_of (List.mem_of_getElem? (i := 878) (by decide +kernel)) (by decide +kernel)
theorem gw_472 : (.methodLink "Bijectory" 338 yX2_isOrder : Cond) ∈ kG := kG_of (List.mem_of_getElem? (i := 876) (by decide +kernel)) (by decide +kernel)
theorem gw_473 : (.static yX2_isOrder : Cond) ∈ kG := kG_of (List.mem_of_getElem? (i := 877) (by decide +kernel)) (by decide +kernel)
theorem gw_474 : (.code yX1_note cX1_note 3 none : Cond) ∈ kG := kG_of (List.mem_of_getElem? (i := 800) (by decide +kernel)) (by decide +kernel)
theorem gw_475 : (.methodLink "Bijectory" 341 yX1_note : Cond) ∈ kG := kG_of (List.mem_of_getElem? (i := 797) (by decide +kernel)) (by decide +kernel)
theorem gw_476 : (.instanceMethod yX1_note : Cond) ∈ kG := kG_of (List.mem_of_getElem? (i := 798) (by decide +kernel)) (by decide +kernel)
theorem gw_477 : (.selects "Bijectory$Claim" yX1_note yX1_note : Cond) ∈ kG := kG_of (List.mem_of_getElem? (i := 799) (by decide +kernel)) (by decide +kernel)
def kxW : List Cond := [.fieldLinkNest "Bijectory$Orders" 9 "Bijectory" "ORDER_COUNTS" "[I" "Bijectory", .fieldLinkNest "Bijectory$Orders" 37 "Bijectory" "TENS" "[I" "Bijectory", .fieldLinkNest "Bijectory$Trees" 37 "Bijectory" "TENS" "[I" "Bijectory", .fieldLinkNest "Bijectory$Realm" 9 "Bijectory" "PATH_COUNTS" "[I" "Bijectory", .fieldLinkNest "Bijectory$Realm" 25 "Bijectory" "ORDER_COUNTS" "[I" "Bijectory", .arrayOver (.array .int), .fieldLinkNest "Bijectory$Realm" 82 "Bijectory" "STEP_FROM" "[I" "Bijectory", .fieldLinkNest "Bijectory$Realm" 85 "Bijectory" "STEP_TO" "[I" "Bijectory", .methodLinkNest "Bijectory$Realm" 112 yX3_graft "Bijectory", .methodLinkNest "Bijectory$Realm" 115 yX7_mirror "Bijectory", .methodLinkNest "Bijectory$Realm" 126 yX7_label "Bijectory", .methodLinkNest "Bijectory$Realm" 129 yX2_shape "Bijectory", .methodLinkNest "Bijectory$Realm" 144 yX7_valueOf "Bijectory", .fieldLinkNest "Bijectory$Chart" 25 "Bijectory" "STEP_FROM" "[I" "Bijectory", .fieldLinkNest "Bijectory$Chart" 35 "Bijectory" "STEP_TO" "[I" "Bijectory", .fieldLinkNest "Bijectory$Survey" 9 "Bijectory" "ORDER_COUNTS" "[I" "Bijectory", .arrayOver (.object "Bijectory$Realm"), .arrayOver (.object "Bijectory$Chart"), .arrayOver (.object "Bijectory$Walker"), .arrayOver (.object "Bijectory$Claim"), .castable "java/lang/IllegalArgumentException" "java/lang/IllegalArgumentException", .superclass "java/lang/Throwable" "java/lang/Object", .declares ⟨"java/lang/RuntimeException", "<init>", "(Ljava/lang/String;)V"⟩, .declares ⟨"java/lang/Exception", "<init>", "(Ljava/lang/String;)V"⟩, .declares ⟨"java/lang/Throwable", "<init>", "(Ljava/lang/String;)V"⟩, .castable "java/lang/IllegalStateException" "java/lang/IllegalStateException", .castable "java/lang/IndexOutOfBoundsException" "java/lang/IndexOutOfBoundsException"]
def kStr : List (String × Nat × String) := [("Bijectory", 50, "size is not 1 to 6"), ("Bijectory", 68, "there are 8 MAPS"), ("Bijectory", 80, "the MAP has 6 STEPS"), ("Bijectory", 86, "the MAP is in a CLAIM"), ("Bijectory", 101, "the STEP does not go from where the MAP goes to"), ("Bijectory", 113, "no such CODE"), ("Bijectory", 115, "there are 4 WALKERS"), ("Bijectory", 126, "there are 8 CLAIMS"), ("Bijectory", 139, "often is not 1 to 60"), ("Bijectory", 147, "the MAP is not FROM the WALKER\'s FAMILY"), ("Bijectory", 153, "the MAP is no MOVE"), ("Bijectory", 198, "pattern is no order of 1 to 2, 3 or 4"), ("Bijectory", 209, "times is not 0 to 6"), ("Bijectory", 215, "what is not 0 to 7"), ("Bijectory", 242, "what is not 0 to 4"), ("Bijectory", 268, "what is not 0 to 6"), ("Bijectory", 321, "step is not 0 to 10"), ("Bijectory", 325, "family is not 0 to 2"), ("Bijectory", 328, "a statistic is not 0 to 3"), ("Bijectory", 330, "there is no such RANK"), ("Bijectory", 332, "there is no such MAP"), ("Bijectory", 334, "there is no such WALKER"), ("Bijectory", 336, "there is no such CLAIM")]
def kXX (b : Nat) (U : State) : Prop := (∀ w ∈ kxW, va_Nw w U) ∧ (∀ q ∈ kStr, ∃ sa, vk_R q.1 q.2.1 q.2.2 sa U) ∧ vx_Zq Bundle.tN "UNASSIGNED_STACK" Bundle.steD (fun q => b ≤ q) U U.heap ∧ vx_Zq Bundle.tN "SUPPRESSED_SENTINEL" Bundle.listD (fun q => b ≤ q) U U.heap ∧ True
theorem xw_0 {b : Nat} {U : State} (h : kXX b U) : va_Nw (.fieldLinkNest "Bijectory$Orders" 9 "Bijectory" "ORDER_COUNTS" "[I" "Bijectory") U := h.1 _ (List.mem_of_getElem? (i := 0) rfl)
theorem xw_1 {b : Nat} {U : State} (h : kXX b U) : va_Nw (.fieldLinkNest "Bijectory$Orders" 37 "Bijectory" "TENS" "[I" "Bijectory") U := h.1 _ (List.mem_of_getElem? (i := 1) rfl)
theorem xw_2 {b : Nat} {U : State} (h : kXX b U) : va_Nw (.fieldLinkNest "Bijectory$Trees" 37 "Bijectory" "TENS" "[I" "Bijectory") U := h.1 _ (List.mem_of_getElem? (i := 2) rfl)
theorem xw_3 {b : Nat} {U : State} (h : kXX b U) : va_Nw (.fieldLinkNest "Bijectory$Realm" 9 "Bijectory" "PATH_COUNTS" "[I" "Bijectory") U := h.1 _ (List.mem_of_getElem? (i := 3) rfl)
theorem xw_4 {b : Nat} {U : State} (h : kXX b U) : va_Nw (.fieldLinkNest "Bijectory$Realm" 25 "Bijectory" "ORDER_COUNTS" "[I" "Bijectory") U := h.1 _ (List.mem_of_getElem? (i := 4) rfl)
theorem xw_5 {b : Nat} {U : State} (h : kXX b U) : va_Nw (.arrayOver (.array .int)) U := h.1 _ (List.mem_of_getElem? (i := 5) rfl)
theorem xw_6 {b : Nat} {U : State} (h : kXX b U) : va_Nw (.fieldLinkNest "Bijectory$Realm" 82 "Bijectory" "STEP_FROM" "[I" "Bijectory") U := h.1 _ (List.mem_of_getElem? (i := 6) rfl)
theorem xw_7 {b : Nat} {U : State} (h : kXX b U) : va_Nw (.fieldLinkNest "Bijectory$Realm" 85 "Bijectory" "STEP_TO" "[I" "Bijectory") U := h.1 _ (List.mem_of_getElem? (i := 7) rfl)
theorem xw_8 {b : Nat} {U : State} (h : kXX b U) : va_Nw (.methodLinkNest "Bijectory$Realm" 112 yX3_graft "Bijectory") U := h.1 _ (List.mem_of_getElem? (i := 8) rfl)
theorem xw_9 {b : Nat} {U : State} (h : kXX b U) : va_Nw (.methodLinkNest "Bijectory$Realm" 115 yX7_mirror "Bijectory") U := h.1 _ (List.mem_of_getElem? (i := 9) rfl)
theorem xw_10 {b : Nat} {U : State} (h : kXX b U) : va_Nw (.methodLinkNest "Bijectory$Realm" 126 yX7_label "Bijectory") U := h.1 _ (List.mem_of_getElem? (i := 10) rfl)
theorem xw_11 {b : Nat} {U : State} (h : kXX b U) : va_Nw (.methodLinkNest "Bijectory$Realm" 129 yX2_shape "Bijectory") U := h.1 _ (List.mem_of_getElem? (i := 11) rfl)
theorem xw_12 {b : Nat} {U : State} (h : kXX b U) : va_Nw (.methodLinkNest "Bijectory$Realm" 144 yX7_valueOf "Bijectory") U := h.1 _ (List.mem_of_getElem? (i := 12) rfl)
theorem xw_13 {b : Nat} {U : State} (h : kXX b U) : va_Nw (.fieldLinkNest "Bijectory$Chart" 25 "Bijectory" "STEP_FROM" "[I" "Bijectory") U := h.1 _ (List.mem_of_getElem? (i := 13) rfl)
theorem xw_14 {b : Nat} {U : State} (h : kXX b U) : va_Nw (.fieldLinkNest "Bijectory$Chart" 35 "Bijectory" "STEP_TO" "[I" "Bijectory") U := h.1 _ (List.mem_of_getElem? (i := 14) rfl)
theorem xw_15 {b : Nat} {U : State} (h : kXX b U) : va_Nw (.fieldLinkNest "Bijectory$Survey" 9 "Bijectory" "ORDER_COUNTS" "[I" "Bijectory") U := h.1 _ (List.mem_of_getElem? (i := 15) rfl)
theorem xw_16 {b : Nat} {U : State} (h : kXX b U) : va_Nw (.arrayOver (.object "Bijectory$Realm")) U := h.1 _ (List.mem_of_getElem? (i := 16) rfl)
theorem xw_17 {b : Nat} {U : State} (h : kXX b U) : va_Nw (.arrayOver (.object "Bijectory$Chart")) U := h.1 _ (List.mem_of_getElem? (i := 17) rfl)
theorem xw_18 {b : Nat} {U : State} (h : kXX b U) : va_Nw (.arrayOver (.object "Bijectory$Walker")) U := h.1 _ (List.mem_of_getElem? (i := 18) rfl)
theorem xw_19 {b : Nat} {U : State} (h : kXX b U) : va_Nw (.arrayOver (.object "Bijectory$Claim")) U := h.1 _ (List.mem_of_getElem? (i := 19) rfl)
theorem xw_20 {b : Nat} {U : State} (h : kXX b U) : va_Nw (.castable "java/lang/IllegalArgumentException" "java/lang/IllegalArgumentException") U := h.1 _ (List.mem_of_getElem? (i := 20) rfl)
theorem xw_21 {b : Nat} {U : State} (h : kXX b U) : va_Nw (.superclass "java/lang/Throwable" "java/lang/Object") U := h.1 _ (List.mem_of_getElem? (i := 21) rfl)
theorem xw_22 {b : Nat} {U : State} (h : kXX b U) : va_Nw (.declares ⟨"java/lang/RuntimeException", "<init>", "(Ljava/lang/String;)V"⟩) U := h.1 _ (List.mem_of_getElem? (i := 22) rfl)
theorem xw_23 {b : Nat} {U : State} (h : kXX b U) : va_Nw (.declares ⟨"java/lang/Exception", "<init>", "(Ljava/lang/String;)V"⟩) U := h.1 _ (List.mem_of_getElem? (i := 23) rfl)
theorem xw_24 {b : Nat} {U : State} (h : kXX b U) : va_Nw (.declares ⟨"java/lang/Throwable", "<init>", "(Ljava/lang/String;)V"⟩) U := h.1 _ (List.mem_of_getElem? (i := 24) rfl)
theorem xw_25 {b : Nat} {U : State} (h : kXX b U) : va_Nw (.castable "java/lang/IllegalStateException" "java/lang/IllegalStateException") U := h.1 _ (List.mem_of_getElem? (i := 25) rfl)
theorem xw_26 {b : Nat} {U : State} (h : kXX b U) : va_Nw (.castable "java/lang/IndexOutOfBoundsException" "java/lang/IndexOutOfBoundsException") U := h.1 _ (List.mem_of_getElem? (i := 26) rfl)
theorem st_0 {b : Nat} {U : State} (h : kXX b U) : ∃ sa, vk_R "Bijectory" 50 "size is not 1 to 6" sa U := h.2.1 ("Bijectory", 50, "size is not 1 to 6") (List.mem_of_getElem? (i := 0) rfl)
theorem st_1 {b : Nat} {U : State} (h : kXX b U) : ∃ sa, vk_R "Bijectory" 68 "there are 8 MAPS" sa U := h.2.1 ("Bijectory", 68, "there are 8 MAPS") (List.mem_of_getElem? (i := 1) rfl)
theorem st_2 {b : Nat} {U : State} (h : kXX b U) : ∃ sa, vk_R "Bijectory" 80 "the MAP has 6 STEPS" sa U := h.2.1 ("Bijectory", 80, "the MAP has 6 STEPS") (List.mem_of_getElem? (i := 2) rfl)
theorem st_3 {b : Nat} {U : State} (h : kXX b U) : ∃ sa, vk_R "Bijectory" 86 "the MAP is in a CLAIM" sa U := h.2.1 ("Bijectory", 86, "the MAP is in a CLAIM") (List.mem_of_getElem? (i := 3) rfl)
theorem st_4 {b : Nat} {U : State} (h : kXX b U) : ∃ sa, vk_R "Bijectory" 101 "the STEP does not go from where the MAP goes to" sa U := h.2.1 ("Bijectory", 101, "the STEP does not go from where the MAP goes to") (List.mem_of_getElem? (i := 4) rfl)
theorem st_5 {b : Nat} {U : State} (h : kXX b U) : ∃ sa, vk_R "Bijectory" 113 "no such CODE" sa U := h.2.1 ("Bijectory", 113, "no such CODE") (List.mem_of_getElem? (i := 5) rfl)
theorem st_6 {b : Nat} {U : State} (h : kXX b U) : ∃ sa, vk_R "Bijectory" 115 "there are 4 WALKERS" sa U := h.2.1 ("Bijectory", 115, "there are 4 WALKERS") (List.mem_of_getElem? (i := 6) rfl)
theorem st_7 {b : Nat} {U : State} (h : kXX b U) : ∃ sa, vk_R "Bijectory" 126 "there are 8 CLAIMS" sa U := h.2.1 ("Bijectory", 126, "there are 8 CLAIMS") (List.mem_of_getElem? (i := 7) rfl)
theorem st_8 {b : Nat} {U : State} (h : kXX b U) : ∃ sa, vk_R "Bijectory" 139 "often is not 1 to 60" sa U := h.2.1 ("Bijectory", 139, "often is not 1 to 60") (List.mem_of_getElem? (i := 8) rfl)
theorem st_9 {b : Nat} {U : State} (h : kXX b U) : ∃ sa, vk_R "Bijectory" 147 "the MAP is not FROM the WALKER\'s FAMILY" sa U := h.2.1 ("Bijectory", 147, "the MAP is not FROM the WALKER\'s FAMILY") (List.mem_of_getElem? (i := 9) rfl)
theorem st_10 {b : Nat} {U : State} (h : kXX b U) : ∃ sa, vk_R "Bijectory" 153 "the MAP is no MOVE" sa U := h.2.1 ("Bijectory", 153, "the MAP is no MOVE") (List.mem_of_getElem? (i := 10) rfl)
theorem st_11 {b : Nat} {U : State} (h : kXX b U) : ∃ sa, vk_R "Bijectory" 198 "pattern is no order of 1 to 2, 3 or 4" sa U := h.2.1 ("Bijectory", 198, "pattern is no order of 1 to 2, 3 or 4") (List.mem_of_getElem? (i := 11) rfl)
theorem st_12 {b : Nat} {U : State} (h : kXX b U) : ∃ sa, vk_R "Bijectory" 209 "times is not 0 to 6" sa U := h.2.1 ("Bijectory", 209, "times is not 0 to 6") (List.mem_of_getElem? (i := 12) rfl)
theorem st_13 {b : Nat} {U : State} (h : kXX b U) : ∃ sa, vk_R "Bijectory" 215 "what is not 0 to 7" sa U := h.2.1 ("Bijectory", 215, "what is not 0 to 7") (List.mem_of_getElem? (i := 13) rfl)
theorem st_14 {b : Nat} {U : State} (h : kXX b U) : ∃ sa, vk_R "Bijectory" 242 "what is not 0 to 4" sa U := h.2.1 ("Bijectory", 242, "what is not 0 to 4") (List.mem_of_getElem? (i := 14) rfl)
theorem st_15 {b : Nat} {U : State} (h : kXX b U) : ∃ sa, vk_R "Bijectory" 268 "what is not 0 to 6" sa U := h.2.1 ("Bijectory", 268, "what is not 0 to 6") (List.mem_of_getElem? (i := 15) rfl)
theorem st_16 {b : Nat} {U : State} (h : kXX b U) : ∃ sa, vk_R "Bijectory" 321 "step is not 0 to 10" sa U := h.2.1 ("Bijectory", 321, "step is not 0 to 10") (List.mem_of_getElem? (i := 16) rfl)
theorem st_17 {b : Nat} {U : State} (h : kXX b U) : ∃ sa, vk_R "Bijectory" 325 "family is not 0 to 2" sa U := h.2.1 ("Bijectory", 325, "family is not 0 to 2") (List.mem_of_getElem? (i := 17) rfl)
theorem st_18 {b : Nat} {U : State} (h : kXX b U) : ∃ sa, vk_R "Bijectory" 328 "a statistic is not 0 to 3" sa U := h.2.1 ("Bijectory", 328, "a statistic is not 0 to 3") (List.mem_of_getElem? (i := 18) rfl)
theorem st_19 {b : Nat} {U : State} (h : kXX b U) : ∃ sa, vk_R "Bijectory" 330 "there is no such RANK" sa U := h.2.1 ("Bijectory", 330, "there is no such RANK") (List.mem_of_getElem? (i := 19) rfl)
theorem st_20 {b : Nat} {U : State} (h : kXX b U) : ∃ sa, vk_R "Bijectory" 332 "there is no such MAP" sa U := h.2.1 ("Bijectory", 332, "there is no such MAP") (List.mem_of_getElem? (i := 20) rfl)
theorem st_21 {b : Nat} {U : State} (h : kXX b U) : ∃ sa, vk_R "Bijectory" 334 "there is no such WALKER" sa U := h.2.1 ("Bijectory", 334, "there is no such WALKER") (List.mem_of_getElem? (i := 21) rfl)
theorem st_22 {b : Nat} {U : State} (h : kXX b U) : ∃ sa, vk_R "Bijectory" 336 "there is no such CLAIM" sa U := h.2.1 ("Bijectory", 336, "there is no such CLAIM") (List.mem_of_getElem? (i := 22) rfl)
theorem k_hat {args : Array Value} {s : State} {c0 : Cond} {b : Nat} {L : List Cond} (hts : ∀ w ∈ c0 :: kG, w.before args s = true) (h : kXX b s) (ps : List Nat) (h1 : L.filter goodWord = ps.filterMap (fun i => lw_tbl[i]?)) (h2 : (L.filter (fun w => !goodWord w)).all (fun w => decide (w ∈ kxW) && w.onTables) = true) : ∀ w ∈ L, w.before args s = true := by
  intro w hw
  by_cases hg : goodWord w = true
  · have h4 := List.mem_filter.mpr ⟨hw, hg⟩
    rw [h1] at h4
    obtain ⟨i, -, hi⟩ := List.mem_filterMap.mp h4
    exact hts w (kG_in (kG_of (List.mem_of_getElem? hi) hg))
  · have h3 := List.all_eq_true.mp h2 w (List.mem_filter.mpr ⟨hw, by simp [hg]⟩)
    simp only [Bool.and_eq_true, decide_eq_true_eq] at h3
    exact va_Nw.use h3.2 (h.1 w h3.1)
theorem at_0 {args : Array Value} {s : State} {c0 : Cond} {b : Nat} (hts : ∀ w ∈ c0 :: kG, w.before args s = true) (h : kXX b s) : ∀ w ∈ vx_atS "Bijectory" 52 (kEx 0) ["java/lang/RuntimeException", "java/lang/Exception"], w.before args s = true := k_hat hts h [78, 407, 416, 420, 423, 425, 408, 409, 103, 104, 410, 415, 421, 441, 397, 442, 399, 443, 401, 411, 413, 403, 437, 438, 440, 403, 428, 429, 430, 431, 431, 432, 433, 434, 434, 435, 436, 437, 427, 386, 394, 395, 396, 398, 400, 402, 406, 405, 404] (by decide +kernel) (by decide +kernel)
theorem at_1 {args : Array Value} {s : State} {c0 : Cond} {b : Nat} (hts : ∀ w ∈ c0 :: kG, w.before args s = true) (h : kXX b s) : ∀ w ∈ vx_atS "Bijectory" 70 (kEx 1) ["java/lang/RuntimeException", "java/lang/Exception"], w.before args s = true := k_hat hts h [78, 407, 416, 420, 423, 425, 408, 409, 103, 104, 410, 415, 421, 441, 397, 442, 399, 443, 401, 411, 413, 403, 437, 438, 440, 403, 647, 648, 649, 431, 431, 432, 433, 434, 434, 435, 436, 437, 646, 637, 639, 418, 640, 641, 642, 643, 406, 405, 644] (by decide +kernel) (by decide +kernel)
theorem at_2 {args : Array Value} {s : State} {c0 : Cond} {b : Nat} (hts : ∀ w ∈ c0 :: kG, w.before args s = true) (h : kXX b s) : ∀ w ∈ vx_atS "Bijectory" 327 (kEx 2) ["java/lang/RuntimeException", "java/lang/Exception"], w.before args s = true := k_hat hts h [78, 407, 416, 420, 423, 425, 408, 409, 103, 104, 410, 415, 421, 441, 397, 442, 399, 443, 401, 411, 413, 403, 437, 438, 440, 403, 472, 473, 474, 431, 431, 432, 433, 434, 434, 435, 436, 437, 471, 462, 464, 419, 465, 466, 467, 468, 406, 405, 469] (by decide +kernel) (by decide +kernel)
theorem gd_0 : ∀ w ∈ Cond.classLink "Bijectory" 48 (kEx 0) :: Cond.initialized (kEx 0) :: vx_atS "Bijectory" 52 (kEx 0) ["java/lang/RuntimeException", "java/lang/Exception"], vx_ot w = true := fun w hw => List.all_eq_true.mp (show (Cond.classLink "Bijectory" 48 (kEx 0) :: Cond.initialized (kEx 0) :: vx_atS "Bijectory" 52 (kEx 0) ["java/lang/RuntimeException", "java/lang/Exception"]).all vx_ot = true by decide +kernel) w hw
theorem gd_1 : ∀ w ∈ Cond.classLink "Bijectory" 66 (kEx 1) :: Cond.initialized (kEx 1) :: vx_atS "Bijectory" 70 (kEx 1) ["java/lang/RuntimeException", "java/lang/Exception"], vx_ot w = true := fun w hw => List.all_eq_true.mp (show (Cond.classLink "Bijectory" 66 (kEx 1) :: Cond.initialized (kEx 1) :: vx_atS "Bijectory" 70 (kEx 1) ["java/lang/RuntimeException", "java/lang/Exception"]).all vx_ot = true by decide +kernel) w hw
theorem gd_2 : ∀ w ∈ Cond.classLink "Bijectory" 323 (kEx 2) :: Cond.initialized (kEx 2) :: vx_atS "Bijectory" 327 (kEx 2) ["java/lang/RuntimeException", "java/lang/Exception"], vx_ot w = true := fun w hw => List.all_eq_true.mp (show (Cond.classLink "Bijectory" 323 (kEx 2) :: Cond.initialized (kEx 2) :: vx_atS "Bijectory" 327 (kEx 2) ["java/lang/RuntimeException", "java/lang/Exception"]).all vx_ot = true by decide +kernel) w hw
theorem sn_0 {E : kE} {XX : State → Prop} {σ : List Nat} {zs : List (String × String × Nat)} {l : Launch} {d : Nat} {cl : kCall} (hS : kSnd E XX σ zs l kY kWS d cl) : ∀ args1 hs r, cl 0 args1 hs = some r → kMet E XX σ zs l yX5_at (kws yX5_at cX5_at 2 (some .int)) d args1 hs r := hS 0
theorem sn_1 {E : kE} {XX : State → Prop} {σ : List Nat} {zs : List (String × String × Nat)} {l : Launch} {d : Nat} {cl : kCall} (hS : kSnd E XX σ zs l kY kWS d cl) : ∀ args1 hs r, cl 1 args1 hs = some r → kMet E XX σ zs l yX5_at_ (kws yX5_at_ cX5_at_ 4 (some .int)) d args1 hs r := hS 1
theorem sn_2 {E : kE} {XX : State → Prop} {σ : List Nat} {zs : List (String × String × Nat)} {l : Launch} {d : Nat} {cl : kCall} (hS : kSnd E XX σ zs l kY kWS d cl) : ∀ args1 hs r, cl 2 args1 hs = some r → kMet E XX σ zs l yX5_put (kws yX5_put cX5_put 3 none) d args1 hs r := hS 2
theorem sn_3 {E : kE} {XX : State → Prop} {σ : List Nat} {zs : List (String × String × Nat)} {l : Launch} {d : Nat} {cl : kCall} (hS : kSnd E XX σ zs l kY kWS d cl) : ∀ args1 hs r, cl 3 args1 hs = some r → kMet E XX σ zs l yX5_put_ (kws yX5_put_ cX5_put_ 5 none) d args1 hs r := hS 3
theorem sn_4 {E : kE} {XX : State → Prop} {σ : List Nat} {zs : List (String × String × Nat)} {l : Launch} {d : Nat} {cl : kCall} (hS : kSnd E XX σ zs l kY kWS d cl) : ∀ args1 hs r, cl 4 args1 hs = some r → kMet E XX σ zs l yX3_isPath (kws yX3_isPath cX3_isPath 4 (some .boolean)) d args1 hs r := hS 4
theorem sn_5 {E : kE} {XX : State → Prop} {σ : List Nat} {zs : List (String × String × Nat)} {l : Launch} {d : Nat} {cl : kCall} (hS : kSnd E XX σ zs l kY kWS d cl) : ∀ args1 hs r, cl 5 args1 hs = some r → kMet E XX σ zs l yX3_isUp (kws yX3_isUp cX3_isUp 2 (some .boolean)) d args1 hs r := hS 5
theorem sn_6 {E : kE} {XX : State → Prop} {σ : List Nat} {zs : List (String × String × Nat)} {l : Launch} {d : Nat} {cl : kCall} (hS : kSnd E XX σ zs l kY kWS d cl) : ∀ args1 hs r, cl 6 args1 hs = some r → kMet E XX σ zs l yX3_rise (kws yX3_rise cX3_rise 2 (some .int)) d args1 hs r := hS 6
theorem sn_7 {E : kE} {XX : State → Prop} {σ : List Nat} {zs : List (String × String × Nat)} {l : Launch} {d : Nat} {cl : kCall} (hS : kSnd E XX σ zs l kY kWS d cl) : ∀ args1 hs r, cl 7 args1 hs = some r → kMet E XX σ zs l yX3_part (kws yX3_part cX3_part 3 (some .int)) d args1 hs r := hS 7
theorem sn_8 {E : kE} {XX : State → Prop} {σ : List Nat} {zs : List (String × String × Nat)} {l : Launch} {d : Nat} {cl : kCall} (hS : kSnd E XX σ zs l kY kWS d cl) : ∀ args1 hs r, cl 8 args1 hs = some r → kMet E XX σ zs l yX3_pairsOfFirst (kws yX3_pairsOfFirst cX3_pairsOfFirst 4 (some .int)) d args1 hs r := hS 8
theorem sn_9 {E : kE} {XX : State → Prop} {σ : List Nat} {zs : List (String × String × Nat)} {l : Launch} {d : Nat} {cl : kCall} (hS : kSnd E XX σ zs l kY kWS d cl) : ∀ args1 hs r, cl 9 args1 hs = some r → kMet E XX σ zs l yX3_pairsOfLast (kws yX3_pairsOfLast cX3_pairsOfLast 4 (some .int)) d args1 hs r := hS 9
theorem sn_10 {E : kE} {XX : State → Prop} {σ : List Nat} {zs : List (String × String × Nat)} {l : Launch} {d : Nat} {cl : kCall} (hS : kSnd E XX σ zs l kY kWS d cl) : ∀ args1 hs r, cl 10 args1 hs = some r → kMet E XX σ zs l yX3_graft (kws yX3_graft cX3_graft 6 (some .int)) d args1 hs r := hS 10
theorem sn_11 {E : kE} {XX : State → Prop} {σ : List Nat} {zs : List (String × String × Nat)} {l : Launch} {d : Nat} {cl : kCall} (hS : kSnd E XX σ zs l kY kWS d cl) : ∀ args1 hs r, cl 11 args1 hs = some r → kMet E XX σ zs l yX3_backward (kws yX3_backward cX3_backward 4 (some .int)) d args1 hs r := hS 11
theorem sn_12 {E : kE} {XX : State → Prop} {σ : List Nat} {zs : List (String × String × Nat)} {l : Launch} {d : Nat} {cl : kCall} (hS : kSnd E XX σ zs l kY kWS d cl) : ∀ args1 hs r, cl 12 args1 hs = some r → kMet E XX σ zs l yX3_roll (kws yX3_roll cX3_roll 6 (some .int)) d args1 hs r := hS 12
theorem sn_13 {E : kE} {XX : State → Prop} {σ : List Nat} {zs : List (String × String × Nat)} {l : Launch} {d : Nat} {cl : kCall} (hS : kSnd E XX σ zs l kY kWS d cl) : ∀ args1 hs r, cl 13 args1 hs = some r → kMet E XX σ zs l yX3_valueOf (kws yX3_valueOf cX3_valueOf 3 (some .int)) d args1 hs r := hS 13
theorem sn_14 {E : kE} {XX : State → Prop} {σ : List Nat} {zs : List (String × String × Nat)} {l : Launch} {d : Nat} {cl : kCall} (hS : kSnd E XX σ zs l kY kWS d cl) : ∀ args1 hs r, cl 14 args1 hs = some r → kMet E XX σ zs l yX3_peaks (kws yX3_peaks cX3_peaks 4 (some .int)) d args1 hs r := hS 14
theorem sn_15 {E : kE} {XX : State → Prop} {σ : List Nat} {zs : List (String × String × Nat)} {l : Launch} {d : Nat} {cl : kCall} (hS : kSnd E XX σ zs l kY kWS d cl) : ∀ args1 hs r, cl 15 args1 hs = some r → kMet E XX σ zs l yX3_returns (kws yX3_returns cX3_returns 5 (some .int)) d args1 hs r := hS 15
theorem sn_16 {E : kE} {XX : State → Prop} {σ : List Nat} {zs : List (String × String × Nat)} {l : Launch} {d : Nat} {cl : kCall} (hS : kSnd E XX σ zs l kY kWS d cl) : ∀ args1 hs r, cl 16 args1 hs = some r → kMet E XX σ zs l yX3_greatestHeight (kws yX3_greatestHeight cX3_greatestHeight 5 (some .int)) d args1 hs r := hS 16
theorem sn_17 {E : kE} {XX : State → Prop} {σ : List Nat} {zs : List (String × String × Nat)} {l : Launch} {d : Nat} {cl : kCall} (hS : kSnd E XX σ zs l kY kWS d cl) : ∀ args1 hs r, cl 17 args1 hs = some r → kMet E XX σ zs l yX3_area (kws yX3_area cX3_area 5 (some .int)) d args1 hs r := hS 17
theorem sn_18 {E : kE} {XX : State → Prop} {σ : List Nat} {zs : List (String × String × Nat)} {l : Launch} {d : Nat} {cl : kCall} (hS : kSnd E XX σ zs l kY kWS d cl) : ∀ args1 hs r, cl 18 args1 hs = some r → kMet E XX σ zs l yX2_isOrder (kws yX2_isOrder cX2_isOrder 6 (some .boolean)) d args1 hs r := hS 18
theorem sn_19 {E : kE} {XX : State → Prop} {σ : List Nat} {zs : List (String × String × Nat)} {l : Launch} {d : Nat} {cl : kCall} (hS : kSnd E XX σ zs l kY kWS d cl) : ∀ args1 hs r, cl 19 args1 hs = some r → kMet E XX σ zs l yX2_at (kws yX2_at cX2_at 5 (some .int)) d args1 hs r := hS 19
theorem sn_20 {E : kE} {XX : State → Prop} {σ : List Nat} {zs : List (String × String × Nat)} {l : Launch} {d : Nat} {cl : kCall} (hS : kSnd E XX σ zs l kY kWS d cl) : ∀ args1 hs r, cl 20 args1 hs = some r → kMet E XX σ zs l yX2_ofRank (kws yX2_ofRank cX2_ofRank 8 (some .int)) d args1 hs r := hS 20
theorem sn_21 {E : kE} {XX : State → Prop} {σ : List Nat} {zs : List (String × String × Nat)} {l : Launch} {d : Nat} {cl : kCall} (hS : kSnd E XX σ zs l kY kWS d cl) : ∀ args1 hs r, cl 21 args1 hs = some r → kMet E XX σ zs l yX2_freeNumber (kws yX2_freeNumber cX2_freeNumber 5 (some .int)) d args1 hs r := hS 21
theorem sn_22 {E : kE} {XX : State → Prop} {σ : List Nat} {zs : List (String × String × Nat)} {l : Launch} {d : Nat} {cl : kCall} (hS : kSnd E XX σ zs l kY kWS d cl) : ∀ args1 hs r, cl 22 args1 hs = some r → kMet E XX σ zs l yX2_shape (kws yX2_shape cX2_shape 7 (some .int)) d args1 hs r := hS 22
theorem sn_23 {E : kE} {XX : State → Prop} {σ : List Nat} {zs : List (String × String × Nat)} {l : Launch} {d : Nat} {cl : kCall} (hS : kSnd E XX σ zs l kY kWS d cl) : ∀ args1 hs r, cl 23 args1 hs = some r → kMet E XX σ zs l yX2_invert (kws yX2_invert cX2_invert 4 (some .int)) d args1 hs r := hS 23
theorem sn_24 {E : kE} {XX : State → Prop} {σ : List Nat} {zs : List (String × String × Nat)} {l : Launch} {d : Nat} {cl : kCall} (hS : kSnd E XX σ zs l kY kWS d cl) : ∀ args1 hs r, cl 24 args1 hs = some r → kMet E XX σ zs l yX2_turn (kws yX2_turn cX2_turn 5 (some .int)) d args1 hs r := hS 24
theorem sn_25 {E : kE} {XX : State → Prop} {σ : List Nat} {zs : List (String × String × Nat)} {l : Launch} {d : Nat} {cl : kCall} (hS : kSnd E XX σ zs l kY kWS d cl) : ∀ args1 hs r, cl 25 args1 hs = some r → kMet E XX σ zs l yX2_sort (kws yX2_sort cX2_sort 6 (some .int)) d args1 hs r := hS 25
theorem sn_26 {E : kE} {XX : State → Prop} {σ : List Nat} {zs : List (String × String × Nat)} {l : Launch} {d : Nat} {cl : kCall} (hS : kSnd E XX σ zs l kY kWS d cl) : ∀ args1 hs r, cl 26 args1 hs = some r → kMet E XX σ zs l yX2_valueOf (kws yX2_valueOf cX2_valueOf 3 (some .int)) d args1 hs r := hS 26
theorem sn_27 {E : kE} {XX : State → Prop} {σ : List Nat} {zs : List (String × String × Nat)} {l : Launch} {d : Nat} {cl : kCall} (hS : kSnd E XX σ zs l kY kWS d cl) : ∀ args1 hs r, cl 27 args1 hs = some r → kMet E XX σ zs l yX2_drops (kws yX2_drops cX2_drops 4 (some .int)) d args1 hs r := hS 27
theorem sn_28 {E : kE} {XX : State → Prop} {σ : List Nat} {zs : List (String × String × Nat)} {l : Launch} {d : Nat} {cl : kCall} (hS : kSnd E XX σ zs l kY kWS d cl) : ∀ args1 hs r, cl 28 args1 hs = some r → kMet E XX σ zs l yX2_inversions (kws yX2_inversions cX2_inversions 5 (some .int)) d args1 hs r := hS 28
theorem sn_29 {E : kE} {XX : State → Prop} {σ : List Nat} {zs : List (String × String × Nat)} {l : Launch} {d : Nat} {cl : kCall} (hS : kSnd E XX σ zs l kY kWS d cl) : ∀ args1 hs r, cl 29 args1 hs = some r → kMet E XX σ zs l yX2_records (kws yX2_records cX2_records 6 (some .int)) d args1 hs r := hS 29
theorem sn_30 {E : kE} {XX : State → Prop} {σ : List Nat} {zs : List (String × String × Nat)} {l : Launch} {d : Nat} {cl : kCall} (hS : kSnd E XX σ zs l kY kWS d cl) : ∀ args1 hs r, cl 30 args1 hs = some r → kMet E XX σ zs l yX2_unmoved (kws yX2_unmoved cX2_unmoved 4 (some .int)) d args1 hs r := hS 30
theorem sn_31 {E : kE} {XX : State → Prop} {σ : List Nat} {zs : List (String × String × Nat)} {l : Launch} {d : Nat} {cl : kCall} (hS : kSnd E XX σ zs l kY kWS d cl) : ∀ args1 hs r, cl 31 args1 hs = some r → kMet E XX σ zs l yX2_timesContained (kws yX2_timesContained cX2_timesContained 6 (some .int)) d args1 hs r := hS 31
theorem sn_32 {E : kE} {XX : State → Prop} {σ : List Nat} {zs : List (String × String × Nat)} {l : Launch} {d : Nat} {cl : kCall} (hS : kSnd E XX σ zs l kY kWS d cl) : ∀ args1 hs r, cl 32 args1 hs = some r → kMet E XX σ zs l yX2_chosen (kws yX2_chosen cX2_chosen 5 (some .int)) d args1 hs r := hS 32
theorem sn_33 {E : kE} {XX : State → Prop} {σ : List Nat} {zs : List (String × String × Nat)} {l : Launch} {d : Nat} {cl : kCall} (hS : kSnd E XX σ zs l kY kWS d cl) : ∀ args1 hs r, cl 33 args1 hs = some r → kMet E XX σ zs l yX2_patternOf (kws yX2_patternOf cX2_patternOf 6 (some .int)) d args1 hs r := hS 33
theorem sn_34 {E : kE} {XX : State → Prop} {σ : List Nat} {zs : List (String × String × Nat)} {l : Launch} {d : Nat} {cl : kCall} (hS : kSnd E XX σ zs l kY kWS d cl) : ∀ args1 hs r, cl 34 args1 hs = some r → kMet E XX σ zs l yX7_node (kws yX7_node cX7_node 4 (some .int)) d args1 hs r := hS 34
theorem sn_35 {E : kE} {XX : State → Prop} {σ : List Nat} {zs : List (String × String × Nat)} {l : Launch} {d : Nat} {cl : kCall} (hS : kSnd E XX σ zs l kY kWS d cl) : ∀ args1 hs r, cl 35 args1 hs = some r → kMet E XX σ zs l yX7_leftOf (kws yX7_leftOf cX7_leftOf 3 (some .int)) d args1 hs r := hS 35
theorem sn_36 {E : kE} {XX : State → Prop} {σ : List Nat} {zs : List (String × String × Nat)} {l : Launch} {d : Nat} {cl : kCall} (hS : kSnd E XX σ zs l kY kWS d cl) : ∀ args1 hs r, cl 36 args1 hs = some r → kMet E XX σ zs l yX7_rightOf (kws yX7_rightOf cX7_rightOf 2 (some .int)) d args1 hs r := hS 36
theorem sn_37 {E : kE} {XX : State → Prop} {σ : List Nat} {zs : List (String × String × Nat)} {l : Launch} {d : Nat} {cl : kCall} (hS : kSnd E XX σ zs l kY kWS d cl) : ∀ args1 hs r, cl 37 args1 hs = some r → kMet E XX σ zs l yX7_mirror (kws yX7_mirror cX7_mirror 6 (some .int)) d args1 hs r := hS 37
theorem sn_38 {E : kE} {XX : State → Prop} {σ : List Nat} {zs : List (String × String × Nat)} {l : Launch} {d : Nat} {cl : kCall} (hS : kSnd E XX σ zs l kY kWS d cl) : ∀ args1 hs r, cl 38 args1 hs = some r → kMet E XX σ zs l yX7_label (kws yX7_label cX7_label 7 (some .int)) d args1 hs r := hS 38
theorem sn_39 {E : kE} {XX : State → Prop} {σ : List Nat} {zs : List (String × String × Nat)} {l : Launch} {d : Nat} {cl : kCall} (hS : kSnd E XX σ zs l kY kWS d cl) : ∀ args1 hs r, cl 39 args1 hs = some r → kMet E XX σ zs l yX7_valueOf (kws yX7_valueOf cX7_valueOf 7 (some .int)) d args1 hs r := hS 39
theorem sn_40 {E : kE} {XX : State → Prop} {σ : List Nat} {zs : List (String × String × Nat)} {l : Launch} {d : Nat} {cl : kCall} (hS : kSnd E XX σ zs l kY kWS d cl) : ∀ args1 hs r, cl 40 args1 hs = some r → kMet E XX σ zs l yJ6_bitCount_0f7a4 (kws yJ6_bitCount_0f7a4 cJ6_bitCount_0f7a4 1 (some .int)) d args1 hs r := hS 40
theorem sn_41 {E : kE} {XX : State → Prop} {σ : List Nat} {zs : List (String × String × Nat)} {l : Launch} {d : Nat} {cl : kCall} (hS : kSnd E XX σ zs l kY kWS d cl) : ∀ args1 hs r, cl 41 args1 hs = some r → kMet E XX σ zs l yX4_init (kws yX4_init cX4_init 4 none) d args1 hs r := hS 41
theorem sn_42 {E : kE} {XX : State → Prop} {σ : List Nat} {zs : List (String × String × Nat)} {l : Launch} {d : Nat} {cl : kCall} (hS : kSnd E XX σ zs l kY kWS d cl) : ∀ args1 hs r, cl 42 args1 hs = some r → kMet E XX σ zs l yX4_of (kws yX4_of cX4_of 4 (some (.object "Bijectory$Realm"))) d args1 hs r := hS 42
theorem sn_43 {E : kE} {XX : State → Prop} {σ : List Nat} {zs : List (String × String × Nat)} {l : Launch} {d : Nat} {cl : kCall} (hS : kSnd E XX σ zs l kY kWS d cl) : ∀ args1 hs r, cl 43 args1 hs = some r → kMet E XX σ zs l yX4_listPaths (kws yX4_listPaths cX4_listPaths 3 none) d args1 hs r := hS 43
theorem sn_44 {E : kE} {XX : State → Prop} {σ : List Nat} {zs : List (String × String × Nat)} {l : Launch} {d : Nat} {cl : kCall} (hS : kSnd E XX σ zs l kY kWS d cl) : ∀ args1 hs r, cl 44 args1 hs = some r → kMet E XX σ zs l yX4_listOrders (kws yX4_listOrders cX4_listOrders 2 none) d args1 hs r := hS 44
theorem sn_45 {E : kE} {XX : State → Prop} {σ : List Nat} {zs : List (String × String × Nat)} {l : Launch} {d : Nat} {cl : kCall} (hS : kSnd E XX σ zs l kY kWS d cl) : ∀ args1 hs r, cl 45 args1 hs = some r → kMet E XX σ zs l yX4_listImages (kws yX4_listImages cX4_listImages 5 none) d args1 hs r := hS 45
theorem sn_46 {E : kE} {XX : State → Prop} {σ : List Nat} {zs : List (String × String × Nat)} {l : Launch} {d : Nat} {cl : kCall} (hS : kSnd E XX σ zs l kY kWS d cl) : ∀ args1 hs r, cl 46 args1 hs = some r → kMet E XX σ zs l yX4_listValues (kws yX4_listValues cX4_listValues 6 none) d args1 hs r := hS 46
theorem sn_47 {E : kE} {XX : State → Prop} {σ : List Nat} {zs : List (String × String × Nat)} {l : Launch} {d : Nat} {cl : kCall} (hS : kSnd E XX σ zs l kY kWS d cl) : ∀ args1 hs r, cl 47 args1 hs = some r → kMet E XX σ zs l yX4_imageCode (kws yX4_imageCode cX4_imageCode 3 (some .int)) d args1 hs r := hS 47
theorem sn_48 {E : kE} {XX : State → Prop} {σ : List Nat} {zs : List (String × String × Nat)} {l : Launch} {d : Nat} {cl : kCall} (hS : kSnd E XX σ zs l kY kWS d cl) : ∀ args1 hs r, cl 48 args1 hs = some r → kMet E XX σ zs l yX4_valueByCode (kws yX4_valueByCode cX4_valueByCode 4 (some .int)) d args1 hs r := hS 48
theorem sn_49 {E : kE} {XX : State → Prop} {σ : List Nat} {zs : List (String × String × Nat)} {l : Launch} {d : Nat} {cl : kCall} (hS : kSnd E XX σ zs l kY kWS d cl) : ∀ args1 hs r, cl 49 args1 hs = some r → kMet E XX σ zs l yX4_codes (kws yX4_codes cX4_codes 2 (some (.array .int))) d args1 hs r := hS 49
theorem sn_50 {E : kE} {XX : State → Prop} {σ : List Nat} {zs : List (String × String × Nat)} {l : Launch} {d : Nat} {cl : kCall} (hS : kSnd E XX σ zs l kY kWS d cl) : ∀ args1 hs r, cl 50 args1 hs = some r → kMet E XX σ zs l yX4_count (kws yX4_count cX4_count 2 (some .int)) d args1 hs r := hS 50
theorem sn_51 {E : kE} {XX : State → Prop} {σ : List Nat} {zs : List (String × String × Nat)} {l : Launch} {d : Nat} {cl : kCall} (hS : kSnd E XX σ zs l kY kWS d cl) : ∀ args1 hs r, cl 51 args1 hs = some r → kMet E XX σ zs l yX4_codeOf (kws yX4_codeOf cX4_codeOf 3 (some .int)) d args1 hs r := hS 51
theorem sn_52 {E : kE} {XX : State → Prop} {σ : List Nat} {zs : List (String × String × Nat)} {l : Launch} {d : Nat} {cl : kCall} (hS : kSnd E XX σ zs l kY kWS d cl) : ∀ args1 hs r, cl 52 args1 hs = some r → kMet E XX σ zs l yX4_rankOf (kws yX4_rankOf cX4_rankOf 6 (some .int)) d args1 hs r := hS 52
theorem sn_53 {E : kE} {XX : State → Prop} {σ : List Nat} {zs : List (String × String × Nat)} {l : Launch} {d : Nat} {cl : kCall} (hS : kSnd E XX σ zs l kY kWS d cl) : ∀ args1 hs r, cl 53 args1 hs = some r → kMet E XX σ zs l yX4_through (kws yX4_through cX4_through 5 (some .int)) d args1 hs r := hS 53
theorem sn_54 {E : kE} {XX : State → Prop} {σ : List Nat} {zs : List (String × String × Nat)} {l : Launch} {d : Nat} {cl : kCall} (hS : kSnd E XX σ zs l kY kWS d cl) : ∀ args1 hs r, cl 54 args1 hs = some r → kMet E XX σ zs l yX4_valueOf (kws yX4_valueOf cX4_valueOf 4 (some .int)) d args1 hs r := hS 54
theorem sn_55 {E : kE} {XX : State → Prop} {σ : List Nat} {zs : List (String × String × Nat)} {l : Launch} {d : Nat} {cl : kCall} (hS : kSnd E XX σ zs l kY kWS d cl) : ∀ args1 hs r, cl 55 args1 hs = some r → kMet E XX σ zs l yX4_countOf (kws yX4_countOf cX4_countOf 4 (some .int)) d args1 hs r := hS 55
theorem sn_56 {E : kE} {XX : State → Prop} {σ : List Nat} {zs : List (String × String × Nat)} {l : Launch} {d : Nat} {cl : kCall} (hS : kSnd E XX σ zs l kY kWS d cl) : ∀ args1 hs r, cl 56 args1 hs = some r → kMet E XX σ zs l yX4_isInOrderBehind (kws yX4_isInOrderBehind cX4_isInOrderBehind 5 (some .boolean)) d args1 hs r := hS 56
theorem sn_57 {E : kE} {XX : State → Prop} {σ : List Nat} {zs : List (String × String × Nat)} {l : Launch} {d : Nat} {cl : kCall} (hS : kSnd E XX σ zs l kY kWS d cl) : ∀ args1 hs r, cl 57 args1 hs = some r → kMet E XX σ zs l yX0_init (kws yX0_init cX0_init 2 none) d args1 hs r := hS 57
theorem sn_58 {E : kE} {XX : State → Prop} {σ : List Nat} {zs : List (String × String × Nat)} {l : Launch} {d : Nat} {cl : kCall} (hS : kSnd E XX σ zs l kY kWS d cl) : ∀ args1 hs r, cl 58 args1 hs = some r → kMet E XX σ zs l yX0_append (kws yX0_append cX0_append 2 none) d args1 hs r := hS 58
theorem sn_59 {E : kE} {XX : State → Prop} {σ : List Nat} {zs : List (String × String × Nat)} {l : Launch} {d : Nat} {cl : kCall} (hS : kSnd E XX σ zs l kY kWS d cl) : ∀ args1 hs r, cl 59 args1 hs = some r → kMet E XX σ zs l yX0_stepAt (kws yX0_stepAt cX0_stepAt 2 (some .int)) d args1 hs r := hS 59
theorem sn_60 {E : kE} {XX : State → Prop} {σ : List Nat} {zs : List (String × String × Nat)} {l : Launch} {d : Nat} {cl : kCall} (hS : kSnd E XX σ zs l kY kWS d cl) : ∀ args1 hs r, cl 60 args1 hs = some r → kMet E XX σ zs l yX0_isMove (kws yX0_isMove cX0_isMove 1 (some .boolean)) d args1 hs r := hS 60
theorem sn_61 {E : kE} {XX : State → Prop} {σ : List Nat} {zs : List (String × String × Nat)} {l : Launch} {d : Nat} {cl : kCall} (hS : kSnd E XX σ zs l kY kWS d cl) : ∀ args1 hs r, cl 61 args1 hs = some r → kMet E XX σ zs l yX6_init (kws yX6_init cX6_init 2 none) d args1 hs r := hS 61
theorem sn_62 {E : kE} {XX : State → Prop} {σ : List Nat} {zs : List (String × String × Nat)} {l : Launch} {d : Nat} {cl : kCall} (hS : kSnd E XX σ zs l kY kWS d cl) : ∀ args1 hs r, cl 62 args1 hs = some r → kMet E XX σ zs l yX6_take (kws yX6_take cX6_take 5 none) d args1 hs r := hS 62
theorem sn_63 {E : kE} {XX : State → Prop} {σ : List Nat} {zs : List (String × String × Nat)} {l : Launch} {d : Nat} {cl : kCall} (hS : kSnd E XX σ zs l kY kWS d cl) : ∀ args1 hs r, cl 63 args1 hs = some r → kMet E XX σ zs l yX6_countDistinct (kws yX6_countDistinct cX6_countDistinct 4 (some .int)) d args1 hs r := hS 63
theorem sn_64 {E : kE} {XX : State → Prop} {σ : List Nat} {zs : List (String × String × Nat)} {l : Launch} {d : Nat} {cl : kCall} (hS : kSnd E XX σ zs l kY kWS d cl) : ∀ args1 hs r, cl 64 args1 hs = some r → kMet E XX σ zs l yX6_countUnmoved (kws yX6_countUnmoved cX6_countUnmoved 4 (some .int)) d args1 hs r := hS 64
theorem sn_65 {E : kE} {XX : State → Prop} {σ : List Nat} {zs : List (String × String × Nat)} {l : Launch} {d : Nat} {cl : kCall} (hS : kSnd E XX σ zs l kY kWS d cl) : ∀ args1 hs r, cl 65 args1 hs = some r → kMet E XX σ zs l yX6_followRounds (kws yX6_followRounds cX6_followRounds 5 none) d args1 hs r := hS 65
theorem sn_66 {E : kE} {XX : State → Prop} {σ : List Nat} {zs : List (String × String × Nat)} {l : Launch} {d : Nat} {cl : kCall} (hS : kSnd E XX σ zs l kY kWS d cl) : ∀ args1 hs r, cl 66 args1 hs = some r → kMet E XX σ zs l yX6_roundLength (kws yX6_roundLength cX6_roundLength 5 (some .int)) d args1 hs r := hS 66
theorem sn_67 {E : kE} {XX : State → Prop} {σ : List Nat} {zs : List (String × String × Nat)} {l : Launch} {d : Nat} {cl : kCall} (hS : kSnd E XX σ zs l kY kWS d cl) : ∀ args1 hs r, cl 67 args1 hs = some r → kMet E XX σ zs l yX6_commonMultiple (kws yX6_commonMultiple cX6_commonMultiple 4 (some .long)) d args1 hs r := hS 67
theorem sn_68 {E : kE} {XX : State → Prop} {σ : List Nat} {zs : List (String × String × Nat)} {l : Launch} {d : Nat} {cl : kCall} (hS : kSnd E XX σ zs l kY kWS d cl) : ∀ args1 hs r, cl 68 args1 hs = some r → kMet E XX σ zs l yX6_forget (kws yX6_forget cX6_forget 2 none) d args1 hs r := hS 68
theorem sn_69 {E : kE} {XX : State → Prop} {σ : List Nat} {zs : List (String × String × Nat)} {l : Launch} {d : Nat} {cl : kCall} (hS : kSnd E XX σ zs l kY kWS d cl) : ∀ args1 hs r, cl 69 args1 hs = some r → kMet E XX σ zs l yX6_meet (kws yX6_meet cX6_meet 2 (some .boolean)) d args1 hs r := hS 69
theorem sn_70 {E : kE} {XX : State → Prop} {σ : List Nat} {zs : List (String × String × Nat)} {l : Launch} {d : Nat} {cl : kCall} (hS : kSnd E XX σ zs l kY kWS d cl) : ∀ args1 hs r, cl 70 args1 hs = some r → kMet E XX σ zs l yX8_init (kws yX8_init cX8_init 3 none) d args1 hs r := hS 70
theorem sn_71 {E : kE} {XX : State → Prop} {σ : List Nat} {zs : List (String × String × Nat)} {l : Launch} {d : Nat} {cl : kCall} (hS : kSnd E XX σ zs l kY kWS d cl) : ∀ args1 hs r, cl 71 args1 hs = some r → kMet E XX σ zs l yX8_go (kws yX8_go cX8_go 3 none) d args1 hs r := hS 71
theorem sn_72 {E : kE} {XX : State → Prop} {σ : List Nat} {zs : List (String × String × Nat)} {l : Launch} {d : Nat} {cl : kCall} (hS : kSnd E XX σ zs l kY kWS d cl) : ∀ args1 hs r, cl 72 args1 hs = some r → kMet E XX σ zs l yX1_init (kws yX1_init cX1_init 4 none) d args1 hs r := hS 72
theorem sn_73 {E : kE} {XX : State → Prop} {σ : List Nat} {zs : List (String × String × Nat)} {l : Launch} {d : Nat} {cl : kCall} (hS : kSnd E XX σ zs l kY kWS d cl) : ∀ args1 hs r, cl 73 args1 hs = some r → kMet E XX σ zs l yX1_note (kws yX1_note cX1_note 3 none) d args1 hs r := hS 73
theorem sn_74 {E : kE} {XX : State → Prop} {σ : List Nat} {zs : List (String × String × Nat)} {l : Launch} {d : Nat} {cl : kCall} (hS : kSnd E XX σ zs l kY kWS d cl) : ∀ args1 hs r, cl 74 args1 hs = some r → kMet E XX σ zs l yX9_init (kws yX9_init cX9_init 1 none) d args1 hs r := hS 74
theorem sn_75 {E : kE} {XX : State → Prop} {σ : List Nat} {zs : List (String × String × Nat)} {l : Launch} {d : Nat} {cl : kCall} (hS : kSnd E XX σ zs l kY kWS d cl) : ∀ args1 hs r, cl 75 args1 hs = some r → kMet E XX σ zs l yX9_size (kws yX9_size cX9_size 4 (some .int)) d args1 hs r := hS 75
theorem sn_76 {E : kE} {XX : State → Prop} {σ : List Nat} {zs : List (String × String × Nat)} {l : Launch} {d : Nat} {cl : kCall} (hS : kSnd E XX σ zs l kY kWS d cl) : ∀ args1 hs r, cl 76 args1 hs = some r → kMet E XX σ zs l yX9_map (kws yX9_map cX9_map 2 (some .int)) d args1 hs r := hS 76
theorem sn_77 {E : kE} {XX : State → Prop} {σ : List Nat} {zs : List (String × String × Nat)} {l : Launch} {d : Nat} {cl : kCall} (hS : kSnd E XX σ zs l kY kWS d cl) : ∀ args1 hs r, cl 77 args1 hs = some r → kMet E XX σ zs l yX9_then (kws yX9_then cX9_then 4 (some .int)) d args1 hs r := hS 77
theorem sn_78 {E : kE} {XX : State → Prop} {σ : List Nat} {zs : List (String × String × Nat)} {l : Launch} {d : Nat} {cl : kCall} (hS : kSnd E XX σ zs l kY kWS d cl) : ∀ args1 hs r, cl 78 args1 hs = some r → kMet E XX σ zs l yX9_walker (kws yX9_walker cX9_walker 4 (some .int)) d args1 hs r := hS 78
theorem sn_79 {E : kE} {XX : State → Prop} {σ : List Nat} {zs : List (String × String × Nat)} {l : Launch} {d : Nat} {cl : kCall} (hS : kSnd E XX σ zs l kY kWS d cl) : ∀ args1 hs r, cl 79 args1 hs = some r → kMet E XX σ zs l yX9_claim (kws yX9_claim cX9_claim 6 (some .int)) d args1 hs r := hS 79
theorem sn_80 {E : kE} {XX : State → Prop} {σ : List Nat} {zs : List (String × String × Nat)} {l : Launch} {d : Nat} {cl : kCall} (hS : kSnd E XX σ zs l kY kWS d cl) : ∀ args1 hs r, cl 80 args1 hs = some r → kMet E XX σ zs l yX9_send (kws yX9_send cX9_send 7 (some .int)) d args1 hs r := hS 80
theorem sn_81 {E : kE} {XX : State → Prop} {σ : List Nat} {zs : List (String × String × Nat)} {l : Launch} {d : Nat} {cl : kCall} (hS : kSnd E XX σ zs l kY kWS d cl) : ∀ args1 hs r, cl 81 args1 hs = some r → kMet E XX σ zs l yX9_trial (kws yX9_trial cX9_trial 3 (some .boolean)) d args1 hs r := hS 81
theorem sn_82 {E : kE} {XX : State → Prop} {σ : List Nat} {zs : List (String × String × Nat)} {l : Launch} {d : Nat} {cl : kCall} (hS : kSnd E XX σ zs l kY kWS d cl) : ∀ args1 hs r, cl 82 args1 hs = some r → kMet E XX σ zs l yX9_objects (kws yX9_objects cX9_objects 2 (some .int)) d args1 hs r := hS 82
theorem sn_83 {E : kE} {XX : State → Prop} {σ : List Nat} {zs : List (String × String × Nat)} {l : Launch} {d : Nat} {cl : kCall} (hS : kSnd E XX σ zs l kY kWS d cl) : ∀ args1 hs r, cl 83 args1 hs = some r → kMet E XX σ zs l yX9_unrank (kws yX9_unrank cX9_unrank 3 (some .int)) d args1 hs r := hS 83
theorem sn_84 {E : kE} {XX : State → Prop} {σ : List Nat} {zs : List (String × String × Nat)} {l : Launch} {d : Nat} {cl : kCall} (hS : kSnd E XX σ zs l kY kWS d cl) : ∀ args1 hs r, cl 84 args1 hs = some r → kMet E XX σ zs l yX9_rank (kws yX9_rank cX9_rank 3 (some .int)) d args1 hs r := hS 84
theorem sn_85 {E : kE} {XX : State → Prop} {σ : List Nat} {zs : List (String × String × Nat)} {l : Launch} {d : Nat} {cl : kCall} (hS : kSnd E XX σ zs l kY kWS d cl) : ∀ args1 hs r, cl 85 args1 hs = some r → kMet E XX σ zs l yX9_statistic (kws yX9_statistic cX9_statistic 4 (some .int)) d args1 hs r := hS 85
theorem sn_86 {E : kE} {XX : State → Prop} {σ : List Nat} {zs : List (String × String × Nat)} {l : Launch} {d : Nat} {cl : kCall} (hS : kSnd E XX σ zs l kY kWS d cl) : ∀ args1 hs r, cl 86 args1 hs = some r → kMet E XX σ zs l yX9_spread (kws yX9_spread cX9_spread 4 (some .int)) d args1 hs r := hS 86
theorem sn_87 {E : kE} {XX : State → Prop} {σ : List Nat} {zs : List (String × String × Nat)} {l : Launch} {d : Nat} {cl : kCall} (hS : kSnd E XX σ zs l kY kWS d cl) : ∀ args1 hs r, cl 87 args1 hs = some r → kMet E XX σ zs l yX9_signs (kws yX9_signs cX9_signs 5 (some .int)) d args1 hs r := hS 87
theorem sn_88 {E : kE} {XX : State → Prop} {σ : List Nat} {zs : List (String × String × Nat)} {l : Launch} {d : Nat} {cl : kCall} (hS : kSnd E XX σ zs l kY kWS d cl) : ∀ args1 hs r, cl 88 args1 hs = some r → kMet E XX σ zs l yX9_alike (kws yX9_alike cX9_alike 6 (some .boolean)) d args1 hs r := hS 88
theorem sn_89 {E : kE} {XX : State → Prop} {σ : List Nat} {zs : List (String × String × Nat)} {l : Launch} {d : Nat} {cl : kCall} (hS : kSnd E XX σ zs l kY kWS d cl) : ∀ args1 hs r, cl 89 args1 hs = some r → kMet E XX σ zs l yX9_contains (kws yX9_contains cX9_contains 4 (some .int)) d args1 hs r := hS 89
theorem sn_90 {E : kE} {XX : State → Prop} {σ : List Nat} {zs : List (String × String × Nat)} {l : Launch} {d : Nat} {cl : kCall} (hS : kSnd E XX σ zs l kY kWS d cl) : ∀ args1 hs r, cl 90 args1 hs = some r → kMet E XX σ zs l yX9_sorted (kws yX9_sorted cX9_sorted 4 (some .int)) d args1 hs r := hS 90
theorem sn_91 {E : kE} {XX : State → Prop} {σ : List Nat} {zs : List (String × String × Nat)} {l : Launch} {d : Nat} {cl : kCall} (hS : kSnd E XX σ zs l kY kWS d cl) : ∀ args1 hs r, cl 91 args1 hs = some r → kMet E XX σ zs l yX9_ofMap (kws yX9_ofMap cX9_ofMap 4 (some .int)) d args1 hs r := hS 91
theorem sn_92 {E : kE} {XX : State → Prop} {σ : List Nat} {zs : List (String × String × Nat)} {l : Launch} {d : Nat} {cl : kCall} (hS : kSnd E XX σ zs l kY kWS d cl) : ∀ args1 hs r, cl 92 args1 hs = some r → kMet E XX σ zs l yX9_image (kws yX9_image cX9_image 4 (some .int)) d args1 hs r := hS 92
theorem sn_93 {E : kE} {XX : State → Prop} {σ : List Nat} {zs : List (String × String × Nat)} {l : Launch} {d : Nat} {cl : kCall} (hS : kSnd E XX σ zs l kY kWS d cl) : ∀ args1 hs r, cl 93 args1 hs = some r → kMet E XX σ zs l yX9_source (kws yX9_source cX9_source 5 (some .int)) d args1 hs r := hS 93
theorem sn_94 {E : kE} {XX : State → Prop} {σ : List Nat} {zs : List (String × String × Nat)} {l : Launch} {d : Nat} {cl : kCall} (hS : kSnd E XX σ zs l kY kWS d cl) : ∀ args1 hs r, cl 94 args1 hs = some r → kMet E XX σ zs l yX9_rounds (kws yX9_rounds cX9_rounds 3 (some .int)) d args1 hs r := hS 94
theorem sn_95 {E : kE} {XX : State → Prop} {σ : List Nat} {zs : List (String × String × Nat)} {l : Launch} {d : Nat} {cl : kCall} (hS : kSnd E XX σ zs l kY kWS d cl) : ∀ args1 hs r, cl 95 args1 hs = some r → kMet E XX σ zs l yX9_period (kws yX9_period cX9_period 3 (some .long)) d args1 hs r := hS 95
theorem sn_96 {E : kE} {XX : State → Prop} {σ : List Nat} {zs : List (String × String × Nat)} {l : Launch} {d : Nat} {cl : kCall} (hS : kSnd E XX σ zs l kY kWS d cl) : ∀ args1 hs r, cl 96 args1 hs = some r → kMet E XX σ zs l yX9_against (kws yX9_against cX9_against 5 (some .int)) d args1 hs r := hS 96
theorem sn_97 {E : kE} {XX : State → Prop} {σ : List Nat} {zs : List (String × String × Nat)} {l : Launch} {d : Nat} {cl : kCall} (hS : kSnd E XX σ zs l kY kWS d cl) : ∀ args1 hs r, cl 97 args1 hs = some r → kMet E XX σ zs l yX9_cancels (kws yX9_cancels cX9_cancels 5 (some .boolean)) d args1 hs r := hS 97
theorem sn_98 {E : kE} {XX : State → Prop} {σ : List Nat} {zs : List (String × String × Nat)} {l : Launch} {d : Nat} {cl : kCall} (hS : kSnd E XX σ zs l kY kWS d cl) : ∀ args1 hs r, cl 98 args1 hs = some r → kMet E XX σ zs l yX9_ofWalker (kws yX9_ofWalker cX9_ofWalker 4 (some .int)) d args1 hs r := hS 98
theorem sn_99 {E : kE} {XX : State → Prop} {σ : List Nat} {zs : List (String × String × Nat)} {l : Launch} {d : Nat} {cl : kCall} (hS : kSnd E XX σ zs l kY kWS d cl) : ∀ args1 hs r, cl 99 args1 hs = some r → kMet E XX σ zs l yX9_ofClaim (kws yX9_ofClaim cX9_ofClaim 4 (some .int)) d args1 hs r := hS 99
theorem sn_100 {E : kE} {XX : State → Prop} {σ : List Nat} {zs : List (String × String × Nat)} {l : Launch} {d : Nat} {cl : kCall} (hS : kSnd E XX σ zs l kY kWS d cl) : ∀ args1 hs r, cl 100 args1 hs = some r → kMet E XX σ zs l yX9_many (kws yX9_many cX9_many 2 (some .int)) d args1 hs r := hS 100
theorem sn_101 {E : kE} {XX : State → Prop} {σ : List Nat} {zs : List (String × String × Nat)} {l : Launch} {d : Nat} {cl : kCall} (hS : kSnd E XX σ zs l kY kWS d cl) : ∀ args1 hs r, cl 101 args1 hs = some r → kMet E XX σ zs l yX9_mean (kws yX9_mean cX9_mean 5 (some .double)) d args1 hs r := hS 101
theorem sn_102 {E : kE} {XX : State → Prop} {σ : List Nat} {zs : List (String × String × Nat)} {l : Launch} {d : Nat} {cl : kCall} (hS : kSnd E XX σ zs l kY kWS d cl) : ∀ args1 hs r, cl 102 args1 hs = some r → kMet E XX σ zs l yX9_digest (kws yX9_digest cX9_digest 5 (some .long)) d args1 hs r := hS 102
theorem sn_103 {E : kE} {XX : State → Prop} {σ : List Nat} {zs : List (String × String × Nat)} {l : Launch} {d : Nat} {cl : kCall} (hS : kSnd E XX σ zs l kY kWS d cl) : ∀ args1 hs r, cl 103 args1 hs = some r → kMet E XX σ zs l yX9_digestOfObjects (kws yX9_digestOfObjects cX9_digestOfObjects 7 (some .long)) d args1 hs r := hS 103
theorem sn_104 {E : kE} {XX : State → Prop} {σ : List Nat} {zs : List (String × String × Nat)} {l : Launch} {d : Nat} {cl : kCall} (hS : kSnd E XX σ zs l kY kWS d cl) : ∀ args1 hs r, cl 104 args1 hs = some r → kMet E XX σ zs l yX9_digestOfMap (kws yX9_digestOfMap cX9_digestOfMap 7 (some .long)) d args1 hs r := hS 104
theorem sn_105 {E : kE} {XX : State → Prop} {σ : List Nat} {zs : List (String × String × Nat)} {l : Launch} {d : Nat} {cl : kCall} (hS : kSnd E XX σ zs l kY kWS d cl) : ∀ args1 hs r, cl 105 args1 hs = some r → kMet E XX σ zs l yX9_needStep (kws yX9_needStep cX9_needStep 1 none) d args1 hs r := hS 105
theorem sn_106 {E : kE} {XX : State → Prop} {σ : List Nat} {zs : List (String × String × Nat)} {l : Launch} {d : Nat} {cl : kCall} (hS : kSnd E XX σ zs l kY kWS d cl) : ∀ args1 hs r, cl 106 args1 hs = some r → kMet E XX σ zs l yX9_needFamily (kws yX9_needFamily cX9_needFamily 1 none) d args1 hs r := hS 106
theorem sn_107 {E : kE} {XX : State → Prop} {σ : List Nat} {zs : List (String × String × Nat)} {l : Launch} {d : Nat} {cl : kCall} (hS : kSnd E XX σ zs l kY kWS d cl) : ∀ args1 hs r, cl 107 args1 hs = some r → kMet E XX σ zs l yX9_needStatistic (kws yX9_needStatistic cX9_needStatistic 1 none) d args1 hs r := hS 107
theorem sn_108 {E : kE} {XX : State → Prop} {σ : List Nat} {zs : List (String × String × Nat)} {l : Launch} {d : Nat} {cl : kCall} (hS : kSnd E XX σ zs l kY kWS d cl) : ∀ args1 hs r, cl 108 args1 hs = some r → kMet E XX σ zs l yX9_needRank (kws yX9_needRank cX9_needRank 3 none) d args1 hs r := hS 108
theorem sn_109 {E : kE} {XX : State → Prop} {σ : List Nat} {zs : List (String × String × Nat)} {l : Launch} {d : Nat} {cl : kCall} (hS : kSnd E XX σ zs l kY kWS d cl) : ∀ args1 hs r, cl 109 args1 hs = some r → kMet E XX σ zs l yX9_chartAt (kws yX9_chartAt cX9_chartAt 3 (some (.object "Bijectory$Chart"))) d args1 hs r := hS 109
theorem sn_110 {E : kE} {XX : State → Prop} {σ : List Nat} {zs : List (String × String × Nat)} {l : Launch} {d : Nat} {cl : kCall} (hS : kSnd E XX σ zs l kY kWS d cl) : ∀ args1 hs r, cl 110 args1 hs = some r → kMet E XX σ zs l yX9_walkerAt (kws yX9_walkerAt cX9_walkerAt 3 (some (.object "Bijectory$Walker"))) d args1 hs r := hS 110
theorem sn_111 {E : kE} {XX : State → Prop} {σ : List Nat} {zs : List (String × String × Nat)} {l : Launch} {d : Nat} {cl : kCall} (hS : kSnd E XX σ zs l kY kWS d cl) : ∀ args1 hs r, cl 111 args1 hs = some r → kMet E XX σ zs l yX9_claimAt (kws yX9_claimAt cX9_claimAt 3 (some (.object "Bijectory$Claim"))) d args1 hs r := hS 111
theorem sn_112 {E : kE} {XX : State → Prop} {σ : List Nat} {zs : List (String × String × Nat)} {l : Launch} {d : Nat} {cl : kCall} (hS : kSnd E XX σ zs l kY kWS d cl) : ∀ args1 hs r, cl 112 args1 hs = some r → kMet E XX σ zs l yX9_signOf (kws yX9_signOf cX9_signOf 1 (some .int)) d args1 hs r := hS 112
theorem sn_113 {E : kE} {XX : State → Prop} {σ : List Nat} {zs : List (String × String × Nat)} {l : Launch} {d : Nat} {cl : kCall} (hS : kSnd E XX σ zs l kY kWS d cl) : ∀ args1 hs r, cl 113 args1 hs = some r → kMet E XX σ zs l yX9_patternLength (kws yX9_patternLength cX9_patternLength 2 (some .int)) d args1 hs r := hS 113
theorem sn_114 {E : kE} {XX : State → Prop} {σ : List Nat} {zs : List (String × String × Nat)} {l : Launch} {d : Nat} {cl : kCall} (hS : kSnd E XX σ zs l kY kWS d cl) : ∀ args1 hs r, cl 114 args1 hs = some r → kMet E XX σ zs l yX9_tryClaim (kws yX9_tryClaim cX9_tryClaim 4 (some .boolean)) d args1 hs r := hS 114
theorem sn_115 {E : kE} {XX : State → Prop} {σ : List Nat} {zs : List (String × String × Nat)} {l : Launch} {d : Nat} {cl : kCall} (hS : kSnd E XX σ zs l kY kWS d cl) : ∀ args1 hs r, cl 115 args1 hs = some r → kMet E XX σ zs l yX9_firstAgainst (kws yX9_firstAgainst cX9_firstAgainst 6 (some .int)) d args1 hs r := hS 115
theorem sn_116 {E : kE} {XX : State → Prop} {σ : List Nat} {zs : List (String × String × Nat)} {l : Launch} {d : Nat} {cl : kCall} (hS : kSnd E XX σ zs l kY kWS d cl) : ∀ args1 hs r, cl 116 args1 hs = some r → kMet E XX σ zs l yX9_isPairedOff (kws yX9_isPairedOff cX9_isPairedOff 6 (some .boolean)) d args1 hs r := hS 116
theorem sn_117 {E : kE} {XX : State → Prop} {σ : List Nat} {zs : List (String × String × Nat)} {l : Launch} {d : Nat} {cl : kCall} (hS : kSnd E XX σ zs l kY kWS d cl) : ∀ args1 hs r, cl 117 args1 hs = some r → kMet E XX σ zs l yX9_refutedClaims (kws yX9_refutedClaims cX9_refutedClaims 3 (some .int)) d args1 hs r := hS 117
end
