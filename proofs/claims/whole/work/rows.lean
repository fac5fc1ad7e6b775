section
-- ===== PART A: goes FIRST, ahead of the names: the tables' words, and 'selects' of the private methods out of them =====
/-- a private method of a class that the tables say can be made, by its rows of tables_1 -/
def lw_okq (q : MethodName × Nat) : Prop := (q.1.cls ≠ "java/lang/invoke/MethodHandle" ∧ q.1.cls ≠ "java/lang/invoke/VarHandle") ∧ Cond.instantiable q.1.cls q.2 ∈ tables_1 ∧ Cond.privateMethod q.1 ∈ tables_1 ∧ Cond.instanceMethod q.1 ∈ tables_1
theorem lw_p0 : lw_okq (⟨"Bijectory$Realm", "listPaths", "()V"⟩, 6) := ⟨⟨by decide +kernel, by decide +kernel⟩, List.mem_of_getElem? (i := 76) (by decide +kernel), List.mem_of_getElem? (i := 110) (by decide +kernel), List.mem_of_getElem? (i := 111) (by decide +kernel)⟩
theorem lw_p1 : lw_okq (⟨"Bijectory$Realm", "listOrders", "()V"⟩, 6) := ⟨⟨by decide +kernel, by decide +kernel⟩, List.mem_of_getElem? (i := 76) (by decide +kernel), List.mem_of_getElem? (i := 123) (by decide +kernel), List.mem_of_getElem? (i := 124) (by decide +kernel)⟩
theorem lw_p2 : lw_okq (⟨"Bijectory$Realm", "listImages", "(I)V"⟩, 6) := ⟨⟨by decide +kernel, by decide +kernel⟩, List.mem_of_getElem? (i := 76) (by decide +kernel), List.mem_of_getElem? (i := 135) (by decide +kernel), List.mem_of_getElem? (i := 136) (by decide +kernel)⟩
theorem lw_p3 : lw_okq (⟨"Bijectory$Realm", "codes", "(I)[I"⟩, 6) := ⟨⟨by decide +kernel, by decide +kernel⟩, List.mem_of_getElem? (i := 76) (by decide +kernel), List.mem_of_getElem? (i := 147) (by decide +kernel), List.mem_of_getElem? (i := 148) (by decide +kernel)⟩
theorem lw_p4 : lw_okq (⟨"Bijectory$Realm", "listValues", "(II)V"⟩, 6) := ⟨⟨by decide +kernel, by decide +kernel⟩, List.mem_of_getElem? (i := 76) (by decide +kernel), List.mem_of_getElem? (i := 228) (by decide +kernel), List.mem_of_getElem? (i := 229) (by decide +kernel)⟩
theorem lw_p5 : lw_okq (⟨"Bijectory", "digestOfObjects", "(J)J"⟩, 11) := ⟨⟨by decide +kernel, by decide +kernel⟩, List.mem_of_getElem? (i := 34) (by decide +kernel), List.mem_of_getElem? (i := 313) (by decide +kernel), List.mem_of_getElem? (i := 314) (by decide +kernel)⟩
theorem lw_p6 : lw_okq (⟨"java/lang/Throwable", "fillInStackTrace", "(I)Ljava/lang/Throwable;"⟩, 6) := ⟨⟨by decide +kernel, by decide +kernel⟩, List.mem_of_getElem? (i := 360) (by decide +kernel), List.mem_of_getElem? (i := 358) (by decide +kernel), List.mem_of_getElem? (i := 359) (by decide +kernel)⟩
theorem lw_p7 : lw_okq (⟨"Bijectory", "refutedClaims", "()I"⟩, 11) := ⟨⟨by decide +kernel, by decide +kernel⟩, List.mem_of_getElem? (i := 34) (by decide +kernel), List.mem_of_getElem? (i := 390) (by decide +kernel), List.mem_of_getElem? (i := 391) (by decide +kernel)⟩
theorem lw_p8 : lw_okq (⟨"Bijectory", "claimAt", "(I)LBijectory$Claim;"⟩, 11) := ⟨⟨by decide +kernel, by decide +kernel⟩, List.mem_of_getElem? (i := 34) (by decide +kernel), List.mem_of_getElem? (i := 394) (by decide +kernel), List.mem_of_getElem? (i := 395) (by decide +kernel)⟩
theorem lw_p9 : lw_okq (⟨"Bijectory", "digestOfMap", "(JI)J"⟩, 11) := ⟨⟨by decide +kernel, by decide +kernel⟩, List.mem_of_getElem? (i := 34) (by decide +kernel), List.mem_of_getElem? (i := 438) (by decide +kernel), List.mem_of_getElem? (i := 439) (by decide +kernel)⟩
theorem lw_p10 : lw_okq (⟨"Bijectory", "chartAt", "(I)LBijectory$Chart;"⟩, 11) := ⟨⟨by decide +kernel, by decide +kernel⟩, List.mem_of_getElem? (i := 34) (by decide +kernel), List.mem_of_getElem? (i := 446) (by decide +kernel), List.mem_of_getElem? (i := 447) (by decide +kernel)⟩
theorem lw_p11 : lw_okq (⟨"Bijectory$Survey", "countDistinct", "(I)I"⟩, 2) := ⟨⟨by decide +kernel, by decide +kernel⟩, List.mem_of_getElem? (i := 44) (by decide +kernel), List.mem_of_getElem? (i := 466) (by decide +kernel), List.mem_of_getElem? (i := 467) (by decide +kernel)⟩
theorem lw_p12 : lw_okq (⟨"Bijectory$Survey", "forget", "()V"⟩, 2) := ⟨⟨by decide +kernel, by decide +kernel⟩, List.mem_of_getElem? (i := 44) (by decide +kernel), List.mem_of_getElem? (i := 470) (by decide +kernel), List.mem_of_getElem? (i := 471) (by decide +kernel)⟩
theorem lw_p13 : lw_okq (⟨"Bijectory$Survey", "meet", "(I)Z"⟩, 2) := ⟨⟨by decide +kernel, by decide +kernel⟩, List.mem_of_getElem? (i := 44) (by decide +kernel), List.mem_of_getElem? (i := 474) (by decide +kernel), List.mem_of_getElem? (i := 475) (by decide +kernel)⟩
theorem lw_p14 : lw_okq (⟨"Bijectory$Survey", "countUnmoved", "(I)I"⟩, 2) := ⟨⟨by decide +kernel, by decide +kernel⟩, List.mem_of_getElem? (i := 44) (by decide +kernel), List.mem_of_getElem? (i := 482) (by decide +kernel), List.mem_of_getElem? (i := 483) (by decide +kernel)⟩
theorem lw_p15 : lw_okq (⟨"Bijectory$Survey", "followRounds", "(LBijectory$Chart;I)V"⟩, 2) := ⟨⟨by decide +kernel, by decide +kernel⟩, List.mem_of_getElem? (i := 44) (by decide +kernel), List.mem_of_getElem? (i := 487) (by decide +kernel), List.mem_of_getElem? (i := 488) (by decide +kernel)⟩
def lw_privs_1 : List (MethodName × Nat) := [(⟨"Bijectory$Realm", "listPaths", "()V"⟩, 6), (⟨"Bijectory$Realm", "listOrders", "()V"⟩, 6), (⟨"Bijectory$Realm", "listImages", "(I)V"⟩, 6), (⟨"Bijectory$Realm", "codes", "(I)[I"⟩, 6), (⟨"Bijectory$Realm", "listValues", "(II)V"⟩, 6), (⟨"Bijectory", "digestOfObjects", "(J)J"⟩, 11), (⟨"java/lang/Throwable", "fillInStackTrace", "(I)Ljava/lang/Throwable;"⟩, 6), (⟨"Bijectory", "refutedClaims", "()I"⟩, 11), (⟨"Bijectory", "claimAt", "(I)LBijectory$Claim;"⟩, 11), (⟨"Bijectory", "digestOfMap", "(JI)J"⟩, 11), (⟨"Bijectory", "chartAt", "(I)LBijectory$Chart;"⟩, 11), (⟨"Bijectory$Survey", "countDistinct", "(I)I"⟩, 2), (⟨"Bijectory$Survey", "forget", "()V"⟩, 2), (⟨"Bijectory$Survey", "meet", "(I)Z"⟩, 2), (⟨"Bijectory$Survey", "countUnmoved", "(I)I"⟩, 2), (⟨"Bijectory$Survey", "followRounds", "(LBijectory$Chart;I)V"⟩, 2)]
theorem lw_r1 : ∀ q ∈ lw_privs_1, lw_okq q := List.forall_mem_cons.mpr ⟨lw_p0, List.forall_mem_cons.mpr ⟨lw_p1, List.forall_mem_cons.mpr ⟨lw_p2, List.forall_mem_cons.mpr ⟨lw_p3, List.forall_mem_cons.mpr ⟨lw_p4, List.forall_mem_cons.mpr ⟨lw_p5, List.forall_mem_cons.mpr ⟨lw_p6, List.forall_mem_cons.mpr ⟨lw_p7, List.forall_mem_cons.mpr ⟨lw_p8, List.forall_mem_cons.mpr ⟨lw_p9, List.forall_mem_cons.mpr ⟨lw_p10, List.forall_mem_cons.mpr ⟨lw_p11, List.forall_mem_cons.mpr ⟨lw_p12, List.forall_mem_cons.mpr ⟨lw_p13, List.forall_mem_cons.mpr ⟨lw_p14, List.forall_mem_cons.mpr ⟨lw_p15, fun _ h => absurd h List.not_mem_nil⟩⟩⟩⟩⟩⟩⟩⟩⟩⟩⟩⟩⟩⟩⟩⟩
theorem lw_p16 : lw_okq (⟨"Bijectory$Survey", "roundLength", "(II)I"⟩, 2) := ⟨⟨by decide +kernel, by decide +kernel⟩, List.mem_of_getElem? (i := 44) (by decide +kernel), List.mem_of_getElem? (i := 491) (by decide +kernel), List.mem_of_getElem? (i := 492) (by decide +kernel)⟩
theorem lw_p17 : lw_okq (⟨"Bijectory", "needRank", "(II)V"⟩, 11) := ⟨⟨by decide +kernel, by decide +kernel⟩, List.mem_of_getElem? (i := 34) (by decide +kernel), List.mem_of_getElem? (i := 502) (by decide +kernel), List.mem_of_getElem? (i := 503) (by decide +kernel)⟩
theorem lw_p18 : lw_okq (⟨"Bijectory", "firstAgainst", "(LBijectory$Chart;II)I"⟩, 11) := ⟨⟨by decide +kernel, by decide +kernel⟩, List.mem_of_getElem? (i := 34) (by decide +kernel), List.mem_of_getElem? (i := 520) (by decide +kernel), List.mem_of_getElem? (i := 521) (by decide +kernel)⟩
theorem lw_p19 : lw_okq (⟨"Bijectory", "walkerAt", "(I)LBijectory$Walker;"⟩, 11) := ⟨⟨by decide +kernel, by decide +kernel⟩, List.mem_of_getElem? (i := 34) (by decide +kernel), List.mem_of_getElem? (i := 532) (by decide +kernel), List.mem_of_getElem? (i := 533) (by decide +kernel)⟩
theorem lw_p20 : lw_okq (⟨"Bijectory", "tryClaim", "(LBijectory$Claim;LBijectory$Chart;)Z"⟩, 11) := ⟨⟨by decide +kernel, by decide +kernel⟩, List.mem_of_getElem? (i := 34) (by decide +kernel), List.mem_of_getElem? (i := 730) (by decide +kernel), List.mem_of_getElem? (i := 731) (by decide +kernel)⟩
theorem lw_p21 : lw_okq (⟨"Bijectory", "isPairedOff", "(LBijectory$Chart;II)Z"⟩, 11) := ⟨⟨by decide +kernel, by decide +kernel⟩, List.mem_of_getElem? (i := 34) (by decide +kernel), List.mem_of_getElem? (i := 870) (by decide +kernel), List.mem_of_getElem? (i := 871) (by decide +kernel)⟩
theorem lw_p22 : lw_okq (⟨"BijectoryModel", "grow", "(I)V"⟩, 11) := ⟨⟨by decide +kernel, by decide +kernel⟩, List.mem_of_getElem? (i := 893) (by decide +kernel), List.mem_of_getElem? (i := 929) (by decide +kernel), List.mem_of_getElem? (i := 930) (by decide +kernel)⟩
theorem lw_p23 : lw_okq (⟨"BijectoryModel", "fill", "(II[I)V"⟩, 11) := ⟨⟨by decide +kernel, by decide +kernel⟩, List.mem_of_getElem? (i := 893) (by decide +kernel), List.mem_of_getElem? (i := 939) (by decide +kernel), List.mem_of_getElem? (i := 940) (by decide +kernel)⟩
theorem lw_p24 : lw_okq (⟨"BijectoryModel", "start", "(ZI)Z"⟩, 11) := ⟨⟨by decide +kernel, by decide +kernel⟩, List.mem_of_getElem? (i := 893) (by decide +kernel), List.mem_of_getElem? (i := 988) (by decide +kernel), List.mem_of_getElem? (i := 989) (by decide +kernel)⟩
theorem lw_p25 : lw_okq (⟨"BijectoryModel", "refuse", "(ZI)Z"⟩, 11) := ⟨⟨by decide +kernel, by decide +kernel⟩, List.mem_of_getElem? (i := 893) (by decide +kernel), List.mem_of_getElem? (i := 992) (by decide +kernel), List.mem_of_getElem? (i := 993) (by decide +kernel)⟩
theorem lw_p26 : lw_okq (⟨"java/util/ArrayList", "add", "(Ljava/lang/Object;[Ljava/lang/Object;I)V"⟩, 3) := ⟨⟨by decide +kernel, by decide +kernel⟩, List.mem_of_getElem? (i := 900) (by decide +kernel), List.mem_of_getElem? (i := 1032) (by decide +kernel), List.mem_of_getElem? (i := 1033) (by decide +kernel)⟩
theorem lw_p27 : lw_okq (⟨"java/util/ArrayList", "grow", "()[Ljava/lang/Object;"⟩, 3) := ⟨⟨by decide +kernel, by decide +kernel⟩, List.mem_of_getElem? (i := 900) (by decide +kernel), List.mem_of_getElem? (i := 1036) (by decide +kernel), List.mem_of_getElem? (i := 1037) (by decide +kernel)⟩
theorem lw_p28 : lw_okq (⟨"java/util/ArrayList", "grow", "(I)[Ljava/lang/Object;"⟩, 3) := ⟨⟨by decide +kernel, by decide +kernel⟩, List.mem_of_getElem? (i := 900) (by decide +kernel), List.mem_of_getElem? (i := 1040) (by decide +kernel), List.mem_of_getElem? (i := 1041) (by decide +kernel)⟩
theorem lw_p29 : lw_okq (⟨"BijectoryModel", "isNoMap", "(I)Z"⟩, 11) := ⟨⟨by decide +kernel, by decide +kernel⟩, List.mem_of_getElem? (i := 893) (by decide +kernel), List.mem_of_getElem? (i := 1090) (by decide +kernel), List.mem_of_getElem? (i := 1091) (by decide +kernel)⟩
theorem lw_p30 : lw_okq (⟨"BijectoryModel", "isClaimed", "(I)Z"⟩, 11) := ⟨⟨by decide +kernel, by decide +kernel⟩, List.mem_of_getElem? (i := 893) (by decide +kernel), List.mem_of_getElem? (i := 1108) (by decide +kernel), List.mem_of_getElem? (i := 1109) (by decide +kernel)⟩
theorem lw_p31 : lw_okq (⟨"BijectoryModel", "to", "(I)I"⟩, 11) := ⟨⟨by decide +kernel, by decide +kernel⟩, List.mem_of_getElem? (i := 893) (by decide +kernel), List.mem_of_getElem? (i := 1161) (by decide +kernel), List.mem_of_getElem? (i := 1162) (by decide +kernel)⟩
def lw_privs_2 : List (MethodName × Nat) := [(⟨"Bijectory$Survey", "roundLength", "(II)I"⟩, 2), (⟨"Bijectory", "needRank", "(II)V"⟩, 11), (⟨"Bijectory", "firstAgainst", "(LBijectory$Chart;II)I"⟩, 11), (⟨"Bijectory", "walkerAt", "(I)LBijectory$Walker;"⟩, 11), (⟨"Bijectory", "tryClaim", "(LBijectory$Claim;LBijectory$Chart;)Z"⟩, 11), (⟨"Bijectory", "isPairedOff", "(LBijectory$Chart;II)Z"⟩, 11), (⟨"BijectoryModel", "grow", "(I)V"⟩, 11), (⟨"BijectoryModel", "fill", "(II[I)V"⟩, 11), (⟨"BijectoryModel", "start", "(ZI)Z"⟩, 11), (⟨"BijectoryModel", "refuse", "(ZI)Z"⟩, 11), (⟨"java/util/ArrayList", "add", "(Ljava/lang/Object;[Ljava/lang/Object;I)V"⟩, 3), (⟨"java/util/ArrayList", "grow", "()[Ljava/lang/Object;"⟩, 3), (⟨"java/util/ArrayList", "grow", "(I)[Ljava/lang/Object;"⟩, 3), (⟨"BijectoryModel", "isNoMap", "(I)Z"⟩, 11), (⟨"BijectoryModel", "isClaimed", "(I)Z"⟩, 11), (⟨"BijectoryModel", "to", "(I)I"⟩, 11)]
theorem lw_r2 : ∀ q ∈ lw_privs_2, lw_okq q := List.forall_mem_cons.mpr ⟨lw_p16, List.forall_mem_cons.mpr ⟨lw_p17, List.forall_mem_cons.mpr ⟨lw_p18, List.forall_mem_cons.mpr ⟨lw_p19, List.forall_mem_cons.mpr ⟨lw_p20, List.forall_mem_cons.mpr ⟨lw_p21, List.forall_mem_cons.mpr ⟨lw_p22, List.forall_mem_cons.mpr ⟨lw_p23, List.forall_mem_cons.mpr ⟨lw_p24, List.forall_mem_cons.mpr ⟨lw_p25, List.forall_mem_cons.mpr ⟨lw_p26, List.forall_mem_cons.mpr ⟨lw_p27, List.forall_mem_cons.mpr ⟨lw_p28, List.forall_mem_cons.mpr ⟨lw_p29, List.forall_mem_cons.mpr ⟨lw_p30, List.forall_mem_cons.mpr ⟨lw_p31, fun _ h => absurd h List.not_mem_nil⟩⟩⟩⟩⟩⟩⟩⟩⟩⟩⟩⟩⟩⟩⟩⟩
theorem lw_p32 : lw_okq (⟨"BijectoryModel", "index", "(II)I"⟩, 11) := ⟨⟨by decide +kernel, by decide +kernel⟩, List.mem_of_getElem? (i := 893) (by decide +kernel), List.mem_of_getElem? (i := 1179) (by decide +kernel), List.mem_of_getElem? (i := 1180) (by decide +kernel)⟩
theorem lw_p33 : lw_okq (⟨"BijectoryModel", "isTried", "(LBijectoryModel$Claim;)Z"⟩, 11) := ⟨⟨by decide +kernel, by decide +kernel⟩, List.mem_of_getElem? (i := 893) (by decide +kernel), List.mem_of_getElem? (i := 1243) (by decide +kernel), List.mem_of_getElem? (i := 1244) (by decide +kernel)⟩
theorem lw_p34 : lw_okq (⟨"BijectoryModel", "againstNow", "(III)I"⟩, 11) := ⟨⟨by decide +kernel, by decide +kernel⟩, List.mem_of_getElem? (i := 893) (by decide +kernel), List.mem_of_getElem? (i := 1247) (by decide +kernel), List.mem_of_getElem? (i := 1248) (by decide +kernel)⟩
theorem lw_p35 : lw_okq (⟨"BijectoryModel", "from", "(I)I"⟩, 11) := ⟨⟨by decide +kernel, by decide +kernel⟩, List.mem_of_getElem? (i := 893) (by decide +kernel), List.mem_of_getElem? (i := 1251) (by decide +kernel), List.mem_of_getElem? (i := 1252) (by decide +kernel)⟩
theorem lw_p36 : lw_okq (⟨"BijectoryModel", "statisticOf", "(III)I"⟩, 11) := ⟨⟨by decide +kernel, by decide +kernel⟩, List.mem_of_getElem? (i := 893) (by decide +kernel), List.mem_of_getElem? (i := 1255) (by decide +kernel), List.mem_of_getElem? (i := 1256) (by decide +kernel)⟩
theorem lw_p37 : lw_okq (⟨"BijectoryModel", "ofPath", "(II)I"⟩, 11) := ⟨⟨by decide +kernel, by decide +kernel⟩, List.mem_of_getElem? (i := 893) (by decide +kernel), List.mem_of_getElem? (i := 1259) (by decide +kernel), List.mem_of_getElem? (i := 1260) (by decide +kernel)⟩
theorem lw_p38 : lw_okq (⟨"BijectoryModel", "ofOrder", "(II)I"⟩, 11) := ⟨⟨by decide +kernel, by decide +kernel⟩, List.mem_of_getElem? (i := 893) (by decide +kernel), List.mem_of_getElem? (i := 1273) (by decide +kernel), List.mem_of_getElem? (i := 1274) (by decide +kernel)⟩
theorem lw_p39 : lw_okq (⟨"BijectoryModel", "read", "(I)V"⟩, 11) := ⟨⟨by decide +kernel, by decide +kernel⟩, List.mem_of_getElem? (i := 893) (by decide +kernel), List.mem_of_getElem? (i := 1277) (by decide +kernel), List.mem_of_getElem? (i := 1278) (by decide +kernel)⟩
theorem lw_p40 : lw_okq (⟨"BijectoryModel", "imageOf", "(II)I"⟩, 11) := ⟨⟨by decide +kernel, by decide +kernel⟩, List.mem_of_getElem? (i := 893) (by decide +kernel), List.mem_of_getElem? (i := 1281) (by decide +kernel), List.mem_of_getElem? (i := 1282) (by decide +kernel)⟩
theorem lw_p41 : lw_okq (⟨"BijectoryModel", "step", "(II)I"⟩, 11) := ⟨⟨by decide +kernel, by decide +kernel⟩, List.mem_of_getElem? (i := 893) (by decide +kernel), List.mem_of_getElem? (i := 1285) (by decide +kernel), List.mem_of_getElem? (i := 1286) (by decide +kernel)⟩
theorem lw_p42 : lw_okq (⟨"BijectoryModel", "shape", "(II)I"⟩, 11) := ⟨⟨by decide +kernel, by decide +kernel⟩, List.mem_of_getElem? (i := 893) (by decide +kernel), List.mem_of_getElem? (i := 1313) (by decide +kernel), List.mem_of_getElem? (i := 1314) (by decide +kernel)⟩
theorem lw_p43 : lw_okq (⟨"BijectoryModel", "invert", "(I)I"⟩, 11) := ⟨⟨by decide +kernel, by decide +kernel⟩, List.mem_of_getElem? (i := 893) (by decide +kernel), List.mem_of_getElem? (i := 1317) (by decide +kernel), List.mem_of_getElem? (i := 1318) (by decide +kernel)⟩
theorem lw_p44 : lw_okq (⟨"BijectoryModel", "written", "()I"⟩, 11) := ⟨⟨by decide +kernel, by decide +kernel⟩, List.mem_of_getElem? (i := 893) (by decide +kernel), List.mem_of_getElem? (i := 1321) (by decide +kernel), List.mem_of_getElem? (i := 1322) (by decide +kernel)⟩
theorem lw_p45 : lw_okq (⟨"BijectoryModel", "turn", "(I)I"⟩, 11) := ⟨⟨by decide +kernel, by decide +kernel⟩, List.mem_of_getElem? (i := 893) (by decide +kernel), List.mem_of_getElem? (i := 1325) (by decide +kernel), List.mem_of_getElem? (i := 1326) (by decide +kernel)⟩
theorem lw_p46 : lw_okq (⟨"BijectoryModel", "sort", "(I)I"⟩, 11) := ⟨⟨by decide +kernel, by decide +kernel⟩, List.mem_of_getElem? (i := 893) (by decide +kernel), List.mem_of_getElem? (i := 1329) (by decide +kernel), List.mem_of_getElem? (i := 1330) (by decide +kernel)⟩
theorem lw_p47 : lw_okq (⟨"BijectoryModel", "isMove", "(I)Z"⟩, 11) := ⟨⟨by decide +kernel, by decide +kernel⟩, List.mem_of_getElem? (i := 893) (by decide +kernel), List.mem_of_getElem? (i := 1337) (by decide +kernel), List.mem_of_getElem? (i := 1338) (by decide +kernel)⟩
def lw_privs_3 : List (MethodName × Nat) := [(⟨"BijectoryModel", "index", "(II)I"⟩, 11), (⟨"BijectoryModel", "isTried", "(LBijectoryModel$Claim;)Z"⟩, 11), (⟨"BijectoryModel", "againstNow", "(III)I"⟩, 11), (⟨"BijectoryModel", "from", "(I)I"⟩, 11), (⟨"BijectoryModel", "statisticOf", "(III)I"⟩, 11), (⟨"BijectoryModel", "ofPath", "(II)I"⟩, 11), (⟨"BijectoryModel", "ofOrder", "(II)I"⟩, 11), (⟨"BijectoryModel", "read", "(I)V"⟩, 11), (⟨"BijectoryModel", "imageOf", "(II)I"⟩, 11), (⟨"BijectoryModel", "step", "(II)I"⟩, 11), (⟨"BijectoryModel", "shape", "(II)I"⟩, 11), (⟨"BijectoryModel", "invert", "(I)I"⟩, 11), (⟨"BijectoryModel", "written", "()I"⟩, 11), (⟨"BijectoryModel", "turn", "(I)I"⟩, 11), (⟨"BijectoryModel", "sort", "(I)I"⟩, 11), (⟨"BijectoryModel", "isMove", "(I)Z"⟩, 11)]
theorem lw_r3 : ∀ q ∈ lw_privs_3, lw_okq q := List.forall_mem_cons.mpr ⟨lw_p32, List.forall_mem_cons.mpr ⟨lw_p33, List.forall_mem_cons.mpr ⟨lw_p34, List.forall_mem_cons.mpr ⟨lw_p35, List.forall_mem_cons.mpr ⟨lw_p36, List.forall_mem_cons.mpr ⟨lw_p37, List.forall_mem_cons.mpr ⟨lw_p38, List.forall_mem_cons.mpr ⟨lw_p39, List.forall_mem_cons.mpr ⟨lw_p40, List.forall_mem_cons.mpr ⟨lw_p41, List.forall_mem_cons.mpr ⟨lw_p42, List.forall_mem_cons.mpr ⟨lw_p43, List.forall_mem_cons.mpr ⟨lw_p44, List.forall_mem_cons.mpr ⟨lw_p45, List.forall_mem_cons.mpr ⟨lw_p46, List.forall_mem_cons.mpr ⟨lw_p47, fun _ h => absurd h List.not_mem_nil⟩⟩⟩⟩⟩⟩⟩⟩⟩⟩⟩⟩⟩⟩⟩⟩
theorem lw_p48 : lw_okq (⟨"BijectoryModel", "isNoRank", "(II)Z"⟩, 11) := ⟨⟨by decide +kernel, by decide +kernel⟩, List.mem_of_getElem? (i := 893) (by decide +kernel), List.mem_of_getElem? (i := 1353) (by decide +kernel), List.mem_of_getElem? (i := 1354) (by decide +kernel)⟩
theorem lw_p49 : lw_okq (⟨"BijectoryModel", "statistics", "(II)[I"⟩, 11) := ⟨⟨by decide +kernel, by decide +kernel⟩, List.mem_of_getElem? (i := 893) (by decide +kernel), List.mem_of_getElem? (i := 1369) (by decide +kernel), List.mem_of_getElem? (i := 1370) (by decide +kernel)⟩
theorem lw_p50 : lw_okq (⟨"BijectoryModel", "signsNow", "(II)I"⟩, 11) := ⟨⟨by decide +kernel, by decide +kernel⟩, List.mem_of_getElem? (i := 893) (by decide +kernel), List.mem_of_getElem? (i := 1377) (by decide +kernel), List.mem_of_getElem? (i := 1378) (by decide +kernel)⟩
theorem lw_p51 : lw_okq (⟨"BijectoryModel", "isLike", "(III)Z"⟩, 11) := ⟨⟨by decide +kernel, by decide +kernel⟩, List.mem_of_getElem? (i := 893) (by decide +kernel), List.mem_of_getElem? (i := 1399) (by decide +kernel), List.mem_of_getElem? (i := 1400) (by decide +kernel)⟩
theorem lw_p52 : lw_okq (⟨"BijectoryModel", "sortedNow", "(I)I"⟩, 11) := ⟨⟨by decide +kernel, by decide +kernel⟩, List.mem_of_getElem? (i := 893) (by decide +kernel), List.mem_of_getElem? (i := 1407) (by decide +kernel), List.mem_of_getElem? (i := 1408) (by decide +kernel)⟩
theorem lw_p53 : lw_okq (⟨"BijectoryModel", "images", "(I)[I"⟩, 11) := ⟨⟨by decide +kernel, by decide +kernel⟩, List.mem_of_getElem? (i := 893) (by decide +kernel), List.mem_of_getElem? (i := 1415) (by decide +kernel), List.mem_of_getElem? (i := 1416) (by decide +kernel)⟩
theorem lw_p54 : lw_okq (⟨"BijectoryModel", "ofMapNow", "(II[I)I"⟩, 11) := ⟨⟨by decide +kernel, by decide +kernel⟩, List.mem_of_getElem? (i := 893) (by decide +kernel), List.mem_of_getElem? (i := 1419) (by decide +kernel), List.mem_of_getElem? (i := 1420) (by decide +kernel)⟩
theorem lw_p55 : lw_okq (⟨"BijectoryModel", "unlike", "(I[I)I"⟩, 11) := ⟨⟨by decide +kernel, by decide +kernel⟩, List.mem_of_getElem? (i := 893) (by decide +kernel), List.mem_of_getElem? (i := 1423) (by decide +kernel), List.mem_of_getElem? (i := 1424) (by decide +kernel)⟩
theorem lw_p56 : lw_okq (⟨"BijectoryModel", "fixed", "(I[I)I"⟩, 11) := ⟨⟨by decide +kernel, by decide +kernel⟩, List.mem_of_getElem? (i := 893) (by decide +kernel), List.mem_of_getElem? (i := 1427) (by decide +kernel), List.mem_of_getElem? (i := 1428) (by decide +kernel)⟩
theorem lw_p57 : lw_okq (⟨"BijectoryModel", "rounds", "(II[I)J"⟩, 11) := ⟨⟨by decide +kernel, by decide +kernel⟩, List.mem_of_getElem? (i := 893) (by decide +kernel), List.mem_of_getElem? (i := 1443) (by decide +kernel), List.mem_of_getElem? (i := 1444) (by decide +kernel)⟩
theorem lw_p58 : lw_okq (⟨"BijectoryModel", "isPerfect", "(I[I)Z"⟩, 11) := ⟨⟨by decide +kernel, by decide +kernel⟩, List.mem_of_getElem? (i := 893) (by decide +kernel), List.mem_of_getElem? (i := 1447) (by decide +kernel), List.mem_of_getElem? (i := 1448) (by decide +kernel)⟩
theorem lw_p59 : lw_okq (⟨"BijectoryModel", "ofWalkerNow", "(LBijectoryModel$Walker;I)I"⟩, 11) := ⟨⟨by decide +kernel, by decide +kernel⟩, List.mem_of_getElem? (i := 893) (by decide +kernel), List.mem_of_getElem? (i := 1471) (by decide +kernel), List.mem_of_getElem? (i := 1472) (by decide +kernel)⟩
theorem lw_p60 : lw_okq (⟨"BijectoryModel", "ofClaimNow", "(LBijectoryModel$Claim;I)I"⟩, 11) := ⟨⟨by decide +kernel, by decide +kernel⟩, List.mem_of_getElem? (i := 893) (by decide +kernel), List.mem_of_getElem? (i := 1479) (by decide +kernel), List.mem_of_getElem? (i := 1480) (by decide +kernel)⟩
theorem lw_p61 : lw_okq (⟨"BijectoryModel", "manyNow", "(I)I"⟩, 11) := ⟨⟨by decide +kernel, by decide +kernel⟩, List.mem_of_getElem? (i := 893) (by decide +kernel), List.mem_of_getElem? (i := 1487) (by decide +kernel), List.mem_of_getElem? (i := 1488) (by decide +kernel)⟩
theorem lw_p62 : lw_okq (⟨"BijectoryModel", "refuted", "()I"⟩, 11) := ⟨⟨by decide +kernel, by decide +kernel⟩, List.mem_of_getElem? (i := 893) (by decide +kernel), List.mem_of_getElem? (i := 1491) (by decide +kernel), List.mem_of_getElem? (i := 1492) (by decide +kernel)⟩
theorem lw_p63 : lw_okq (⟨"BijectoryModel", "digestMap", "(JI)J"⟩, 11) := ⟨⟨by decide +kernel, by decide +kernel⟩, List.mem_of_getElem? (i := 893) (by decide +kernel), List.mem_of_getElem? (i := 1508) (by decide +kernel), List.mem_of_getElem? (i := 1509) (by decide +kernel)⟩
def lw_privs_4 : List (MethodName × Nat) := [(⟨"BijectoryModel", "isNoRank", "(II)Z"⟩, 11), (⟨"BijectoryModel", "statistics", "(II)[I"⟩, 11), (⟨"BijectoryModel", "signsNow", "(II)I"⟩, 11), (⟨"BijectoryModel", "isLike", "(III)Z"⟩, 11), (⟨"BijectoryModel", "sortedNow", "(I)I"⟩, 11), (⟨"BijectoryModel", "images", "(I)[I"⟩, 11), (⟨"BijectoryModel", "ofMapNow", "(II[I)I"⟩, 11), (⟨"BijectoryModel", "unlike", "(I[I)I"⟩, 11), (⟨"BijectoryModel", "fixed", "(I[I)I"⟩, 11), (⟨"BijectoryModel", "rounds", "(II[I)J"⟩, 11), (⟨"BijectoryModel", "isPerfect", "(I[I)Z"⟩, 11), (⟨"BijectoryModel", "ofWalkerNow", "(LBijectoryModel$Walker;I)I"⟩, 11), (⟨"BijectoryModel", "ofClaimNow", "(LBijectoryModel$Claim;I)I"⟩, 11), (⟨"BijectoryModel", "manyNow", "(I)I"⟩, 11), (⟨"BijectoryModel", "refuted", "()I"⟩, 11), (⟨"BijectoryModel", "digestMap", "(JI)J"⟩, 11)]
theorem lw_r4 : ∀ q ∈ lw_privs_4, lw_okq q := List.forall_mem_cons.mpr ⟨lw_p48, List.forall_mem_cons.mpr ⟨lw_p49, List.forall_mem_cons.mpr ⟨lw_p50, List.forall_mem_cons.mpr ⟨lw_p51, List.forall_mem_cons.mpr ⟨lw_p52, List.forall_mem_cons.mpr ⟨lw_p53, List.forall_mem_cons.mpr ⟨lw_p54, List.forall_mem_cons.mpr ⟨lw_p55, List.forall_mem_cons.mpr ⟨lw_p56, List.forall_mem_cons.mpr ⟨lw_p57, List.forall_mem_cons.mpr ⟨lw_p58, List.forall_mem_cons.mpr ⟨lw_p59, List.forall_mem_cons.mpr ⟨lw_p60, List.forall_mem_cons.mpr ⟨lw_p61, List.forall_mem_cons.mpr ⟨lw_p62, List.forall_mem_cons.mpr ⟨lw_p63, fun _ h => absurd h List.not_mem_nil⟩⟩⟩⟩⟩⟩⟩⟩⟩⟩⟩⟩⟩⟩⟩⟩
def lw_privs : List (MethodName × Nat) := lw_privs_1 ++ (lw_privs_2 ++ (lw_privs_3 ++ (lw_privs_4)))
def lw_tbl : List Cond := k2_sels lw_privs ++ tables_1
theorem lw_privs_ok : ∀ q ∈ lw_privs, lw_okq q := by
  show ∀ q ∈ lw_privs_1 ++ (lw_privs_2 ++ (lw_privs_3 ++ (lw_privs_4))), lw_okq q
  exact List.forall_mem_append.mpr ⟨lw_r1, List.forall_mem_append.mpr ⟨lw_r2, List.forall_mem_append.mpr ⟨lw_r3, lw_r4⟩⟩⟩
/-- the streams that the claim lets the run draw from -/
abbrev lw_cs : List Choice := [Jvm.Choice.named "NaN.bits"]
theorem lw_bits : nanBits ∈ lw_cs := by first | decide | exact List.mem_cons_self | simp [lw_cs, nanBits]
end
section
/-! ===== BEGIN words of one list among another's, by their places ===== -/
theorem goodIn_r {big : List Cond} (ws : List Cond) (ps : List Nat) (hp : ws = ps.filterMap (fun i => big[i]?)) (h : ws.all goodWord = true) : GoodIn big ws := by
  intro w hw
  have h1 := List.all_eq_true.mp h w hw
  rw [hp] at hw
  obtain ⟨i, -, hi⟩ := List.mem_filterMap.mp hw
  have hm : w ∈ big := by first | exact List.mem_of_getElem? hi | exact List.getElem?_mem hi
  exact ⟨hm, good_of_word h1⟩
theorem goodIn_app {big a b : List Cond} (ha : GoodIn big a) (hb : GoodIn big b) : GoodIn big (a ++ b) := fun w h => (List.mem_append.mp h).elim (ha w) (hb w)
theorem goodIn_ca {big a b : List Cond} {c : Cond} (ha : GoodIn big (c :: a)) (hb : GoodIn big b) : GoodIn big (c :: (a ++ b)) := fun w h => (List.mem_cons.mp h).elim (fun e => ha w (List.mem_cons.mpr (Or.inl e))) (fun h => (List.mem_append.mp h).elim (fun h => ha w (List.mem_cons.mpr (Or.inr h))) (hb w))
theorem goodIn_sub {big ws : List Cond} (hm : ∀ w ∈ ws, w ∈ big) (h : ws.all goodWord = true) : GoodIn big ws := fun w hw => ⟨hm w hw, good_of_word (List.all_eq_true.mp h w hw)⟩
/-! ===== END ===== -/
/-! ===== BEGIN exceptions that leave a method, and their catching by the caller (launches without stack traces) ===== -/
section VXA
/-! The laws vx_back, vx_callV, vx_callS, vx_callSW, vx_throw0, vx_throwS follow proofs of the library, with one case more: JvmDerived/Free/Laws.lean (Back.of_free), Shelf42/LK1.lean (callV, callS), Shelf/KitTraced.lean (throwNew0V, throwNewS). -/
/-- where a method has thrown q: the class by its name, the cell, what was written, the world -/
def vx_T (XC : String → State → State → Prop) (st : State) (q : Addr) (t : State) (mc ms : Nat) (free : Addr → Prop) : Prop :=
  ∃ (E : String) (ce : Cell) (L : List Loc), XC E st t ∧ t.heap[q]? = some ce ∧ ce.vm = .none ∧ st.vm.findClass E = some ce.cls ∧ st.WarmedH t.vm ∧ st.sameButNew ({ t with vm := st.vm } : State) L mc ms ∧ ∀ z ∈ L, free z.base
def vx_Q (Qc : Array Value → State → Outcome → State → Prop) (XC : String → State → State → Prop) (mc ms : Nat) (free : Addr → Prop) : Array Value → State → Outcome → State → Prop := fun a st o t =>
  (Qc a st o t ∧ ∃ L, FrameEnd st o t L mc ms ∧ ∀ q ∈ L, free q.base) ∨ ∃ q, o = .threw q ∧ vx_T XC st q t mc ms free
/-- a callee that returns or throws -/
def vx_Met (l : Launch) (y : MethodName) (ws : List Cond) (rm : Room) (Pc : Array Value → State → Prop) (Qc : Array Value → State → Outcome → State → Prop) (XC : String → State → State → Prop) (mc ms : Nat) (free : Addr → Prop) : Prop :=
  MetFree l y (headSpec ws rm) Pc (fun _ _ _ _ _ => True) (vx_Q Qc XC mc ms free)
def vx_Post (XC : String → State → State → Prop) (mc ms : Nat) (free : Addr → Prop) : Pt → Array Value → Addr → Pt → Prop := fun A a q B =>
  ∃ (g : JFrame) (mk : MethodId) (t : State) (L : List Loc) (E : String) (ce : Cell), B.U.heap = t.heap ∧ B.U.vm = t.vm ∧ XC E (A.U.calling g mk a) t ∧ t.heap[q]? = some ce ∧ ce.vm = .none ∧ A.U.vm.findClass E = some ce.cls ∧ B.locs = A.locs ++ L ∧ (∀ z ∈ L, free z.base) ∧ B.cells = A.cells + mc ∧ B.slots = A.slots + ms
def vx_Back (l : Launch) (R : Room) (p : Program) (e : Env) (below : List Frame) (s : State) (sargs : Array Value) (y : MethodName) (len W9 : Nat)
    (Pre : Pt → Array Value → Prop) (Post : Pt → Array Value → Option Value → Pt → Prop) (PostX : Pt → Array Value → Addr → Pt → Prop) : Prop :=
  ∀ (m : MethodId) (meth : Method) (c : Code) (A : Pt) (g : JFrame) (ig : Instr) (mk : MethodId) (a : Array Value),
    Stand p l e R s m sargs below meth c A.U A.locs A.cells A.slots → g.method = m → g.locals.size = c.maxLocals → decode c.code g.pc = .ok (ig, len) →
    2 * g.monitorRoom + (g.stack.map fun v => v.category).sum ≤ W9 → A.U.methodNamed? y = some mk → Pre A a →
    (∃ (v : Option Value) (B : Pt), Stand p l e R s m sargs below meth c B.U B.locs B.cells B.slots ∧ Post A a v B ∧
      Steps p.tables e below (doInvoke e (A.U.setTop g) [] mk a).1 (B.U.setTop { g with pc := g.pc + len, stack := v.toList ++ g.stack })) ∨
    (∃ (q : Addr) (B : Pt), Stand p l e R s m sargs below meth c B.U B.locs B.cells B.slots ∧ PostX A a q B ∧
      Steps p.tables e below (doInvoke e (A.U.setTop g) [] mk a).1 ((B.U.setTop g).pushFrame (.throwing q)))
section Payer
variable {l : Launch} {R : Room} {p : Program} {e : Env} {below : List Frame} {s : State} {sargs : Array Value} {y : MethodName} {len W9 : Nat}
theorem vx_back {ws : List Cond} {rm : Room} {Pc : Array Value → State → Prop} {Qc : Array Value → State → Outcome → State → Prop} {XC : String → State → State → Prop} {mc ms : Nat} {free : Addr → Prop} {bytes : ByteArray} {maxL : Nat} {ret : Option FieldType}
    (hM : vx_Met l y ws rm Pc Qc XC mc ms free) (hblind : FrameBlind Pc) (hrc : rm.cells = mc) (hrs : rm.slots = ms)
    (hframes : rm.frames + 1 ≤ R.frames) (hlocals : W9 + (maxL + 11) + rm.locals ≤ R.locals)
    (hws : ∀ w ∈ ws, ∀ a' U, s.WarmedH U.vm → w.before a' U = true) (hcode : Cond.code y bytes maxL ret ∈ ws) (hinit : ∀ a' U, s.WarmedH U.vm → (Cond.initialized y.cls).before a' U = true) :
    vx_Back l R p e below s sargs y len W9 (PreOf R mc ms Pc) (PostOf Qc mc ms free) (vx_Post XC mc ms free) := by
  intro m meth c A g ig mk a X hg hsize hdg hW hn hp
  have h1 : (headSpec ws rm).pre.before a A.U = true := atoms_intro fun w hw => hws w hw _ _ X.warmed
  have h2 : (Cond.code y bytes maxL ret).before a A.U = true := hws _ hcode _ _ X.warmed
  have h3 : (Cond.initialized y.cls).before a A.U = true := hinit _ _ X.warmed
  have h4 : A.cells + (headSpec ws rm).room.cells ≤ R.cells := by rw [show (headSpec ws rm).room.cells = mc from hrc]; exact hp.1
  have h5 : A.slots + (headSpec ws rm).room.slots ≤ R.slots := by rw [show (headSpec ws rm).room.slots = ms from hrs]; exact hp.2.1
  have hPc : Pc a (A.U.calling g mk a) := hblind _ _ _ _ hp.2.2
  obtain ⟨U, Ls, c0, s0⟩ := A
  dsimp only [Pt.U, Pt.locs, Pt.cells, Pt.slots] at h1 h2 h3 h4 h5 X hn hPc ⊢
  obtain ⟨methY, cY, hmY, hcY, -, hlY, -, -, -, -⟩ := Cond.code_spec hn h2
  obtain ⟨kY, hkY, -⟩ := className_of_methodNamed hn
  have hinitY : kY.init = .initialized := Cond.initialized_spec (findClass_of_methodNamed hn) hkY h3
  have h : At U g.method c below := by rw [hg]; exact X.here
  have hlocals9 : W9 + (maxL + 11) + (headSpec ws rm).room.locals ≤ R.locals := hlocals
  have happ : (headSpec ws rm).appliesLoose y e.platform (U.calling g mk a) = true :=
    Spec.appliesLoose_calling (g := g) h hdg hn hkY hinitY
      (X.room_calling (g := g) (R' := (headSpec ws rm).room) hsize hmY hcY hframes (by rw [hlY]; omega) h4 h5) h1
  obtain ⟨mid, hmid⟩ := h.above
  have hfr : (U.setTop g).frames = (.java g :: mid) ++ below := by rw [State.frames_setTop' g h.top, hmid]; rfl
  obtain ⟨o, s₂, hsteps, -, hend, hq⟩ := Steps.callFree hM p X.admits X.cas X.clock (acts := []) hfr happ hPc trivial
  have hq' : vx_Q Qc XC mc ms free a (U.calling g mk a) o s₂ := hq
  rw [State.frames_setTop' g h.top] at hend
  obtain ⟨g₀, hg0⟩ := Option.isSome_iff_exists.mp h.top
  obtain ⟨r, hr⟩ := State.topJava?_eq_some.mp hg0
  have hr' : (({ U with heap := s₂.heap, slotsUsed := s₂.slotsUsed } : State).setVm s₂.vm).frames = .java g₀ :: r := hr
  rcases hq' with ⟨hqc, L, hfe, hL⟩ | ⟨q, rfl, E, ce, L, hx, hce, hcv, hcl, hW₂, hsm, hL⟩
  · obtain ⟨⟨v, rfl⟩, hW₂, e2, q2, q3, q4, q5, q6⟩ := id hfe
    have e3 : s₂ = ({ (U.calling g mk a).setFrames s₂.frames with heap := s₂.heap, slotsUsed := s₂.slotsUsed } : State).setVm s₂.vm := by
      have : s₂ = ({ s₂ with vm := (U.calling g mk a).vm } : State).setVm s₂.vm := rfl
      rw [e2] at this
      exact this
    obtain ⟨c₂, i₂, len₂, hc₂, hd₂, hf₂⟩ := hend
    have hW' : U.WarmedH s₂.vm := hW₂
    have hcc : c₂ = c := by
      have h1 : s₂.code? g.method = U.code? g.method := by
        rw [State.code?_eq, State.code?_eq, hW'.alike.method?]
      exact Option.some.inj (hc₂.symm.trans (h1.trans h.code))
    subst hcc
    have hlen : len₂ = len := by rw [hdg] at hd₂; cases hd₂; rfl
    subst hlen
    have hs₂ : s₂ = (({ U with heap := s₂.heap, slotsUsed := s₂.slotsUsed } : State).setVm s₂.vm).setTop { g with pc := g.pc + len₂, stack := v.toList ++ g.stack } := by
      refine e3.trans ?_
      rw [hf₂, State.calling_eq h.top, State.setFrames_setFrames, State.setTop_of_frames _ hr', hr]
      rfl
    have hsame : U.sameButNew ({ U with heap := s₂.heap, slotsUsed := s₂.slotsUsed } : State) L mc ms := by
      refine ⟨?_, q2, q3, q4, q5, q6⟩
      obtain ⟨t, ht, -⟩ := State.frames_cons hr
      show ({ U with heap := s₂.heap, slotsUsed := s₂.slotsUsed } : State) = { U.setFrames U.frames with heap := s₂.heap, slotsUsed := s₂.slotsUsed }
      rw [State.setFrames_self ht]
    subst hg
    refine Or.inl ⟨v, ⟨(({ U with heap := s₂.heap, slotsUsed := s₂.slotsUsed } : State).setVm s₂.vm), Ls ++ L, c0 + mc, s0 + ms⟩,
      ⟨X.admits, X.cas, X.clock, X.frames, X.room, X.hears, X.method, X.code, (X.here.setHeapUsed s₂.heap s₂.slotsUsed).setVm hW'.alike, X.tail, State.WarmedH.trans X.warmed hW', X.limits, X.bytes, X.same.trans (hsame.setVm s.vm)⟩,
      ⟨g, mk, s₂, L, rfl, rfl, hqc, rfl, hL, rfl, rfl⟩, ?_⟩
    show Steps p.tables e below _ ((({ U with heap := s₂.heap, slotsUsed := s₂.slotsUsed } : State).setVm s₂.vm).setTop { g with pc := g.pc + len₂, stack := v.toList ++ g.stack })
    rw [← hs₂]
    exact hsteps
  · obtain ⟨e2, q2, q3, q4, q5, q6⟩ := id hsm
    have e3 : s₂ = ({ (U.calling g mk a).setFrames s₂.frames with heap := s₂.heap, slotsUsed := s₂.slotsUsed } : State).setVm s₂.vm := by
      have : s₂ = ({ s₂ with vm := (U.calling g mk a).vm } : State).setVm s₂.vm := rfl
      rw [e2] at this
      exact this
    have hf₂ : s₂.frames = .throwing q :: .java g :: U.frames.tail := hend
    have hW' : U.WarmedH s₂.vm := hW₂
    have hs₂ : s₂ = ((({ U with heap := s₂.heap, slotsUsed := s₂.slotsUsed } : State).setVm s₂.vm).setTop g).pushFrame (.throwing q) := by
      refine e3.trans ?_
      rw [hf₂, State.calling_eq h.top, State.setFrames_setFrames, State.pushFrame, State.frames_setTop _ hr', State.setTop_of_frames _ hr', State.setFrames_setFrames, hr]
      rfl
    have hsame : U.sameButNew ({ U with heap := s₂.heap, slotsUsed := s₂.slotsUsed } : State) L mc ms := by
      refine ⟨?_, q2, q3, q4, q5, q6⟩
      obtain ⟨t, ht, -⟩ := State.frames_cons hr
      show ({ U with heap := s₂.heap, slotsUsed := s₂.slotsUsed } : State) = { U.setFrames U.frames with heap := s₂.heap, slotsUsed := s₂.slotsUsed }
      rw [State.setFrames_self ht]
    subst hg
    refine Or.inr ⟨q, ⟨(({ U with heap := s₂.heap, slotsUsed := s₂.slotsUsed } : State).setVm s₂.vm), Ls ++ L, c0 + mc, s0 + ms⟩,
      ⟨X.admits, X.cas, X.clock, X.frames, X.room, X.hears, X.method, X.code, (X.here.setHeapUsed s₂.heap s₂.slotsUsed).setVm hW'.alike, X.tail, State.WarmedH.trans X.warmed hW', X.limits, X.bytes, X.same.trans (hsame.setVm s.vm)⟩,
      ⟨g, mk, s₂, L, E, ce, rfl, rfl, hx, hce, hcv, hcl, rfl, hL, rfl, rfl⟩, ?_⟩
    show Steps p.tables e below _ (((({ U with heap := s₂.heap, slotsUsed := s₂.slotsUsed } : State).setVm s₂.vm).setTop g).pushFrame (.throwing q))
    rw [← hs₂]
    exact hsteps
end Payer
section Calls
variable {p : Program} {l : Launch} {e : Env} {R : Room} {s : State} {m : MethodId} {args : Array Value} {below : List Frame} {meth : Method} {c : Code} {T : State} {locs : List Loc} {cells slots : Nat}
theorem vx_callV (X : Stand p l e R s m args below meth c T locs cells slots) (hexec : p.tables.exec = Jvm.exec) {own C : String} {index : Nat} {y : MethodName} {bytes : ByteArray} {maxL : Nat} {ret : Option FieldType}
    (hown : s.vm.findClass own = some m.cls) (hlink : (Cond.methodLink own index y).before args s = true) (hinst : (Cond.instanceMethod y).before args s = true) (hsel : (Cond.selects C y y).before args s = true)
    (hcode : (Cond.code y bytes maxL ret).before args s = true) (hy : y.cls ≠ "java/lang/invoke/MethodHandle" ∧ y.cls ≠ "java/lang/invoke/VarHandle")
    {W9 : Nat} {Pre : Pt → Array Value → Prop} {Post : Pt → Array Value → Option Value → Pt → Prop} {PostX : Pt → Array Value → Addr → Pt → Prop} (hK : vx_Back l R p e below s args y 3 W9 Pre Post PostX)
    {b : Addr} {cellB : Cell} (hcell : T.heap[b]? = some cellB) (hobj : cellB.vm.isStatics = false) (hcls : s.vm.findClass C = some cellB.cls)
    {g : JFrame} (hg : g.method = m) (hsize : g.locals.size = c.maxLocals) {argsL rest : List Value} (hlen : ∀ sig, parseMethodDescriptor y.desc = some sig → argsL.length = sig.parameters.length)
    (hstack : g.stack = argsL.reverse ++ .ref b :: rest) (hW : 2 * g.monitorRoom + (rest.map fun v => v.category).sum ≤ W9) (hdg : decode c.code g.pc = .ok (.invokevirtual index, 3))
    (hpre : ∀ vm₁, s.WarmedH vm₁ → Pre ⟨T.setVm vm₁, locs, cells, slots⟩ (Value.ref b :: argsL).toArray) :
    (∃ (v : Option Value) (vm₁ : Vm) (B : Pt), s.WarmedH vm₁ ∧ Stand p l e R s m args below meth c B.U B.locs B.cells B.slots ∧ Post ⟨T.setVm vm₁, locs, cells, slots⟩ (Value.ref b :: argsL).toArray v B ∧
      ∀ target, Steps p.tables e below (B.U.setTop { g with pc := g.pc + 3, stack := v.toList ++ rest }) target → Steps p.tables e below (T.setTop g) target) ∨
    (∃ (q : Addr) (vm₁ : Vm) (B : Pt), s.WarmedH vm₁ ∧ Stand p l e R s m args below meth c B.U B.locs B.cells B.slots ∧ PostX ⟨T.setVm vm₁, locs, cells, slots⟩ (Value.ref b :: argsL).toArray q B ∧
      Steps p.tables e below (T.setTop g) ((B.U.setTop { g with stack := rest }).pushFrame (.throwing q))) := by
  obtain ⟨mk, methM, hnamed, hmethM, hstM, habM⟩ := Cond.instanceMethod_spec hinst
  obtain ⟨methM', cM, hmethM', -, -, -, -, -, -, hsigM⟩ := Cond.code_spec hnamed hcode
  cases hmethM.symm.trans hmethM'
  obtain ⟨c2, r2, m2, q1, q2, q3, q4, kP, hkP, hkPi⟩ := Cond.selects_spec hsel
  cases hcls.symm.trans q1
  cases (State.methodFound?_of_named hnamed hy).symm.trans q2
  cases hnamed.symm.trans q3
  have hselP : selectMethod e.platform s.vm cellB.cls mk = .method mk := by rw [Launch.admits_selectMethod X.admits]; exact q4
  obtain ⟨vm₁, X₁, hstep₁⟩ := X.invokevirtual hexec hown hlink hnamed hmethM hstM hkP hkPi hy (a := b) (cell := cellB) hcell
    (fun z h => by rw [h] at hobj; cases hobj) hselP hmethM habM hkP hkPi (g := g) hg (argsL := argsL) (rest := rest) (hlen _ hsigM) hstack hdg
  rcases hK m meth c ⟨T.setVm vm₁, locs, cells, slots⟩ { g with stack := rest } (.invokevirtual index) mk (Value.ref b :: argsL).toArray X₁ hg hsize hdg hW (X₁.named hnamed) (hpre vm₁ X₁.warmed) with ⟨v, B, X', hpost, hsteps⟩ | ⟨q, B, X', hpost, hsteps⟩
  · exact Or.inl ⟨v, vm₁, B, X₁.warmed, X', hpost, fun target h => hstep₁ _ fun acts => by rw [doInvoke_state]; exact hsteps.trans h⟩
  · exact Or.inr ⟨q, vm₁, B, X₁.warmed, X', hpost, hstep₁ _ fun acts => by rw [doInvoke_state]; exact hsteps⟩
theorem vx_callS (X : Stand p l e R s m args below meth c T locs cells slots) (hexec : p.tables.exec = Jvm.exec) {own : String} {index : Nat} {y : MethodName} {bytes : ByteArray} {maxL : Nat} {ret : Option FieldType}
    (hown : s.vm.findClass own = some m.cls) (hlink : (Cond.methodLink own index y).before args s = true) (hstat : (Cond.static y).before args s = true) (hinit : (Cond.initialized y.cls).before args s = true)
    (hcode : (Cond.code y bytes maxL ret).before args s = true) (hy : y.cls ≠ "java/lang/invoke/MethodHandle" ∧ y.cls ≠ "java/lang/invoke/VarHandle")
    {W9 : Nat} {Pre : Pt → Array Value → Prop} {Post : Pt → Array Value → Option Value → Pt → Prop} {PostX : Pt → Array Value → Addr → Pt → Prop} (hK : vx_Back l R p e below s args y 3 W9 Pre Post PostX)
    {g : JFrame} (hg : g.method = m) (hsize : g.locals.size = c.maxLocals) {argsL rest : List Value} (hlen : ∀ sig, parseMethodDescriptor y.desc = some sig → argsL.length = sig.parameters.length)
    (hstack : g.stack = argsL.reverse ++ rest) (hW : 2 * g.monitorRoom + (rest.map fun v => v.category).sum ≤ W9) (hdg : decode c.code g.pc = .ok (.invokestatic index, 3))
    (hpre : ∀ vm₁, s.WarmedH vm₁ → Pre ⟨T.setVm vm₁, locs, cells, slots⟩ argsL.toArray) :
    (∃ (v : Option Value) (vm₁ : Vm) (B : Pt), s.WarmedH vm₁ ∧ Stand p l e R s m args below meth c B.U B.locs B.cells B.slots ∧ Post ⟨T.setVm vm₁, locs, cells, slots⟩ argsL.toArray v B ∧
      ∀ target, Steps p.tables e below (B.U.setTop { g with pc := g.pc + 3, stack := v.toList ++ rest }) target → Steps p.tables e below (T.setTop g) target) ∨
    (∃ (q : Addr) (vm₁ : Vm) (B : Pt), s.WarmedH vm₁ ∧ Stand p l e R s m args below meth c B.U B.locs B.cells B.slots ∧ PostX ⟨T.setVm vm₁, locs, cells, slots⟩ argsL.toArray q B ∧
      Steps p.tables e below (T.setTop g) ((B.U.setTop { g with stack := rest }).pushFrame (.throwing q))) := by
  obtain ⟨mk, hnamed⟩ := Cond.code_named hcode
  obtain ⟨methM, cM, hmethM, -, -, -, -, -, -, hsigM⟩ := Cond.code_spec hnamed hcode
  have hstatic : methM.isStatic = true := Cond.static_spec hnamed hmethM hstat
  obtain ⟨kP, hkP, -⟩ := className_of_methodNamed hnamed
  have hinitP : kP.init = .initialized := Cond.initialized_spec (findClass_of_methodNamed hnamed) hkP hinit
  obtain ⟨vm₁, X₁, hstep₁⟩ := X.invokestatic hexec hown hlink hnamed hmethM hstatic hkP hinitP hy (g := g) hg (argsL := argsL) (rest := rest) (hlen _ hsigM) hstack hdg
  rcases hK m meth c ⟨T.setVm vm₁, locs, cells, slots⟩ { g with stack := rest } (.invokestatic index) mk argsL.toArray X₁ hg hsize hdg hW (X₁.named hnamed) (hpre vm₁ X₁.warmed) with ⟨v, B, X', hpost, hsteps⟩ | ⟨q, B, X', hpost, hsteps⟩
  · exact Or.inl ⟨v, vm₁, B, X₁.warmed, X', hpost, fun target h => hstep₁ _ fun acts => by rw [doInvoke_state]; exact hsteps.trans h⟩
  · exact Or.inr ⟨q, vm₁, B, X₁.warmed, X', hpost, hstep₁ _ fun acts => by rw [doInvoke_state]; exact hsteps⟩
end Calls
theorem vx_cls {s : State} {T : State} {vm₁ : Vm} {E : String} {k : ClassId} (hW : s.WarmedH vm₁) (h : (T.setVm vm₁).vm.findClass E = some k) : s.vm.findClass E = some k := by
  have h1 : vm₁.findClass E = some k := h
  rw [hW.alike.findClass] at h1
  exact h1
/-- the method's frame g, with q thrown over it -/
def vx_W (p : Program) (l : Launch) (e : Env) (R : Room) (s : State) (m : MethodId) (args : Array Value) (below : List Frame) (meth : Method) (c : Code) (H : Heap) (locs : List Loc) (cells slots : Nat) (Q : State → Prop) (g : JFrame) (q : Addr) : Prop :=
  ∀ T : State, T.heap = H → Stand p l e R s m args below meth c T locs cells slots → ∃ t, Steps p.tables e below ((T.setTop g).pushFrame (.throwing q)) t ∧ Q t
def vx_Run (p : Program) (l : Launch) (e : Env) (R : Room) (s : State) (m : MethodId) (args : Array Value) (below : List Frame) (meth : Method) (c : Code) (H : Heap) (locs : List Loc) (cells slots mc ms : Nat) (g : JFrame) (rest : List Value) (Qa : State → Outcome → State → Prop) (XC : String → State → State → Prop) (free : Addr → Prop) : Prop :=
  ∀ T : State, T.heap = H → Stand p l e R s m args below meth c T locs cells slots →
    (∃ (v : Option Value) (st₀ t T' : State) (L : List Loc), st₀.heap = H ∧ Stand p l e R s m args below meth c T' (locs ++ L) (cells + mc) (slots + ms) ∧ (∀ q ∈ L, free q.base) ∧ T'.heap = t.heap ∧ T'.vm = t.vm ∧ Qa st₀ (.returned v) t ∧
      Goes p e below T g T' { g with pc := g.pc + 3, stack := v.toList ++ rest }) ∨
    (∃ (q : Addr) (st₀ t T' : State) (L : List Loc) (E : String) (ce : Cell), st₀.heap = H ∧ Stand p l e R s m args below meth c T' (locs ++ L) (cells + mc) (slots + ms) ∧ (∀ z ∈ L, free z.base) ∧ T'.heap = t.heap ∧ T'.vm = t.vm ∧ XC E st₀ t ∧ t.heap[q]? = some ce ∧ ce.vm = .none ∧ s.vm.findClass E = some ce.cls ∧
      Steps p.tables e below (T.setTop g) ((T'.setTop { g with stack := rest }).pushFrame (.throwing q)))
def vx_X {S : Type} (px : S → Prop) (B : String → S → State → Prop) (A : Nat → Prop) : String → State → State → Prop := fun E st t => ∃ u : S, px u ∧ B E u t ∧ va_F A st t
section Runs
variable {p : Program} {l : Launch} {e : Env} {R : Room} {s : State} {m : MethodId} {args : Array Value} {below : List Frame} {meth : Method} {c : Code} {H : Heap} {locs : List Loc} {cells slots : Nat}
variable {y : MethodName} {bytes cc : ByteArray} {maxL nL mc ms n index : Nat} {ret : Option FieldType} {ws : List Cond} {rm : Room} {Pc : Array Value → State → Prop} {Qc : Array Value → State → Outcome → State → Prop} {XC : String → State → State → Prop} {free : Addr → Prop} {Ts : List Cond} {own C : String} {b : Addr} {As rest : List Value} {g : JFrame}
theorem vx_callBack (cb : CallB R s args own index y bytes maxL ret ws rm mc ms n) (hM : vx_Met l y ws rm Pc Qc XC mc ms free) (hbl : FrameBlind Pc) : vx_Back l R p e below s args y 3 8 (PreOf R mc ms Pc) (PostOf Qc mc ms free) (vx_Post XC mc ms free) := by
  obtain ⟨hrc, hrs, hfr, hlo, hws, hcw, -, hini, -⟩ := cb
  exact vx_back (bytes := bytes) (maxL := maxL) (ret := ret) hM hbl hrc hrs hfr hlo hws hcw (fun a' U hW => word_at hW (Or.inl (by first | rfl | simp [Cond.onTables, Cond.keeps, Cond.steady])) hini)
theorem vx_runV (S : CallFix p m c cc nL s args Ts own) (hM : vx_Met l y ws rm Pc Qc XC mc ms free) (cw : CallW R s args own C index y bytes maxL ret ws rm mc ms n) (hp : PreV s H C b Pc As)
    (hg : g.method = m) (hn : As.length = n) (hsize : g.locals.size = nL) (hstack : g.stack = As.reverse ++ .ref b :: rest) (hW : 2 * g.monitorRoom + (rest.map fun v => v.category).sum ≤ 8) (hdg : decode cc g.pc = .ok (.invokevirtual index, 3)) (hf : cells + mc ≤ R.cells ∧ slots + ms ≤ R.slots) :
    vx_Run p l e R s m args below meth c H locs cells slots mc ms g rest (Qc (Value.ref b :: As).toArray) XC free := by
  have hK : vx_Back l R p e below s args y 3 8 (PreOf R mc ms Pc) (PostOf Qc mc ms free) (vx_Post XC mc ms free) := vx_callBack cw.1 hM hp.1
  obtain ⟨⟨-, -, -, -, -, -, hcode, -, hy, hlen, hl⟩, hin, hse⟩ := cw
  obtain ⟨hx, hb, hml, ho, -⟩ := S
  obtain ⟨-, ⟨cellB, hcB, hoB, hclB⟩, hPc⟩ := hp
  intro T hT X
  rcases vx_callV X hx (C := C) (bytes := bytes) (maxL := maxL) (ret := ret) ho hl hin hse hcode hy hK (by rw [hT]; exact hcB) hoB hclB hg (hsize.trans hml.symm) (argsL := As) (rest := rest) (fun sig h => hn.trans (hlen sig h)) hstack hW (by rw [hb]; exact hdg)
    (fun vm₁ hW₁ => ⟨hf.1, hf.2, hPc (T.setVm vm₁) hT hW₁⟩) with ⟨v, vm₁, ⟨U', l2, c2, s2⟩, hW₁, X', ⟨g', mk, t, L, e1, e2, hq, h1, hL, h2, h3⟩, st⟩ | ⟨q, vm₁, ⟨U', l2, c2, s2⟩, hW₁, X', ⟨g', mk, t, L, E, ce, e1, e2, hq, hce, hcv, hcl, h1, hL, h2, h3⟩, st⟩
  · dsimp only [Pt.U, Pt.locs, Pt.cells, Pt.slots] at X' e1 e2 h1 h2 h3 st
    subst h1; subst h2; subst h3
    exact Or.inl ⟨v, (T.setVm vm₁).calling g' mk (Value.ref b :: As).toArray, t, U', L, hT, X', hL, e1, e2, hq, st⟩
  · dsimp only [Pt.U, Pt.locs, Pt.cells, Pt.slots] at X' e1 e2 h1 h2 h3 st hcl
    subst h1; subst h2; subst h3
    exact Or.inr ⟨q, (T.setVm vm₁).calling g' mk (Value.ref b :: As).toArray, t, U', L, E, ce, hT, X', hL, e1, e2, hq, hce, hcv, vx_cls hW₁ hcl, st⟩
theorem vx_runS (S : CallFix p m c cc nL s args Ts own) (hM : vx_Met l y ws rm Pc Qc XC mc ms free) (cw : CallB R s args own index y bytes maxL ret ws rm mc ms n ∧ (Cond.static y).before args s = true) (hp : PreS s H Pc As)
    (hg : g.method = m) (hn : As.length = n) (hsize : g.locals.size = nL) (hstack : g.stack = As.reverse ++ rest) (hW : 2 * g.monitorRoom + (rest.map fun v => v.category).sum ≤ 8) (hdg : decode cc g.pc = .ok (.invokestatic index, 3)) (hf : cells + mc ≤ R.cells ∧ slots + ms ≤ R.slots) :
    vx_Run p l e R s m args below meth c H locs cells slots mc ms g rest (Qc As.toArray) XC free := by
  have hK : vx_Back l R p e below s args y 3 8 (PreOf R mc ms Pc) (PostOf Qc mc ms free) (vx_Post XC mc ms free) := vx_callBack cw.1 hM hp.1
  obtain ⟨⟨-, -, -, -, -, -, hcode, hini, hy, hlen, hl⟩, hstt⟩ := cw
  obtain ⟨hx, hb, hml, ho, -⟩ := S
  intro T hT X
  rcases vx_callS X hx (bytes := bytes) (maxL := maxL) (ret := ret) ho hl hstt hini hcode hy hK hg (hsize.trans hml.symm) (argsL := As) (rest := rest) (fun sig h => hn.trans (hlen sig h)) hstack hW (by rw [hb]; exact hdg)
    (fun vm₁ hW₁ => ⟨hf.1, hf.2, hp.2 (T.setVm vm₁) hT hW₁⟩) with ⟨v, vm₁, ⟨U', l2, c2, s2⟩, hW₁, X', ⟨g', mk, t, L, e1, e2, hq, h1, hL, h2, h3⟩, st⟩ | ⟨q, vm₁, ⟨U', l2, c2, s2⟩, hW₁, X', ⟨g', mk, t, L, E, ce, e1, e2, hq, hce, hcv, hcl, h1, hL, h2, h3⟩, st⟩
  · dsimp only [Pt.U, Pt.locs, Pt.cells, Pt.slots] at X' e1 e2 h1 h2 h3 st
    subst h1; subst h2; subst h3
    exact Or.inl ⟨v, (T.setVm vm₁).calling g' mk As.toArray, t, U', L, hT, X', hL, e1, e2, hq, st⟩
  · dsimp only [Pt.U, Pt.locs, Pt.cells, Pt.slots] at X' e1 e2 h1 h2 h3 st hcl
    subst h1; subst h2; subst h3
    exact Or.inr ⟨q, (T.setVm vm₁).calling g' mk As.toArray, t, U', L, E, ce, hT, X', hL, e1, e2, hq, hce, hcv, vx_cls hW₁ hcl, st⟩
end Runs
section Rows
variable {p : Program} {l : Launch} {e : Env} {R : Room} {s : State} {m : MethodId} {args : Array Value} {below : List Frame} {meth : Method} {c : Code} {H : Heap} {locs : List Loc} {cells slots : Nat} {Q : State → Prop}
variable {mc ms : Nat} {free : Addr → Prop} {A0 A1 : Nat → Prop} {H0 : Heap} {a : Array Value} {pc : Nat} {ls : Array Slot} {st0 rest : List Value}
theorem vx_keep {st₀ t T' : State} {L : List Loc} (h0 : st₀.heap = H) (e1 : T'.heap = t.heap) (hS : va_S A0 H0 H locs) (hA : ∀ q, q < H.size → A1 q → A0 q) (hf : ∀ q, free q → A0 q) (hL : ∀ q ∈ L, free q.base) (hF : va_F A1 st₀ t) :
    H.size ≤ T'.heap.size ∧ (∀ q : Nat, q < H.size → ¬ A1 q → T'.heap[q]? = H[q]?) ∧ va_S A0 H0 T'.heap (locs ++ L) := by
  obtain ⟨hz, hk⟩ := hF
  rw [h0] at hz hk
  exact ⟨by rw [e1]; exact hz, fun q h1 h2 => by rw [e1]; exact hk q h1 h2,
    ⟨Nat.le_trans hS.1 (by rw [e1]; exact hz), fun q h1 h2 => by rw [e1, hk q (Nat.lt_of_lt_of_le h1 hS.1) (fun z => h2 (hA q (Nat.lt_of_lt_of_le h1 hS.1) z))]; exact hS.2.1 q h1 h2, fun q hq => by
      rcases List.mem_append.mp hq with h | h
      · exact hS.2.2 q h
      · exact hf _ (hL q h)⟩⟩
theorem vx_calli {S SX : Type} {post : Int32 → S → Prop} {px : SX → Prop} {B : S → State → Prop} {BX : String → SX → State → Prop} {AX : Nat → Prop} (hr : vx_Run p l e R s m args below meth c H locs cells slots mc ms (F0 m pc ls st0) rest (va_Qi post B A1 a) (vx_X px BX AX) free) (hS : va_S A0 H0 H locs) (hA : ∀ q, q < H.size → A1 q → A0 q) (hf : ∀ q, free q → A0 q) (hAX : ∀ q, q < H.size → AX q → A0 q)
    (kx : ∀ (E : String) (ce : Cell) (q9 : Addr) (u : SX) (t : State) (H1 : Heap) (locs1 : List Loc), t.heap = H1 → s.vm.Alike t.vm → px u → BX E u t → H.size ≤ H1.size → (∀ q : Nat, q < H.size → ¬ AX q → H1[q]? = H[q]?) → va_S A0 H0 H1 locs1 → H1[q9]? = some ce → ce.vm = .none → s.vm.findClass E = some ce.cls → vx_W p l e R s m args below meth c H1 locs1 (cells + mc) (slots + ms) Q (F0 m pc ls rest) q9)
    (kk : ∀ (r : Int32) (u : S) (t : State) (H1 : Heap) (locs1 : List Loc), t.heap = H1 → s.vm.Alike t.vm → post r u → B u t → H.size ≤ H1.size → (∀ q : Nat, q < H.size → ¬ A1 q → H1[q]? = H[q]?) → va_S A0 H0 H1 locs1 → W p l e R s m args below meth c H1 locs1 (cells + mc) (slots + ms) Q (F0 m (pc + 3) ls (.int r :: rest))) : W p l e R s m args below meth c H locs cells slots Q (F0 m pc ls st0) := by
  intro T hT X
  rcases hr T hT X with ⟨v, st₀, t, T', L, h0, X', hL, e1, e2, ⟨⟨r, u, hv, hp, hb⟩, hF⟩, st⟩ | ⟨q, st₀, t, T', L, E, ce, h0, X', hL, e1, e2, ⟨u, hp, hb, hF⟩, hce, hcv, hcl, st⟩
  · cases hv
    obtain ⟨k1, k2, k3⟩ := vx_keep h0 e1 hS hA hf hL hF
    obtain ⟨t2, a1, b1⟩ := kk r u t T'.heap (locs ++ L) e1.symm (by rw [← e2]; exact X'.warmed.alike) hp hb k1 k2 k3 T' rfl X'
    exact ⟨t2, st t2 a1, b1⟩
  · obtain ⟨k1, k2, k3⟩ := vx_keep h0 e1 hS hAX hf hL hF
    obtain ⟨t2, a1, b1⟩ := kx E ce q u t T'.heap (locs ++ L) e1.symm (by rw [← e2]; exact X'.warmed.alike) hp hb k1 k2 k3 (by rw [e1]; exact hce) hcv hcl T' rfl X'
    exact ⟨t2, st.trans a1, b1⟩
theorem vx_calll {S SX : Type} {post : Int64 → S → Prop} {px : SX → Prop} {B : S → State → Prop} {BX : String → SX → State → Prop} {AX : Nat → Prop} (hr : vx_Run p l e R s m args below meth c H locs cells slots mc ms (F0 m pc ls st0) rest (va_Ql post B A1 a) (vx_X px BX AX) free) (hS : va_S A0 H0 H locs) (hA : ∀ q, q < H.size → A1 q → A0 q) (hf : ∀ q, free q → A0 q) (hAX : ∀ q, q < H.size → AX q → A0 q)
    (kx : ∀ (E : String) (ce : Cell) (q9 : Addr) (u : SX) (t : State) (H1 : Heap) (locs1 : List Loc), t.heap = H1 → s.vm.Alike t.vm → px u → BX E u t → H.size ≤ H1.size → (∀ q : Nat, q < H.size → ¬ AX q → H1[q]? = H[q]?) → va_S A0 H0 H1 locs1 → H1[q9]? = some ce → ce.vm = .none → s.vm.findClass E = some ce.cls → vx_W p l e R s m args below meth c H1 locs1 (cells + mc) (slots + ms) Q (F0 m pc ls rest) q9)
    (kk : ∀ (r : Int64) (u : S) (t : State) (H1 : Heap) (locs1 : List Loc), t.heap = H1 → s.vm.Alike t.vm → post r u → B u t → H.size ≤ H1.size → (∀ q : Nat, q < H.size → ¬ A1 q → H1[q]? = H[q]?) → va_S A0 H0 H1 locs1 → W p l e R s m args below meth c H1 locs1 (cells + mc) (slots + ms) Q (F0 m (pc + 3) ls (.long r :: rest))) : W p l e R s m args below meth c H locs cells slots Q (F0 m pc ls st0) := by
  intro T hT X
  rcases hr T hT X with ⟨v, st₀, t, T', L, h0, X', hL, e1, e2, ⟨⟨r, u, hv, hp, hb⟩, hF⟩, st⟩ | ⟨q, st₀, t, T', L, E, ce, h0, X', hL, e1, e2, ⟨u, hp, hb, hF⟩, hce, hcv, hcl, st⟩
  · cases hv
    obtain ⟨k1, k2, k3⟩ := vx_keep h0 e1 hS hA hf hL hF
    obtain ⟨t2, a1, b1⟩ := kk r u t T'.heap (locs ++ L) e1.symm (by rw [← e2]; exact X'.warmed.alike) hp hb k1 k2 k3 T' rfl X'
    exact ⟨t2, st t2 a1, b1⟩
  · obtain ⟨k1, k2, k3⟩ := vx_keep h0 e1 hS hAX hf hL hF
    obtain ⟨t2, a1, b1⟩ := kx E ce q u t T'.heap (locs ++ L) e1.symm (by rw [← e2]; exact X'.warmed.alike) hp hb k1 k2 k3 (by rw [e1]; exact hce) hcv hcl T' rfl X'
    exact ⟨t2, st.trans a1, b1⟩
theorem vx_callf {S SX : Type} {post : UInt32 → S → Prop} {px : SX → Prop} {B : S → State → Prop} {BX : String → SX → State → Prop} {AX : Nat → Prop} (hr : vx_Run p l e R s m args below meth c H locs cells slots mc ms (F0 m pc ls st0) rest (va_Qf post B A1 a) (vx_X px BX AX) free) (hS : va_S A0 H0 H locs) (hA : ∀ q, q < H.size → A1 q → A0 q) (hf : ∀ q, free q → A0 q) (hAX : ∀ q, q < H.size → AX q → A0 q)
    (kx : ∀ (E : String) (ce : Cell) (q9 : Addr) (u : SX) (t : State) (H1 : Heap) (locs1 : List Loc), t.heap = H1 → s.vm.Alike t.vm → px u → BX E u t → H.size ≤ H1.size → (∀ q : Nat, q < H.size → ¬ AX q → H1[q]? = H[q]?) → va_S A0 H0 H1 locs1 → H1[q9]? = some ce → ce.vm = .none → s.vm.findClass E = some ce.cls → vx_W p l e R s m args below meth c H1 locs1 (cells + mc) (slots + ms) Q (F0 m pc ls rest) q9)
    (kk : ∀ (r : UInt32) (u : S) (t : State) (H1 : Heap) (locs1 : List Loc), t.heap = H1 → s.vm.Alike t.vm → post r u → B u t → H.size ≤ H1.size → (∀ q : Nat, q < H.size → ¬ A1 q → H1[q]? = H[q]?) → va_S A0 H0 H1 locs1 → W p l e R s m args below meth c H1 locs1 (cells + mc) (slots + ms) Q (F0 m (pc + 3) ls (.float r :: rest))) : W p l e R s m args below meth c H locs cells slots Q (F0 m pc ls st0) := by
  intro T hT X
  rcases hr T hT X with ⟨v, st₀, t, T', L, h0, X', hL, e1, e2, ⟨⟨r, u, hv, hp, hb⟩, hF⟩, st⟩ | ⟨q, st₀, t, T', L, E, ce, h0, X', hL, e1, e2, ⟨u, hp, hb, hF⟩, hce, hcv, hcl, st⟩
  · cases hv
    obtain ⟨k1, k2, k3⟩ := vx_keep h0 e1 hS hA hf hL hF
    obtain ⟨t2, a1, b1⟩ := kk r u t T'.heap (locs ++ L) e1.symm (by rw [← e2]; exact X'.warmed.alike) hp hb k1 k2 k3 T' rfl X'
    exact ⟨t2, st t2 a1, b1⟩
  · obtain ⟨k1, k2, k3⟩ := vx_keep h0 e1 hS hAX hf hL hF
    obtain ⟨t2, a1, b1⟩ := kx E ce q u t T'.heap (locs ++ L) e1.symm (by rw [← e2]; exact X'.warmed.alike) hp hb k1 k2 k3 (by rw [e1]; exact hce) hcv hcl T' rfl X'
    exact ⟨t2, st.trans a1, b1⟩
theorem vx_calld {S SX : Type} {post : UInt64 → S → Prop} {px : SX → Prop} {B : S → State → Prop} {BX : String → SX → State → Prop} {AX : Nat → Prop} (hr : vx_Run p l e R s m args below meth c H locs cells slots mc ms (F0 m pc ls st0) rest (va_Qd post B A1 a) (vx_X px BX AX) free) (hS : va_S A0 H0 H locs) (hA : ∀ q, q < H.size → A1 q → A0 q) (hf : ∀ q, free q → A0 q) (hAX : ∀ q, q < H.size → AX q → A0 q)
    (kx : ∀ (E : String) (ce : Cell) (q9 : Addr) (u : SX) (t : State) (H1 : Heap) (locs1 : List Loc), t.heap = H1 → s.vm.Alike t.vm → px u → BX E u t → H.size ≤ H1.size → (∀ q : Nat, q < H.size → ¬ AX q → H1[q]? = H[q]?) → va_S A0 H0 H1 locs1 → H1[q9]? = some ce → ce.vm = .none → s.vm.findClass E = some ce.cls → vx_W p l e R s m args below meth c H1 locs1 (cells + mc) (slots + ms) Q (F0 m pc ls rest) q9)
    (kk : ∀ (r : UInt64) (u : S) (t : State) (H1 : Heap) (locs1 : List Loc), t.heap = H1 → s.vm.Alike t.vm → post r u → B u t → H.size ≤ H1.size → (∀ q : Nat, q < H.size → ¬ A1 q → H1[q]? = H[q]?) → va_S A0 H0 H1 locs1 → W p l e R s m args below meth c H1 locs1 (cells + mc) (slots + ms) Q (F0 m (pc + 3) ls (.double r :: rest))) : W p l e R s m args below meth c H locs cells slots Q (F0 m pc ls st0) := by
  intro T hT X
  rcases hr T hT X with ⟨v, st₀, t, T', L, h0, X', hL, e1, e2, ⟨⟨r, u, hv, hp, hb⟩, hF⟩, st⟩ | ⟨q, st₀, t, T', L, E, ce, h0, X', hL, e1, e2, ⟨u, hp, hb, hF⟩, hce, hcv, hcl, st⟩
  · cases hv
    obtain ⟨k1, k2, k3⟩ := vx_keep h0 e1 hS hA hf hL hF
    obtain ⟨t2, a1, b1⟩ := kk r u t T'.heap (locs ++ L) e1.symm (by rw [← e2]; exact X'.warmed.alike) hp hb k1 k2 k3 T' rfl X'
    exact ⟨t2, st t2 a1, b1⟩
  · obtain ⟨k1, k2, k3⟩ := vx_keep h0 e1 hS hAX hf hL hF
    obtain ⟨t2, a1, b1⟩ := kx E ce q u t T'.heap (locs ++ L) e1.symm (by rw [← e2]; exact X'.warmed.alike) hp hb k1 k2 k3 (by rw [e1]; exact hce) hcv hcl T' rfl X'
    exact ⟨t2, st.trans a1, b1⟩
theorem vx_callv {S SX : Type} {post : S → Prop} {px : SX → Prop} {B : S → State → Prop} {BX : String → SX → State → Prop} {AX : Nat → Prop} (hr : vx_Run p l e R s m args below meth c H locs cells slots mc ms (F0 m pc ls st0) rest (va_Qv post B A1 a) (vx_X px BX AX) free) (hS : va_S A0 H0 H locs) (hA : ∀ q, q < H.size → A1 q → A0 q) (hf : ∀ q, free q → A0 q) (hAX : ∀ q, q < H.size → AX q → A0 q)
    (kx : ∀ (E : String) (ce : Cell) (q9 : Addr) (u : SX) (t : State) (H1 : Heap) (locs1 : List Loc), t.heap = H1 → s.vm.Alike t.vm → px u → BX E u t → H.size ≤ H1.size → (∀ q : Nat, q < H.size → ¬ AX q → H1[q]? = H[q]?) → va_S A0 H0 H1 locs1 → H1[q9]? = some ce → ce.vm = .none → s.vm.findClass E = some ce.cls → vx_W p l e R s m args below meth c H1 locs1 (cells + mc) (slots + ms) Q (F0 m pc ls rest) q9)
    (kk : ∀ (u : S) (t : State) (H1 : Heap) (locs1 : List Loc), t.heap = H1 → s.vm.Alike t.vm → post u → B u t → H.size ≤ H1.size → (∀ q : Nat, q < H.size → ¬ A1 q → H1[q]? = H[q]?) → va_S A0 H0 H1 locs1 → W p l e R s m args below meth c H1 locs1 (cells + mc) (slots + ms) Q (F0 m (pc + 3) ls (rest))) : W p l e R s m args below meth c H locs cells slots Q (F0 m pc ls st0) := by
  intro T hT X
  rcases hr T hT X with ⟨v, st₀, t, T', L, h0, X', hL, e1, e2, ⟨⟨u, hv, hp, hb⟩, hF⟩, st⟩ | ⟨q, st₀, t, T', L, E, ce, h0, X', hL, e1, e2, ⟨u, hp, hb, hF⟩, hce, hcv, hcl, st⟩
  · cases hv
    obtain ⟨k1, k2, k3⟩ := vx_keep h0 e1 hS hA hf hL hF
    obtain ⟨t2, a1, b1⟩ := kk u t T'.heap (locs ++ L) e1.symm (by rw [← e2]; exact X'.warmed.alike) hp hb k1 k2 k3 T' rfl X'
    exact ⟨t2, st t2 a1, b1⟩
  · obtain ⟨k1, k2, k3⟩ := vx_keep h0 e1 hS hAX hf hL hF
    obtain ⟨t2, a1, b1⟩ := kx E ce q u t T'.heap (locs ++ L) e1.symm (by rw [← e2]; exact X'.warmed.alike) hp hb k1 k2 k3 (by rw [e1]; exact hce) hcv hcl T' rfl X'
    exact ⟨t2, st.trans a1, b1⟩
/-- caught by the row x of this method's table; the rows ahead don't take it -/
theorem vx_catch {own name : String} {E : String} {ce : Cell} {q : Addr} (hown : s.vm.findClass own = some m.cls) (pre : List ExceptionTableEntry) (x : ExceptionTableEntry) (suf : List ExceptionTableEntry) (hsplit : c.exceptionTable.toList = pre ++ x :: suf)
    (hpass : ∀ z ∈ pre, covers z pc = false ∨ (z.catchType ≠ 0 ∧ ∃ nm : String, (Cond.classLink own z.catchType nm).before args s = true ∧ va_Nc E nm s)) (hx : covers x pc = true) (h0 : x.catchType ≠ 0)
    (hlink : (Cond.classLink own x.catchType name).before args s = true) (hcast : (Cond.castable E name).before args s = true) (hcell : H[q]? = some ce) (hv : ce.vm = .none) (hcl : s.vm.findClass E = some ce.cls)
    (kk : W p l e R s m args below meth c H locs cells slots Q (F0 m x.handlerPc ls [.ref q])) : vx_W p l e R s m args below meth c H locs cells slots Q (F0 m pc ls rest) q := by
  intro T hT X
  have hpl : e.platform.magicAccessors = ({} : Platform).magicAccessors := by rw [X.admits.platform]
  obtain ⟨c3, c4, hc3, hc4, hasg⟩ := Cond.castable_spec hcast
  cases Option.some.inj (hc3.symm.trans hcl)
  obtain ⟨c5, hc5, hcl5⟩ := Cond.classLink_spec hown hlink e.platform hpl
  cases Option.some.inj (hc4.symm.trans hc5)
  obtain ⟨vm', X', st⟩ := X.thenCaughtThrough q (g := F0 m pc ls rest) rfl (Steps.refl _) (by rw [hT]; exact hcell) (by rw [hv]; rfl) (by obtain ⟨k9, h9, -⟩ := Vm.findClass_spec hcl; exact ⟨k9, h9⟩) pre x suf hsplit
    (fun z hz => by
      rcases hpass z hz with h | ⟨hz0, nm, hl1, hn1⟩
      · exact Or.inl h
      · obtain ⟨c6, hc6, hcl6⟩ := Cond.classLink_spec hown hl1 e.platform hpl
        obtain ⟨a8, b8, h1, h2, h3⟩ := hn1
        cases Option.some.inj (h1.symm.trans hcl)
        cases Option.some.inj (h2.symm.trans hc6)
        exact Or.inr ⟨hz0, _, hcl6, h3⟩) hx (Or.inr ⟨h0, c4, hcl5, hasg⟩)
  obtain ⟨t, a1, b1⟩ := kk (T.setVm vm') hT X'
  exact ⟨t, st.trans a1, b1⟩
end Rows
section Ends
variable {p : Program} {l : Launch} {e : Env} {R : Room} {s : State} {m : MethodId} {args : Array Value} {below : List Frame} {meth : Method} {c : Code} {H : Heap} {locs : List Loc} {cells slots : Nat} {Q : State → Prop}
variable {mc ms : Nat} {free : Addr → Prop} {A0 A1 : Nat → Prop} {H0 : Heap} {a : Array Value} {ls : Array Slot} {st0 rest : List Value}
variable {Qc : Array Value → State → Outcome → State → Prop} {XC : String → State → State → Prop}
/-- what a body that may throw owes at its end -/
def vx_MQ (below : List Frame) (Qc : Array Value → State → Outcome → State → Prop) (XC : String → State → State → Prop) (a : Array Value) (s : State) (mc ms : Nat) (free : Addr → Prop) : State → Prop := fun t =>
  ∃ o, t.status = .running ∧ Ended t below o ∧ vx_Q Qc XC mc ms free a s o t
theorem vx_ret {g : JFrame} {mc ms : Nat} (k : W p l e R s m args below meth c H locs cells slots (MQ below Qc args s mc ms free) g) : W p l e R s m args below meth c H locs cells slots (vx_MQ below Qc XC args s mc ms free) g := by
  intro T hT X
  obtain ⟨t, a1, o, b1, b2, b3, b4⟩ := k T hT X
  exact ⟨t, a1, o, b1, b2, Or.inl ⟨b3, b4⟩⟩
/-- not caught here: it goes on to the caller -/
theorem vx_widen {g : JFrame} {q : Addr} {k n : Nat} (h1 : cells ≤ k) (h2 : slots ≤ n) (kk : vx_W p l e R s m args below meth c H locs k n Q g q) : vx_W p l e R s m args below meth c H locs cells slots Q g q := fun T hT X => kk T hT (stand_widen X h1 h2)
theorem vx_out {pc : Nat} {E : String} {ce : Cell} {q : Addr} {mc ms : Nat} (hout : ∀ x ∈ c.exceptionTable.toList, covers x pc = false) (hlocks : meth.locks = false) (hcell : H[q]? = some ce) (hv : ce.vm = .none) (hcl : s.vm.findClass E = some ce.cls)
    (hx : ∀ t : State, t.heap = H → s.vm.Alike t.vm → XC E s t) (hf : ∀ z ∈ locs, free z.base) (hc : cells ≤ mc) (hs : slots ≤ ms) :
    vx_W p l e R s m args below meth c H locs cells slots (vx_MQ below Qc XC args s mc ms free) (F0 m pc ls rest) q := by
  intro T hT X
  obtain ⟨st1, hrun, hend, hW, hsm⟩ := X.leaveThrown q (g := F0 m pc ls rest) rfl rfl rfl hout hlocks
  have hcell9 : (T.setFrames (.throwing q :: below)).heap[q]? = some ce := by
    show T.heap[q]? = some ce
    rw [hT]; exact hcell
  exact ⟨_, st1, .threw q, hrun, hend, Or.inr ⟨q, rfl, E, ce, locs, hx _ hT hW.alike, hcell9, hv, hcl, hW, hsm.mono hc hs, hf⟩⟩
theorem vx_frame {U : State} {k n : Nat} (h : s.sameButNew ({ U with vm := s.vm } : State) locs k n) : s.heap.size ≤ U.heap.size ∧ ∀ q : Nat, q < s.heap.size → (∀ z ∈ locs, z.base ≠ q) → U.heap[q]? = s.heap[q]? := by
  obtain ⟨-, h2, -, -, -, h6⟩ := h
  refine ⟨h2, fun q hq hz => ?_⟩
  obtain ⟨c9, e1, e2, e3, e4⟩ := h6 q _ (Array.getElem?_eq_getElem hq)
  have hs : c9.slots = (s.heap[q]).slots := Array.ext_getElem? fun i => e4 i fun hm => hz _ hm rfl
  have h9 : c9 = s.heap[q] := by
    rw [hs] at e2
    exact e2
  have e5 : U.heap[q]? = some c9 := e1
  rw [e5, h9, Array.getElem?_eq_getElem hq]
/-- the words of a throw but the four that speak of the heap -/
def vx_no (w : Cond) : Bool := decide (w ≠ .isRef (.static Bundle.tN "UNASSIGNED_STACK" Bundle.steD)) && decide (w ≠ .isRef (.static Bundle.tN "SUPPRESSED_SENTINEL" Bundle.listD)) && decide (w ≠ .laysStatic Bundle.tN "UNASSIGNED_STACK" Bundle.steD) && decide (w ≠ .laysStatic Bundle.tN "SUPPRESSED_SENTINEL" Bundle.listD)
def vx_at0 (own : String) (ic : Nat) (X : String) (names : List String) : List Cond := (Bundle.ownAtoms0 own ic X names).filter vx_no
def vx_atS (own : String) (ic : Nat) (X : String) (names : List String) : List Cond := (Bundle.ownAtoms own ic X names).filter vx_no
/-- a word that the tables alone decide, or a good one -/
def vx_ot (w : Cond) : Bool := w.onTables || goodWord w
theorem vx_ot_at {args a' : Array Value} {s U : State} {w : Cond} (hW : s.WarmedH U.vm) (hvm : s.vm = U.vm) (hg : vx_ot w = true) (h : w.before args s = true) : w.before a' U = true := by
  simp only [vx_ot, Bool.or_eq_true] at hg
  rcases hg with hg | hg
  · exact va_tabs hg hvm h
  · exact word_at hW (good_of_word hg) h
/-- a list's words: the good ones out of the method's own list, the others by premises of their own -/
theorem vx_hat {args : Array Value} {s : State} {L B : List Cond} (h1 : ∀ w ∈ L.filter goodWord, w.before args s = true) (h2 : ∀ w ∈ L.filter (fun w => !goodWord w), w ∈ B) (h3 : ∀ w ∈ B, w.before args s = true) : ∀ w ∈ L, w.before args s = true := by
  intro w hw
  by_cases g : goodWord w = true
  · exact h1 w (List.mem_filter.mpr ⟨hw, g⟩)
  · refine h3 w (h2 w (List.mem_filter.mpr ⟨hw, ?_⟩))
    show (!goodWord w) = true
    cases hgw : goodWord w
    · rfl
    · exact absurd hgw g
theorem vx_c {args : Array Value} {s : State} {w : Cond} {B : List Cond} (h : w.before args s = true) (t : ∀ w ∈ B, w.before args s = true) : ∀ w' ∈ w :: B, w'.before args s = true := fun w' h' => (List.mem_cons.mp h').elim (fun e => by rw [e]; exact h) (t w')
theorem vx_n {args : Array Value} {s : State} : ∀ w ∈ ([] : List Cond), w.before args s = true := fun _ h => nomatch h
theorem vx_own {args : Array Value} {s : State} {L : List Cond} (h1 : ∀ w ∈ L.filter vx_no, w.before args s = true)
    (hU : (Cond.isRef (.static Bundle.tN "UNASSIGNED_STACK" Bundle.steD)).before args s = true) (hN : (Cond.isRef (.static Bundle.tN "SUPPRESSED_SENTINEL" Bundle.listD)).before args s = true)
    (lU : (Cond.laysStatic Bundle.tN "UNASSIGNED_STACK" Bundle.steD).before args s = true) (lN : (Cond.laysStatic Bundle.tN "SUPPRESSED_SENTINEL" Bundle.listD).before args s = true) : ∀ w ∈ L, w.before args s = true := by
  intro w hw
  by_cases e1 : w = .isRef (.static Bundle.tN "UNASSIGNED_STACK" Bundle.steD)
  · rw [e1]; exact hU
  · by_cases e2 : w = .isRef (.static Bundle.tN "SUPPRESSED_SENTINEL" Bundle.listD)
    · rw [e2]; exact hN
    · by_cases e3 : w = .laysStatic Bundle.tN "UNASSIGNED_STACK" Bundle.steD
      · rw [e3]; exact lU
      · by_cases e4 : w = .laysStatic Bundle.tN "SUPPRESSED_SENTINEL" Bundle.listD
        · rw [e4]; exact lN
        · exact h1 w (List.mem_filter.mpr ⟨hw, by unfold vx_no; rw [decide_eq_true e1, decide_eq_true e2, decide_eq_true e3, decide_eq_true e4]; rfl⟩)
/-- where a static field lies, its class's statics cell in H -/
def vx_L (C n d : String) (A : Nat → Prop) (U : State) (H : Heap) : Prop := ∃ (c : ClassId) (k : Class) (i : Nat) (f : Field) (a : Nat) (cell : Cell), U.vm.findClass C = some c ∧ U.fieldFound? C n d = some (c, k, i, f) ∧ f.isStatic = true ∧ k.statics = some a ∧ H[a]? = some cell ∧ cell.vm.isStatics = true ∧ cell.cls = c ∧ f.slot < cell.slots.size ∧ k.staticTypes[f.slot]? = some f.type ∧ ¬ A a
theorem vx_L.moved {C n d : String} {A : Nat → Prop} {u U : State} {H : Heap} (hvm : u.vm.Alike U.vm) (h : vx_L C n d A u H) : vx_L C n d A U H := by
  obtain ⟨c, k, i, f, a, cell, h1, h2, h3, h4, h5, h6, h7, h8, h9, h10⟩ := h
  obtain ⟨k', hi', he⟩ := State.fieldFound?_setVm hvm h2
  exact ⟨c, k', i, f, a, cell, by rw [hvm.findClass]; exact h1, hi', h3, by rw [he]; exact h4, h5, h6, h7, h8, by rw [he]; exact h9, h10⟩
theorem vx_L.kept {C n d : String} {A : Nat → Prop} {U : State} {H H1 : Heap} (h : vx_L C n d A U H) (hq : ∀ a : Nat, a < H.size → ¬ A a → H1[a]? = H[a]?) : vx_L C n d A U H1 := by
  obtain ⟨c, k, i, f, a, cell, h1, h2, h3, h4, h5, h6, h7, h8, h9, h10⟩ := h
  exact ⟨c, k, i, f, a, cell, h1, h2, h3, h4, by rw [hq a (Array.getElem?_eq_some_iff.mp h5).1 h10]; exact h5, h6, h7, h8, h9, h10⟩
theorem vx_L.narrow {C n d : String} {A B : Nat → Prop} {U : State} {H : Heap} (h : vx_L C n d A U H) (hAB : ∀ q, B q → A q) : vx_L C n d B U H := by
  obtain ⟨c, k, i, f, a, cell, h1, h2, h3, h4, h5, h6, h7, h8, h9, h10⟩ := h
  exact ⟨c, k, i, f, a, cell, h1, h2, h3, h4, h5, h6, h7, h8, h9, fun z => h10 (hAB _ z)⟩
theorem vx_L.word {C n d : String} {A : Nat → Prop} {s : State} {args : Array Value} (h : vx_L C n d A s s.heap) : (Cond.laysStatic C n d).before args s = true := by
  obtain ⟨c, k, i, f, a, cell, h1, h2, h3, h4, h5, h6, h7, h8, h9, -⟩ := h
  show (Cond.laysStatic C n d).holds args s none s [] = true
  exact Cond.laysStatic_of h1 h2 h3 h4 h5 h6 h7 h8 h9
/-- .. and what it holds: null or some reference -/
def vx_Zq (C n d : String) (A : Nat → Prop) (U : State) (H : Heap) : Prop := va_Zq C n d A U H ∧ vx_L C n d A U H
theorem vx_Zq.moved {C n d : String} {A : Nat → Prop} {u U : State} {H : Heap} (hvm : u.vm.Alike U.vm) (h : vx_Zq C n d A u H) : vx_Zq C n d A U H := ⟨va_Zq.moved hvm h.1, vx_L.moved hvm h.2⟩
theorem vx_Zq.kept {C n d : String} {A : Nat → Prop} {U : State} {H H1 : Heap} (h : vx_Zq C n d A U H) (hq : ∀ a : Nat, a < H.size → ¬ A a → H1[a]? = H[a]?) : vx_Zq C n d A U H1 := ⟨va_Zq.kept h.1 hq, vx_L.kept h.2 hq⟩
theorem vx_Zq.narrow {C n d : String} {A B : Nat → Prop} {U : State} {H : Heap} (h : vx_Zq C n d A U H) (hAB : ∀ q, B q → A q) : vx_Zq C n d B U H := ⟨va_Zq.narrow h.1 hAB, vx_L.narrow h.2 hAB⟩
theorem vx_Zqof {args : Array Value} {s : State} {C n d : String} {A : Nat → Prop} (hl : (Cond.laysStatic C n d).before args s = true) (hini : (Cond.initialized C).before args s = true) (h : (Cond.isRef (.static C n d)).before args s = true) (hA : ∀ a : Nat, a < s.heap.size → ¬ A a) : vx_Zq C n d A s s.heap := by
  refine ⟨va_Zqof hl hini h hA, ?_⟩
  obtain ⟨c, k, i, f, a, cell, h1, h2, h3, h4, h5, h6, h7, h8, h9⟩ := Cond.laysStatic_spec hl
  exact ⟨c, k, i, f, a, cell, h1, h2, h3, h4, h5, h6, h7, h8, h9, hA a (Array.getElem?_eq_some_iff.mp h5).1⟩
theorem vx_isRef {C n d : String} {v : Value} {A : Nat → Prop} {s : State} {args : Array Value} (h : va_Z C n d v A s s.heap) (hv : v.isRef = true) : (Cond.isRef (.static C n d)).before args s = true := by
  obtain ⟨cf, kf, fi, f, a, cell, h1, h2, h3, h4, h5, h6, h7, -⟩ := h
  have he : (Term.static C n d).eval args s none [] s = some v := by
    simp [Term.eval, State.fieldNamed?, h1, h2, h4, h5, h6, h7]
  simp only [Cond.before, Cond.holds, Cond.value, he]
  cases v <;> simp_all [Value.isRef]
theorem vx_isRefq {C n d : String} {A : Nat → Prop} {s : State} {args : Array Value} (h : va_Zq C n d A s s.heap) : (Cond.isRef (.static C n d)).before args s = true := by
  rcases h with h | ⟨t, h⟩
  · exact vx_isRef h rfl
  · exact vx_isRef h rfl
/-- the same frame, seen from here: as if the method were called anew in this heap -/
theorem vx_rebase {T : State} (X : Stand p l e R s m args below meth c T locs cells slots) {R' : Room} (hf : R'.frames ≤ R.frames) (hl : R'.locals ≤ R.locals) (hc : cells + R'.cells ≤ R.cells) (hs : slots + R'.slots ≤ R.slots) :
    Stand p l e R' ((T.setVm s.vm).setFrames (.invoking m args :: below)) m args below meth c T [] 0 0 := by
  have htop : (T.setVm s.vm).topJava?.isSome := X.here.top
  have hF : ((T.setVm s.vm).setFrames (.invoking m args :: below)).frames = .invoking m args :: below := State.frames_setFrames _ (State.cur_lt_of_top htop)
  obtain ⟨g₀, hg0⟩ := Option.isSome_iff_exists.mp htop
  obtain ⟨r, hr⟩ := State.topJava?_eq_some.mp hg0
  have hl9 : e.platform.stackLimits (T.setVm s.vm).me = e.platform.stackLimits s.me := X.limits
  have hb9 : (T.setVm s.vm).me.stackBytes = s.me.stackBytes := X.bytes
  refine ⟨X.admits, X.cas, X.clock, hF, ?_, X.hears, X.method, X.code, X.here, X.tail, X.warmed, ?_, ?_, ?_⟩
  · have h := X.room
    have hU : ((T.setVm s.vm).setFrames (.invoking m args :: below)).localsInUse = s.localsInUse := by
      rw [State.localsInUse_invoking hF (meth := meth) (c := c) X.method X.code, State.localsInUse_invoking X.frames X.method X.code]
    simp only [State.hasRoom, Bool.and_eq_true, decide_eq_true_eq] at h ⊢
    obtain ⟨⟨⟨⟨h1, h2, h3, h4, h5, h6⟩, h7⟩, h8⟩, h9⟩ := h
    rw [X.frames, List.length_cons] at h2 h3
    have q1 := X.heapSize
    have q2 := X.used
    simp only [hF, hU, List.length_cons, State.stackLimits_setFrames, State.stackBytes_setFrames, hl9, hb9]
    refine ⟨⟨⟨⟨by omega, by omega, by omega, by omega, by omega, h6⟩, ?_⟩, ?_⟩, X.book⟩
    · show T.heap.size + R'.cells ≤ e.platform.maxCells
      omega
    · show T.slotsUsed + R'.slots ≤ e.platform.maxSlots
      omega
  · rw [State.stackLimits_setFrames]; rfl
  · rw [State.stackBytes_setFrames]; rfl
  · refine ⟨?_, Nat.le_refl _, Nat.le_refl _, ?_, ?_, fun a c9 h9 => ⟨c9, h9, rfl, rfl, fun _ _ => rfl⟩⟩
    · obtain ⟨t, ht, -⟩ := State.frames_cons hr
      show T.setVm s.vm = { ((T.setVm s.vm).setFrames (.invoking m args :: below)).setFrames (T.setVm s.vm).frames with heap := T.heap, slotsUsed := T.slotsUsed }
      rw [State.setFrames_setFrames, State.setFrames_self ht]
      rfl
    · show T.slotsUsed = T.slotsUsed + ((T.heap.toList.drop T.heap.size).map (·.slots.size)).sum
      rw [List.drop_eq_nil_of_le (Nat.le_of_eq Array.length_toList)]
      rfl
    · show ((T.heap.toList.drop T.heap.size).map (·.slots.size)).sum ≤ 0
      rw [List.drop_eq_nil_of_le (Nat.le_of_eq Array.length_toList)]
      exact Nat.le_refl _
/-- 'throw new E()': new; dup; invokespecial; athrow -/
theorem vx_throw0 {cc : ByteArray} {pc : Nat} (hexec : p.tables.exec = Jvm.exec) (hb : c.code = cc) (hl : l.stackTraces = false) {own cls : String} {names : List String} {ik ic mc ms : Nat} {A : Nat → Prop}
    (hown : s.vm.findClass own = some m.cls) (hcls : Bundle.fit cls = true) (hnames : ∀ n ∈ names, Bundle.fit n = true)
    (hk : (Cond.classLink own ik cls).before args s = true) (hini : (Cond.initialized cls).before args s = true) (hat : ∀ w ∈ vx_at0 own ic cls names, w.before args s = true)
    (hgood : ∀ w ∈ Cond.classLink own ik cls :: Cond.initialized cls :: vx_at0 own ic cls names, vx_ot w = true)
    (hU : vx_Zq Bundle.tN "UNASSIGNED_STACK" Bundle.steD A s s.heap) (hN : vx_Zq Bundle.tN "SUPPRESSED_SENTINEL" Bundle.listD A s s.heap) (hS : va_S A s.heap H locs) (hsize : ls.size = c.maxLocals)
    (d0 : decode cc pc = .ok (.new ik, 3)) (d3 : decode cc (pc + 3) = .ok (.dup, 1)) (d4 : decode cc (pc + 4) = .ok (.invokespecial ic, 3)) (d7 : decode cc (pc + 7) = .ok (.athrow, 1))
    (hout : ∀ x ∈ c.exceptionTable.toList, covers x (pc + 7) = false)
    (hRframes : names.length + 3 < R.frames) (hRlocals : (rest.map fun v => v.category).sum + (13 * (names.length + 1) + 42) ≤ R.locals) (hRcells : cells + 1 ≤ R.cells) (hRslots : slots + 6 ≤ R.slots) (hlocks : meth.locks = false)
    (hx : ∀ t : State, s.vm.Alike t.vm → H.size ≤ t.heap.size → (∀ q : Nat, q < H.size → t.heap[q]? = H[q]?) → XC cls s t)
    (hf : ∀ z ∈ locs, free z.base) (hc : cells + 1 ≤ mc) (hs : slots + 6 ≤ ms) :
    W p l e R s m args below meth c H locs cells slots (vx_MQ below Qc XC args s mc ms free) (F0 m pc ls rest) := by
  intro T hT X
  have htr : e.platform.stackTraces = false := (show e.platform.stackTraces = l.stackTraces by rw [X.admits.platform]).trans hl
  have Y := vx_rebase X (R' := { frames := R.frames, locals := R.locals, cells := 1, slots := 6 }) (Nat.le_refl _) (Nat.le_refl _) hRcells hRslots
  obtain ⟨s', hA⟩ : ∃ z, z = (T.setVm s.vm).setFrames (.invoking m args :: below) := ⟨_, rfl⟩
  rw [← hA] at Y
  have hvm : s'.vm = s.vm := by rw [hA]; rfl
  have hhp : s'.heap = H := by rw [hA]; exact hT
  have hW0 : s.WarmedH s'.vm := by rw [hvm]; exact State.WarmedH.refl s
  have hat' : ∀ w ∈ vx_at0 own ic cls names, w.before args s' = true := fun w hw => vx_ot_at hW0 hvm.symm (hgood w (List.mem_cons_of_mem _ (List.mem_cons_of_mem _ hw))) (hat w hw)
  have hk' : (Cond.classLink own ik cls).before args s' = true := vx_ot_at hW0 hvm.symm (hgood _ List.mem_cons_self) hk
  have hini' : (Cond.initialized cls).before args s' = true := vx_ot_at hW0 hvm.symm (hgood _ (List.mem_cons_of_mem _ List.mem_cons_self)) hini
  have hU' : vx_Zq Bundle.tN "UNASSIGNED_STACK" Bundle.steD A s' s'.heap := by rw [hhp]; exact vx_Zq.moved hW0.alike (hU.kept hS.2.1)
  have hN' : vx_Zq Bundle.tN "SUPPRESSED_SENTINEL" Bundle.listD A s' s'.heap := by rw [hhp]; exact vx_Zq.moved hW0.alike (hN.kept hS.2.1)
  have h : ∀ w ∈ Bundle.ownAtoms0 own ic cls names, w.before args s' = true := vx_own hat' (vx_isRefq hU'.1) (vx_isRefq hN'.1) hU'.2.word hN'.2.word
  have hown' : s'.vm.findClass own = some m.cls := by rw [hvm]; exact hown
  have hins : (Cond.instantiable cls 6).before args s' = true := h _ (by simp [Bundle.ownAtoms0])
  obtain ⟨vm₁, cX, kX, hfX, hkX, -, -, X₁, st1⟩ := Y.newCold hexec (own := own) (C := cls) (index := ik) (n := 6) hown' hk' hins hini'
    (g := F0 m pc ls rest) rfl (by rw [hb]; exact d0) (Nat.le_refl _) (Nat.le_refl _)
  generalize hT1 : (T.setVm vm₁).pushCell { cls := cX, slots := kX.instanceTypes.map defaultValue, vm := .none } = T1 at X₁ st1
  have hcat : (Value.ref T.heap.size).category = 1 := rfl
  have hcellA : T1.heap[T.heap.size]? = some (freshCell cX kX) := by rw [← hT1]; exact State.heap_pushCell_size _ _
  have d3' : decode c.code (pc + 3) = .ok (.dup, 1) := by rw [hb]; exact d3
  obtain ⟨U, hsteps, hrun, hend, hW, hsame, ce, hce, hO⟩ := X₁.ctorThrow0 hexec htr (own := own) (cls := cls) (names := names) (ic := ic) hown' hcls hnames h (fun x hx => nomatch hx) hfX hkX hcellA (by rw [hhp, hT]; exact Nat.le_refl _)
    (g := { method := m, pc := pc + 4, locals := ls, stack := .ref T.heap.size :: .ref T.heap.size :: rest, locked := none }) rfl hsize rfl rfl (rest := rest) rfl
    (by rw [hb]; exact d4) (by rw [hb]; exact d7) hout hRframes (by simp only [List.map_cons, List.sum_cons, hcat]; omega) hlocks
  obtain ⟨f1, f2⟩ := vx_frame hsame
  rw [hhp] at f1 f2
  have hWs : s.WarmedH U.vm := State.WarmedH.trans hW0 hW
  have hcl : s.vm.findClass cls = some ce.cls := by
    have h9 := hO.cls
    rw [hvm] at h9
    exact h9
  have hall : s.sameButNew ({ U with vm := s.vm } : State) locs mc ms := by
    subst hA
    obtain ⟨e1, e2⟩ := hsame
    rw [State.setFrames_setFrames] at e1
    have h2 : (T.setVm s.vm).sameButNew ({ U with vm := s.vm } : State) [] (0 + 1) (0 + 6) := ⟨e1, e2⟩
    have h3 := X.same.trans h2
    rw [List.append_nil] at h3
    exact h3.mono hc hs
  refine ⟨U, ?_, .threw T.heap.size, hrun, hend, Or.inr ⟨T.heap.size, rfl, cls, ce, locs, hx U hWs.alike f1 (fun q hq => f2 q hq (fun z hz => nomatch hz)), hce, hO.vm, hcl, hWs, hall, hf⟩⟩
  refine st1 _ ?_
  show Steps p.tables e below (T1.setTop { method := m, pc := pc + 3, locals := ls, stack := .ref T.heap.size :: rest, locked := none }) _
  jvm_step X₁.here [X₁.here.top, hexec, d3', Value.category]
  exact hsteps
/-- 'throw new E("text")': new; dup; ldc; invokespecial; athrow -/
theorem vx_throwS {cc : ByteArray} {pc : Nat} (hexec : p.tables.exec = Jvm.exec) (hb : c.code = cc) (hl : l.stackTraces = false) {own cls text : String} {names : List String} {ik is ic mc ms sa : Nat} {A : Nat → Prop}
    (hown : s.vm.findClass own = some m.cls) (hcls : Bundle.fit cls = true) (hnames : ∀ n ∈ names, Bundle.fit n = true)
    (hk : (Cond.classLink own ik cls).before args s = true) (hini : (Cond.initialized cls).before args s = true) (hstr : vk_R own is text sa s) (hat : ∀ w ∈ vx_atS own ic cls names, w.before args s = true)
    (hgood : ∀ w ∈ Cond.classLink own ik cls :: Cond.initialized cls :: vx_atS own ic cls names, vx_ot w = true)
    (hU : vx_Zq Bundle.tN "UNASSIGNED_STACK" Bundle.steD A s s.heap) (hN : vx_Zq Bundle.tN "SUPPRESSED_SENTINEL" Bundle.listD A s s.heap) (hS : va_S A s.heap H locs) (hsize : ls.size = c.maxLocals)
    (d0 : decode cc pc = .ok (.new ik, 3)) (d3 : decode cc (pc + 3) = .ok (.dup, 1)) (d4 : decode cc (pc + 4) = .ok (.ldc is, 2)) (d6 : decode cc (pc + 6) = .ok (.invokespecial ic, 3)) (d9 : decode cc (pc + 9) = .ok (.athrow, 1))
    (hout : ∀ x ∈ c.exceptionTable.toList, covers x (pc + 9) = false)
    (hRframes : names.length + 3 < R.frames) (hRlocals : (rest.map fun v => v.category).sum + (13 * (names.length + 1) + 43) ≤ R.locals) (hRcells : cells + 1 ≤ R.cells) (hRslots : slots + 6 ≤ R.slots) (hlocks : meth.locks = false)
    (hx : ∀ t : State, s.vm.Alike t.vm → H.size ≤ t.heap.size → (∀ q : Nat, q < H.size → t.heap[q]? = H[q]?) → XC cls s t)
    (hf : ∀ z ∈ locs, free z.base) (hc : cells + 1 ≤ mc) (hs : slots + 6 ≤ ms) :
    W p l e R s m args below meth c H locs cells slots (vx_MQ below Qc XC args s mc ms free) (F0 m pc ls rest) := by
  intro T hT X
  have htr : e.platform.stackTraces = false := (show e.platform.stackTraces = l.stackTraces by rw [X.admits.platform]).trans hl
  have Y := vx_rebase X (R' := { frames := R.frames, locals := R.locals, cells := 1, slots := 6 }) (Nat.le_refl _) (Nat.le_refl _) hRcells hRslots
  obtain ⟨s', hA⟩ : ∃ z, z = (T.setVm s.vm).setFrames (.invoking m args :: below) := ⟨_, rfl⟩
  rw [← hA] at Y
  have hvm : s'.vm = s.vm := by rw [hA]; rfl
  have hhp : s'.heap = H := by rw [hA]; exact hT
  have hW0 : s.WarmedH s'.vm := by rw [hvm]; exact State.WarmedH.refl s
  have hat' : ∀ w ∈ vx_atS own ic cls names, w.before args s' = true := fun w hw => vx_ot_at hW0 hvm.symm (hgood w (List.mem_cons_of_mem _ (List.mem_cons_of_mem _ hw))) (hat w hw)
  have hk' : (Cond.classLink own ik cls).before args s' = true := vx_ot_at hW0 hvm.symm (hgood _ List.mem_cons_self) hk
  have hini' : (Cond.initialized cls).before args s' = true := vx_ot_at hW0 hvm.symm (hgood _ (List.mem_cons_of_mem _ List.mem_cons_self)) hini
  have hU' : vx_Zq Bundle.tN "UNASSIGNED_STACK" Bundle.steD A s' s'.heap := by rw [hhp]; exact vx_Zq.moved hW0.alike (hU.kept hS.2.1)
  have hN' : vx_Zq Bundle.tN "SUPPRESSED_SENTINEL" Bundle.listD A s' s'.heap := by rw [hhp]; exact vx_Zq.moved hW0.alike (hN.kept hS.2.1)
  have h : ∀ w ∈ Bundle.ownAtoms own ic cls names, w.before args s' = true := vx_own hat' (vx_isRefq hU'.1) (vx_isRefq hN'.1) hU'.2.word hN'.2.word
  have hown' : s'.vm.findClass own = some m.cls := by rw [hvm]; exact hown
  have hins : (Cond.instantiable cls 6).before args s' = true := h _ (by simp [Bundle.ownAtoms])
  obtain ⟨vm₁, cX, kX, hfX, hkX, -, -, X₁, st1⟩ := Y.newCold hexec (own := own) (C := cls) (index := ik) (n := 6) hown' hk' hins hini'
    (g := F0 m pc ls rest) rfl (by rw [hb]; exact d0) (Nat.le_refl _) (Nat.le_refl _)
  generalize hT1 : (T.setVm vm₁).pushCell { cls := cX, slots := kX.instanceTypes.map defaultValue, vm := .none } = T1 at X₁ st1
  have hcat : (Value.ref T.heap.size).category = 1 := rfl
  have hcellA : T1.heap[T.heap.size]? = some (freshCell cX kX) := by rw [← hT1]; exact State.heap_pushCell_size _ _
  have d3' : decode c.code (pc + 3) = .ok (.dup, 1) := by rw [hb]; exact d3
  have d4' : decode c.code (pc + 4) = .ok (.ldc is, 2) := by rw [hb]; exact d4
  have hstr' : vk_R own is text sa s' := vk_R.warm hW0 hstr
  obtain ⟨U, hsteps, hrun, hend, hW, hsame, ce, hce, hO⟩ := X₁.ctorThrowS hexec htr (own := own) (cls := cls) (names := names) (ic := ic) hown' hcls hnames h (fun x hx => nomatch hx) hfX hkX hcellA (by rw [hhp, hT]; exact Nat.le_refl _) (msg := .ref sa) rfl
    (g := { method := m, pc := pc + 6, locals := ls, stack := .ref sa :: .ref T.heap.size :: .ref T.heap.size :: rest, locked := none }) rfl hsize rfl rfl (rest := rest) rfl
    (by rw [hb]; exact d6) (by rw [hb]; exact d9) hout hRframes (by simp only [List.map_cons, List.sum_cons, hcat]; omega) hlocks
  obtain ⟨f1, f2⟩ := vx_frame hsame
  rw [hhp] at f1 f2
  have hWs : s.WarmedH U.vm := State.WarmedH.trans hW0 hW
  have hcl : s.vm.findClass cls = some ce.cls := by
    have h9 := hO.cls
    rw [hvm] at h9
    exact h9
  have hall : s.sameButNew ({ U with vm := s.vm } : State) locs mc ms := by
    subst hA
    obtain ⟨e1, e2⟩ := hsame
    rw [State.setFrames_setFrames] at e1
    have h2 : (T.setVm s.vm).sameButNew ({ U with vm := s.vm } : State) [] (0 + 1) (0 + 6) := ⟨e1, e2⟩
    have h3 := X.same.trans h2
    rw [List.append_nil] at h3
    exact h3.mono hc hs
  refine ⟨U, ?_, .threw T.heap.size, hrun, hend, Or.inr ⟨T.heap.size, rfl, cls, ce, locs, hx U hWs.alike f1 (fun q hq => f2 q hq (fun z hz => nomatch hz)), hce, hO.vm, hcl, hWs, hall, hf⟩⟩
  refine st1 _ ?_
  show Steps p.tables e below (T1.setTop { method := m, pc := pc + 3, locals := ls, stack := .ref T.heap.size :: rest, locked := none }) _
  jvm_step X₁.here [X₁.here.top, hexec, d3', Value.category]
  exact X₁.ldcString hexec (own := own) (text := text) (index := is) (a := sa) hown' hstr'.1 hstr'.2
    (g := { method := m, pc := pc + 4, locals := ls, stack := .ref T.heap.size :: .ref T.heap.size :: rest, locked := none }) rfl d4' _ hsteps
/-- 'throw new E("text")', the text by a wide index -/
theorem vx_throwSW {cc : ByteArray} {pc : Nat} (hexec : p.tables.exec = Jvm.exec) (hb : c.code = cc) (hl : l.stackTraces = false) {own cls text : String} {names : List String} {ik is ic mc ms sa : Nat} {A : Nat → Prop}
    (hown : s.vm.findClass own = some m.cls) (hcls : Bundle.fit cls = true) (hnames : ∀ n ∈ names, Bundle.fit n = true)
    (hk : (Cond.classLink own ik cls).before args s = true) (hini : (Cond.initialized cls).before args s = true) (hstr : vk_R own is text sa s) (hat : ∀ w ∈ vx_atS own ic cls names, w.before args s = true)
    (hgood : ∀ w ∈ Cond.classLink own ik cls :: Cond.initialized cls :: vx_atS own ic cls names, vx_ot w = true)
    (hU : vx_Zq Bundle.tN "UNASSIGNED_STACK" Bundle.steD A s s.heap) (hN : vx_Zq Bundle.tN "SUPPRESSED_SENTINEL" Bundle.listD A s s.heap) (hS : va_S A s.heap H locs) (hsize : ls.size = c.maxLocals)
    (d0 : decode cc pc = .ok (.new ik, 3)) (d3 : decode cc (pc + 3) = .ok (.dup, 1)) (d4 : decode cc (pc + 4) = .ok (.ldc_w is, 3)) (d7 : decode cc (pc + 7) = .ok (.invokespecial ic, 3)) (d10 : decode cc (pc + 10) = .ok (.athrow, 1))
    (hout : ∀ x ∈ c.exceptionTable.toList, covers x (pc + 10) = false)
    (hRframes : names.length + 3 < R.frames) (hRlocals : (rest.map fun v => v.category).sum + (13 * (names.length + 1) + 43) ≤ R.locals) (hRcells : cells + 1 ≤ R.cells) (hRslots : slots + 6 ≤ R.slots) (hlocks : meth.locks = false)
    (hx : ∀ t : State, s.vm.Alike t.vm → H.size ≤ t.heap.size → (∀ q : Nat, q < H.size → t.heap[q]? = H[q]?) → XC cls s t)
    (hf : ∀ z ∈ locs, free z.base) (hc : cells + 1 ≤ mc) (hs : slots + 6 ≤ ms) :
    W p l e R s m args below meth c H locs cells slots (vx_MQ below Qc XC args s mc ms free) (F0 m pc ls rest) := by
  intro T hT X
  have htr : e.platform.stackTraces = false := (show e.platform.stackTraces = l.stackTraces by rw [X.admits.platform]).trans hl
  have Y := vx_rebase X (R' := { frames := R.frames, locals := R.locals, cells := 1, slots := 6 }) (Nat.le_refl _) (Nat.le_refl _) hRcells hRslots
  obtain ⟨s', hA⟩ : ∃ z, z = (T.setVm s.vm).setFrames (.invoking m args :: below) := ⟨_, rfl⟩
  rw [← hA] at Y
  have hvm : s'.vm = s.vm := by rw [hA]; rfl
  have hhp : s'.heap = H := by rw [hA]; exact hT
  have hW0 : s.WarmedH s'.vm := by rw [hvm]; exact State.WarmedH.refl s
  have hat' : ∀ w ∈ vx_atS own ic cls names, w.before args s' = true := fun w hw => vx_ot_at hW0 hvm.symm (hgood w (List.mem_cons_of_mem _ (List.mem_cons_of_mem _ hw))) (hat w hw)
  have hk' : (Cond.classLink own ik cls).before args s' = true := vx_ot_at hW0 hvm.symm (hgood _ List.mem_cons_self) hk
  have hini' : (Cond.initialized cls).before args s' = true := vx_ot_at hW0 hvm.symm (hgood _ (List.mem_cons_of_mem _ List.mem_cons_self)) hini
  have hU' : vx_Zq Bundle.tN "UNASSIGNED_STACK" Bundle.steD A s' s'.heap := by rw [hhp]; exact vx_Zq.moved hW0.alike (hU.kept hS.2.1)
  have hN' : vx_Zq Bundle.tN "SUPPRESSED_SENTINEL" Bundle.listD A s' s'.heap := by rw [hhp]; exact vx_Zq.moved hW0.alike (hN.kept hS.2.1)
  have h : ∀ w ∈ Bundle.ownAtoms own ic cls names, w.before args s' = true := vx_own hat' (vx_isRefq hU'.1) (vx_isRefq hN'.1) hU'.2.word hN'.2.word
  have hown' : s'.vm.findClass own = some m.cls := by rw [hvm]; exact hown
  have hins : (Cond.instantiable cls 6).before args s' = true := h _ (by simp [Bundle.ownAtoms])
  obtain ⟨vm₁, cX, kX, hfX, hkX, -, -, X₁, st1⟩ := Y.newCold hexec (own := own) (C := cls) (index := ik) (n := 6) hown' hk' hins hini'
    (g := F0 m pc ls rest) rfl (by rw [hb]; exact d0) (Nat.le_refl _) (Nat.le_refl _)
  generalize hT1 : (T.setVm vm₁).pushCell { cls := cX, slots := kX.instanceTypes.map defaultValue, vm := .none } = T1 at X₁ st1
  have hcat : (Value.ref T.heap.size).category = 1 := rfl
  have hcellA : T1.heap[T.heap.size]? = some (freshCell cX kX) := by rw [← hT1]; exact State.heap_pushCell_size _ _
  have d3' : decode c.code (pc + 3) = .ok (.dup, 1) := by rw [hb]; exact d3
  have d4' : decode c.code (pc + 4) = .ok (.ldc_w is, 3) := by rw [hb]; exact d4
  have hstr' : vk_R own is text sa s' := vk_R.warm hW0 hstr
  obtain ⟨U, hsteps, hrun, hend, hW, hsame, ce, hce, hO⟩ := X₁.ctorThrowS hexec htr (own := own) (cls := cls) (names := names) (ic := ic) hown' hcls hnames h (fun x hx => nomatch hx) hfX hkX hcellA (by rw [hhp, hT]; exact Nat.le_refl _) (msg := .ref sa) rfl
    (g := { method := m, pc := pc + 7, locals := ls, stack := .ref sa :: .ref T.heap.size :: .ref T.heap.size :: rest, locked := none }) rfl hsize rfl rfl (rest := rest) rfl
    (by rw [hb]; exact d7) (by rw [hb]; exact d10) hout hRframes (by simp only [List.map_cons, List.sum_cons, hcat]; omega) hlocks
  obtain ⟨f1, f2⟩ := vx_frame hsame
  rw [hhp] at f1 f2
  have hWs : s.WarmedH U.vm := State.WarmedH.trans hW0 hW
  have hcl : s.vm.findClass cls = some ce.cls := by
    have h9 := hO.cls
    rw [hvm] at h9
    exact h9
  have hall : s.sameButNew ({ U with vm := s.vm } : State) locs mc ms := by
    subst hA
    obtain ⟨e1, e2⟩ := hsame
    rw [State.setFrames_setFrames] at e1
    have h2 : (T.setVm s.vm).sameButNew ({ U with vm := s.vm } : State) [] (0 + 1) (0 + 6) := ⟨e1, e2⟩
    have h3 := X.same.trans h2
    rw [List.append_nil] at h3
    exact h3.mono hc hs
  refine ⟨U, ?_, .threw T.heap.size, hrun, hend, Or.inr ⟨T.heap.size, rfl, cls, ce, locs, hx U hWs.alike f1 (fun q hq => f2 q hq (fun z hz => nomatch hz)), hce, hO.vm, hcl, hWs, hall, hf⟩⟩
  refine st1 _ ?_
  show Steps p.tables e below (T1.setTop { method := m, pc := pc + 3, locals := ls, stack := .ref T.heap.size :: rest, locked := none }) _
  jvm_step X₁.here [X₁.here.top, hexec, d3', Value.category]
  exact X₁.ldcStringW hexec (own := own) (text := text) (index := is) (a := sa) hown' hstr'.1 hstr'.2
    (g := { method := m, pc := pc + 4, locals := ls, stack := .ref T.heap.size :: .ref T.heap.size :: rest, locked := none }) rfl d4' _ hsteps
end Ends
section Bodies
variable {l : Launch}
theorem vx_ofW {y : MethodName} {ws ws' : List Cond} {rm : Room} {Pc : Array Value → State → Prop} {Qc : Array Value → State → Outcome → State → Prop} {XC : String → State → State → Prop} {mc ms : Nat} {free : Addr → Prop} {cc : ByteArray} {maxL : Nat} {ret : Option FieldType}
    (hy : plainName y.cls = true) (hw : ws = Cond.code y cc maxL ret :: ws')
    (body : ∀ p e s m args below meth c s₁, BodyLoose p l y (headSpec ws rm) cc maxL ret e s m args below meth c s₁ → c.maxLocals = maxL → (∀ x ∈ c.exceptionTable.toList, False) → Pc args s →
      W p l e (headSpec ws rm).room s m args below meth c s.heap [] 0 0 (vx_MQ below Qc XC args s mc ms free) (entryFrame m args maxL)) : vx_Met l y ws rm Pc Qc XC mc ms free := by
  refine MetFree.of_bodyS (code := cc) (maxLocals := maxL) (ret := ret) hy ?_ ?_
  · intro args s m h hn
    obtain ⟨meth, c, h1, h2, h3, h4, h5, h6, -, -⟩ := Cond.code_spec hn (atoms_spec (ws := ws) h _ (by rw [hw]; exact List.mem_cons_self))
    exact ⟨meth, c, h1, h2, h3, h4, h5, h6⟩
  · intro p e s m args below meth c s₁ B hml hP _
    have hh0 : s₁.heap = s.heap := by rw [B.state]; rfl
    have ht : ∀ x ∈ c.exceptionTable.toList, False := by
      obtain ⟨meth9, c9, h1, h2, -, -, -, -, h7, -⟩ := Cond.code_spec B.named (atoms_spec (ws := ws) B.pre _ (by rw [hw]; exact List.mem_cons_self))
      cases Option.some.inj (h1.symm.trans B.method)
      cases Option.some.inj (h2.symm.trans (Stand.of_body B).code)
      intro x hx
      rw [Array.isEmpty_iff.mp h7] at hx
      cases hx
    obtain ⟨t, a1, o, b1, b2, b3⟩ := body p e s m args below meth c s₁ B hml ht hP s₁ hh0 (Stand.of_body B)
    exact ⟨t, o, a1, b1, b2, b3⟩
/-- the table of a body with handlers -/
theorem vx_table {p : Program} {x y : MethodName} {S : Spec} {cc bytes : ByteArray} {maxL maxL' : Nat} {ret ret' : Option FieldType} {e : Env} {s s₁ : State} {m : MethodId} {args : Array Value} {below : List Frame} {meth : Method} {c : Code} {hh : List (Nat × Nat × Nat × Nat)}
    (B : BodyLoose p l y S cc maxL ret e s m args below meth c s₁) (h : (Cond.codeWith y bytes maxL' ret' hh).before args s = true) : c.exceptionTable.toList = tableOf hh := by
  obtain ⟨m9, meth9, c9, hn9, h1, h2, -, -, h6, -⟩ := Cond.codeWith_spec h
  cases Option.some.inj (hn9.symm.trans B.named)
  cases Option.some.inj (h1.symm.trans B.method)
  cases Option.some.inj (h2.symm.trans (Stand.of_body B).code)
  rw [← h6, table_eq]
end Bodies
end VXA
/-! ===== END ===== -/
/-! ===== BEGIN a static call of a method with an exception table ===== -/
section VXS
variable {p : Program} {l : Launch} {e : Env} {R : Room} {s : State} {m : MethodId} {args : Array Value} {below : List Frame} {meth : Method} {c : Code} {T : State} {H : Heap} {locs : List Loc} {cells slots : Nat}
abbrev vx_CSW (R : Room) (s : State) (args : Array Value) (own : String) (index : Nat) (y : MethodName) (bytes : ByteArray) (maxL : Nat) (ret : Option FieldType) (hh : List (Nat × Nat × Nat × Nat)) (ws : List Cond) (rm : Room) (mc ms n : Nat) : Prop :=
  (rm.cells = mc ∧ rm.slots = ms ∧ rm.frames + 1 ≤ R.frames ∧ 8 + (maxL + 11) + rm.locals ≤ R.locals ∧ (∀ w ∈ ws, ∀ (a' : Array Value) (U : State), s.WarmedH U.vm → w.before a' U = true) ∧ Cond.codeWith y bytes maxL ret hh ∈ ws) ∧
  (Cond.codeWith y bytes maxL ret hh).before args s = true ∧ (Cond.initialized y.cls).before args s = true ∧ (y.cls ≠ "java/lang/invoke/MethodHandle" ∧ y.cls ≠ "java/lang/invoke/VarHandle") ∧
  (∀ sig, parseMethodDescriptor y.desc = some sig → n = sig.parameters.length) ∧ (Cond.methodLink own index y).before args s = true ∧ (Cond.static y).before args s = true
theorem vx_cwSW {own : String} {index maxL mc ms : Nat} {y : MethodName} {bytes : ByteArray} {ret : Option FieldType} {hh : List (Nat × Nat × Nat × Nat)} {Ts ws ws' : List Cond} {rm : Room} (n : Nat) (ht : ∀ w ∈ Ts, w.before args s = true) (hT : GoodIn Ts (va_wsS own index y ws)) (hw : ws = Cond.codeWith y bytes maxL ret hh :: ws') (hrc : rm.cells = mc) (hrs : rm.slots = ms)
    (hd : y.cls ≠ "java/lang/invoke/MethodHandle" ∧ y.cls ≠ "java/lang/invoke/VarHandle" ∧ (parseMethodDescriptor y.desc).map (fun d => d.parameters.length) = some n) (hR : rm.frames + 1 ≤ R.frames ∧ 8 + (maxL + 11) + rm.locals ≤ R.locals) :
    vx_CSW R s args own index y bytes maxL ret hh ws rm mc ms n := by
  have ok : ∀ w ∈ va_wsS own index y ws, w.before args s = true := fun w h => ht w (hT w h).1
  have hG : GoodIn Ts ws := fun w h => hT w (by unfold va_wsS; exact List.mem_append_right _ h)
  have hc : Cond.codeWith y bytes maxL ret hh ∈ ws := by rw [hw]; exact List.mem_cons_self
  refine ⟨⟨hrc, hrs, hR.1, hR.2, pay_in ht hG, hc⟩, ht _ (hG _ hc).1, ok _ (by simp [va_wsS]), ⟨hd.1, hd.2.1⟩, fun sig h => ?_, ok _ (by simp [va_wsS]), ok _ (by simp [va_wsS])⟩
  have h2 := hd.2.2
  rw [h] at h2
  exact (Option.some.inj h2).symm
theorem vx_callSW (X : Stand p l e R s m args below meth c T locs cells slots) (hexec : p.tables.exec = Jvm.exec) {own : String} {index : Nat} {y : MethodName} {bytes : ByteArray} {maxL : Nat} {ret : Option FieldType} {hh : List (Nat × Nat × Nat × Nat)}
    (hown : s.vm.findClass own = some m.cls) (hlink : (Cond.methodLink own index y).before args s = true) (hstat : (Cond.static y).before args s = true) (hinit : (Cond.initialized y.cls).before args s = true)
    (hcode : (Cond.codeWith y bytes maxL ret hh).before args s = true) (hy : y.cls ≠ "java/lang/invoke/MethodHandle" ∧ y.cls ≠ "java/lang/invoke/VarHandle")
    {W9 : Nat} {Pre : Pt → Array Value → Prop} {Post : Pt → Array Value → Option Value → Pt → Prop} (hK : Back l R p e below s args y 3 W9 Pre Post)
    {g : JFrame} (hg : g.method = m) (hsize : g.locals.size = c.maxLocals) {argsL rest : List Value} (hlen : ∀ sig, parseMethodDescriptor y.desc = some sig → argsL.length = sig.parameters.length)
    (hstack : g.stack = argsL.reverse ++ rest) (hW : 2 * g.monitorRoom + (rest.map fun v => v.category).sum ≤ W9) (hdg : decode c.code g.pc = .ok (.invokestatic index, 3))
    (hpre : ∀ vm₁, s.WarmedH vm₁ → Pre ⟨T.setVm vm₁, locs, cells, slots⟩ argsL.toArray) :
    ∃ (v : Option Value) (vm₁ : Vm) (B : Pt), s.WarmedH vm₁ ∧ Stand p l e R s m args below meth c B.U B.locs B.cells B.slots ∧ Post ⟨T.setVm vm₁, locs, cells, slots⟩ argsL.toArray v B ∧
      ∀ target, Steps p.tables e below (B.U.setTop { g with pc := g.pc + 3, stack := v.toList ++ rest }) target → Steps p.tables e below (T.setTop g) target := by
  obtain ⟨mk, methM, cM, hnamed, hmethM, -, -, -, -, -, -, hsigM⟩ := Cond.codeWith_spec hcode
  have hstatic : methM.isStatic = true := Cond.static_spec hnamed hmethM hstat
  obtain ⟨kP, hkP, -⟩ := className_of_methodNamed hnamed
  have hinitP : kP.init = .initialized := Cond.initialized_spec (findClass_of_methodNamed hnamed) hkP hinit
  obtain ⟨vm₁, X₁, hstep₁⟩ := X.invokestatic hexec hown hlink hnamed hmethM hstatic hkP hinitP hy (g := g) hg (argsL := argsL) (rest := rest) (hlen _ hsigM) hstack hdg
  obtain ⟨v, B, X', hpost, hsteps⟩ := hK m meth c ⟨T.setVm vm₁, locs, cells, slots⟩ { g with stack := rest } (.invokestatic index) mk argsL.toArray X₁ hg hsize hdg hW (X₁.named hnamed) (hpre vm₁ X₁.warmed)
  exact ⟨v, vm₁, B, X₁.warmed, X', hpost, fun target h => hstep₁ _ fun acts => by rw [doInvoke_state]; exact hsteps.trans h⟩
theorem vx_runSW {y : MethodName} {bytes cc : ByteArray} {maxL nL mc ms n index : Nat} {ret : Option FieldType} {hh : List (Nat × Nat × Nat × Nat)} {ws : List Cond} {rm : Room} {Pc : Array Value → State → Prop} {Qc : Array Value → State → Outcome → State → Prop} {free : Addr → Prop} {Ts : List Cond} {own : String} {As rest : List Value} {g : JFrame}
    (S : CallFix p m c cc nL s args Ts own) (hM : Met l y ws rm Pc Qc mc ms free) (cw : vx_CSW R s args own index y bytes maxL ret hh ws rm mc ms n) (hp : PreS s H Pc As)
    (hg : g.method = m) (hn : As.length = n) (hsize : g.locals.size = nL) (hstack : g.stack = As.reverse ++ rest) (hW : 2 * g.monitorRoom + (rest.map fun v => v.category).sum ≤ 8) (hdg : decode cc g.pc = .ok (.invokestatic index, 3)) (hf : cells + mc ≤ R.cells ∧ slots + ms ≤ R.slots) :
    va_Run p l e R s m args below meth c H locs cells slots mc ms g rest (Qc As.toArray) (free) := by
  obtain ⟨⟨hrc, hrs, hfr, hlo, hws, hcw⟩, hcode, hini, hy, hlen, hl, hstt⟩ := cw
  have hK : Back l R p e below s args y 3 8 (PreOf R mc ms Pc) (PostOf Qc mc ms free) := va_backW (hh := hh) (bytes := bytes) (maxL := maxL) (ret := ret) hM hp.1 hrc hrs hfr hlo hws hcw (fun a' U hW => word_at hW (Or.inl (by first | rfl | simp [Cond.onTables, Cond.keeps, Cond.steady])) hini)
  obtain ⟨hx, hb, hml, ho, -⟩ := S
  intro T hT X
  obtain ⟨v, vm₁, ⟨U', l2, c2, s2⟩, hW₁, X', ⟨g', mk, t, L, e1, e2, hq, h1, hL, h2, h3⟩, st⟩ := vx_callSW X hx (hh := hh) (bytes := bytes) (maxL := maxL) (ret := ret) ho hl hstt hini hcode hy hK hg (hsize.trans hml.symm) (argsL := As) (rest := rest) (fun sig h => hn.trans (hlen sig h)) hstack hW (by rw [hb]; exact hdg)
    (fun vm₁ hW₁ => ⟨hf.1, hf.2, hp.2 (T.setVm vm₁) hT hW₁⟩)
  dsimp only [Pt.U, Pt.locs, Pt.cells, Pt.slots] at X' e1 e2 h1 h2 h3 st
  subst h1; subst h2; subst h3
  exact ⟨v, (T.setVm vm₁).calling g' mk As.toArray, t, U', L, hT, X', hL, e1, e2, hq, st⟩
/-- not caught here, past rows that name other classes: it goes on to the caller -/
theorem vx_outP {p : Program} {l : Launch} {e : Env} {R : Room} {s : State} {m : MethodId} {args : Array Value} {below : List Frame} {meth : Method} {c : Code} {H : Heap} {locs : List Loc} {cells slots : Nat} {free : Addr → Prop} {ls : Array Slot} {rest : List Value} {Qc : Array Value → State → Outcome → State → Prop} {XC : String → State → State → Prop}
    {pc : Nat} {own E : String} {ce : Cell} {q : Addr} {mc ms : Nat} (hown : s.vm.findClass own = some m.cls) (hlocks : meth.locks = false)
    (hpass : ∀ z ∈ c.exceptionTable.toList, covers z pc = false ∨ (z.catchType ≠ 0 ∧ ∃ nm : String, (Cond.classLink own z.catchType nm).before args s = true ∧ va_Nc E nm s)) (hcell : H[q]? = some ce) (hv : ce.vm = .none) (hcl : s.vm.findClass E = some ce.cls)
    (hx : ∀ t : State, t.heap = H → s.vm.Alike t.vm → XC E s t) (hf : ∀ z ∈ locs, free z.base) (hc : cells ≤ mc) (hs : slots ≤ ms) :
    vx_W p l e R s m args below meth c H locs cells slots (vx_MQ below Qc XC args s mc ms free) (F0 m pc ls rest) q := by
  intro T hT X
  have hpl : e.platform.magicAccessors = ({} : Platform).magicAccessors := by rw [X.admits.platform]
  obtain ⟨vm', hW', X', st⟩ := X.outThrough hlocks q (g := F0 m pc ls rest) rfl rfl rfl (cell := ce) (by rw [hT]; exact hcell) (by rw [hv]; rfl)
    (by obtain ⟨k9, h9, -⟩ := Vm.findClass_spec hcl; exact ⟨k9, h9⟩) (fun z hz => by
      rcases hpass z hz with h | ⟨hz0, nm, hl1, hn1⟩
      · exact Or.inl h
      · obtain ⟨c6, hc6, hcl6⟩ := Cond.classLink_spec hown hl1 e.platform hpl
        obtain ⟨a8, b8, h1, h2, h3⟩ := hn1
        cases Option.some.inj (h1.symm.trans hcl)
        cases Option.some.inj (h2.symm.trans hc6)
        exact Or.inr ⟨hz0, _, hcl6, h3⟩)
  obtain ⟨g₀, hfr⟩ := X'.frames_eq
  have hcell9 : ((T.setVm vm').setFrames (.throwing q :: below)).heap[q]? = some ce := by
    show T.heap[q]? = some ce
    rw [hT]; exact hcell
  have hend : Ended ((T.setVm vm').setFrames (.throwing q :: below)) below (.threw q) := State.frames_setFrames _ (State.cur_lt_of_frames hfr)
  refine ⟨(T.setVm vm').setFrames (.throwing q :: below), ?_, .threw q, X'.here.running, hend, Or.inr ⟨q, rfl, E, ce, locs, hx _ hT (X'.ends _).1.alike, hcell9, hv, hcl, (X'.ends _).1, (X'.ends _).2.mono hc hs, hf⟩⟩
  rw [X.pushThrowing_eq]
  exact st
/-- a thing of a world lies in the heap -/
theorem vx_lt {D : va_G} {cl : List vw_C} {ws : va_W} {H1 : Heap} (h : va_P D cl ws H1) {k : Nat} {q : Nat × va_E} (hk : ws[k]? = some q) : q.1 < H1.size := (h k q hk).lt
end VXS
/-! ===== END ===== -/
/-! ===== BEGIN methods with a table of their own: called by a name, returning or throwing ===== -/
section VXH
/-! vx_backW, vx_callVX, vx_callSX, vx_callVW, vx_runVW, vx_runVX, vx_runSX, vx_ofWH follow the same proofs as their sisters above (Free/Laws.lean, Shelf42/LK1.lean); vx_outP calls Shelf42/NT130.lean (outThrough). -/
section
variable {l : Launch} {R : Room} {p : Program} {e : Env} {below : List Frame} {s : State} {sargs : Array Value} {y : MethodName} {len W9 : Nat}
theorem vx_backW {ws : List Cond} {rm : Room} {Pc : Array Value → State → Prop} {Qc : Array Value → State → Outcome → State → Prop} {XC : String → State → State → Prop} {mc ms : Nat} {free : Addr → Prop} {bytes : ByteArray} {maxL : Nat} {ret : Option FieldType} {hh : List (Nat × Nat × Nat × Nat)}
    (hM : vx_Met l y ws rm Pc Qc XC mc ms free) (hblind : FrameBlind Pc) (hrc : rm.cells = mc) (hrs : rm.slots = ms)
    (hframes : rm.frames + 1 ≤ R.frames) (hlocals : W9 + (maxL + 11) + rm.locals ≤ R.locals)
    (hws : ∀ w ∈ ws, ∀ a' U, s.WarmedH U.vm → w.before a' U = true) (hcode : Cond.codeWith y bytes maxL ret hh ∈ ws) (hinit : ∀ a' U, s.WarmedH U.vm → (Cond.initialized y.cls).before a' U = true) :
    vx_Back l R p e below s sargs y len W9 (PreOf R mc ms Pc) (PostOf Qc mc ms free) (vx_Post XC mc ms free) := by
  intro m meth c A g ig mk a X hg hsize hdg hW hn hp
  have h1 : (headSpec ws rm).pre.before a A.U = true := atoms_intro fun w hw => hws w hw _ _ X.warmed
  have h2 : (Cond.codeWith y bytes maxL ret hh).before a A.U = true := hws _ hcode _ _ X.warmed
  have h3 : (Cond.initialized y.cls).before a A.U = true := hinit _ _ X.warmed
  have h4 : A.cells + (headSpec ws rm).room.cells ≤ R.cells := by rw [show (headSpec ws rm).room.cells = mc from hrc]; exact hp.1
  have h5 : A.slots + (headSpec ws rm).room.slots ≤ R.slots := by rw [show (headSpec ws rm).room.slots = ms from hrs]; exact hp.2.1
  have hPc : Pc a (A.U.calling g mk a) := hblind _ _ _ _ hp.2.2
  obtain ⟨U, Ls, c0, s0⟩ := A
  dsimp only [Pt.U, Pt.locs, Pt.cells, Pt.slots] at h1 h2 h3 h4 h5 X hn hPc ⊢
  obtain ⟨m9, methY, cY, hn9, hmY, hcY, -, hlY, -⟩ := Cond.codeWith_spec h2
  cases Option.some.inj (hn9.symm.trans hn)
  obtain ⟨kY, hkY, -⟩ := className_of_methodNamed hn
  have hinitY : kY.init = .initialized := Cond.initialized_spec (findClass_of_methodNamed hn) hkY h3
  have h : At U g.method c below := by rw [hg]; exact X.here
  have hlocals9 : W9 + (maxL + 11) + (headSpec ws rm).room.locals ≤ R.locals := hlocals
  have happ : (headSpec ws rm).appliesLoose y e.platform (U.calling g mk a) = true :=
    Spec.appliesLoose_calling (g := g) h hdg hn hkY hinitY
      (X.room_calling (g := g) (R' := (headSpec ws rm).room) hsize hmY hcY hframes (by rw [hlY]; omega) h4 h5) h1
  obtain ⟨mid, hmid⟩ := h.above
  have hfr : (U.setTop g).frames = (.java g :: mid) ++ below := by rw [State.frames_setTop' g h.top, hmid]; rfl
  obtain ⟨o, s₂, hsteps, -, hend, hq⟩ := Steps.callFree hM p X.admits X.cas X.clock (acts := []) hfr happ hPc trivial
  have hq' : vx_Q Qc XC mc ms free a (U.calling g mk a) o s₂ := hq
  rw [State.frames_setTop' g h.top] at hend
  obtain ⟨g₀, hg0⟩ := Option.isSome_iff_exists.mp h.top
  obtain ⟨r, hr⟩ := State.topJava?_eq_some.mp hg0
  have hr' : (({ U with heap := s₂.heap, slotsUsed := s₂.slotsUsed } : State).setVm s₂.vm).frames = .java g₀ :: r := hr
  rcases hq' with ⟨hqc, L, hfe, hL⟩ | ⟨q, rfl, E, ce, L, hx, hce, hcv, hcl, hW₂, hsm, hL⟩
  · obtain ⟨⟨v, rfl⟩, hW₂, e2, q2, q3, q4, q5, q6⟩ := id hfe
    have e3 : s₂ = ({ (U.calling g mk a).setFrames s₂.frames with heap := s₂.heap, slotsUsed := s₂.slotsUsed } : State).setVm s₂.vm := by
      have : s₂ = ({ s₂ with vm := (U.calling g mk a).vm } : State).setVm s₂.vm := rfl
      rw [e2] at this
      exact this
    obtain ⟨c₂, i₂, len₂, hc₂, hd₂, hf₂⟩ := hend
    have hW' : U.WarmedH s₂.vm := hW₂
    have hcc : c₂ = c := by
      have h1 : s₂.code? g.method = U.code? g.method := by
        rw [State.code?_eq, State.code?_eq, hW'.alike.method?]
      exact Option.some.inj (hc₂.symm.trans (h1.trans h.code))
    subst hcc
    have hlen : len₂ = len := by rw [hdg] at hd₂; cases hd₂; rfl
    subst hlen
    have hs₂ : s₂ = (({ U with heap := s₂.heap, slotsUsed := s₂.slotsUsed } : State).setVm s₂.vm).setTop { g with pc := g.pc + len₂, stack := v.toList ++ g.stack } := by
      refine e3.trans ?_
      rw [hf₂, State.calling_eq h.top, State.setFrames_setFrames, State.setTop_of_frames _ hr', hr]
      rfl
    have hsame : U.sameButNew ({ U with heap := s₂.heap, slotsUsed := s₂.slotsUsed } : State) L mc ms := by
      refine ⟨?_, q2, q3, q4, q5, q6⟩
      obtain ⟨t, ht, -⟩ := State.frames_cons hr
      show ({ U with heap := s₂.heap, slotsUsed := s₂.slotsUsed } : State) = { U.setFrames U.frames with heap := s₂.heap, slotsUsed := s₂.slotsUsed }
      rw [State.setFrames_self ht]
    subst hg
    refine Or.inl ⟨v, ⟨(({ U with heap := s₂.heap, slotsUsed := s₂.slotsUsed } : State).setVm s₂.vm), Ls ++ L, c0 + mc, s0 + ms⟩,
      ⟨X.admits, X.cas, X.clock, X.frames, X.room, X.hears, X.method, X.code, (X.here.setHeapUsed s₂.heap s₂.slotsUsed).setVm hW'.alike, X.tail, State.WarmedH.trans X.warmed hW', X.limits, X.bytes, X.same.trans (hsame.setVm s.vm)⟩,
      ⟨g, mk, s₂, L, rfl, rfl, hqc, rfl, hL, rfl, rfl⟩, ?_⟩
    show Steps p.tables e below _ ((({ U with heap := s₂.heap, slotsUsed := s₂.slotsUsed } : State).setVm s₂.vm).setTop { g with pc := g.pc + len₂, stack := v.toList ++ g.stack })
    rw [← hs₂]
    exact hsteps
  · obtain ⟨e2, q2, q3, q4, q5, q6⟩ := id hsm
    have e3 : s₂ = ({ (U.calling g mk a).setFrames s₂.frames with heap := s₂.heap, slotsUsed := s₂.slotsUsed } : State).setVm s₂.vm := by
      have : s₂ = ({ s₂ with vm := (U.calling g mk a).vm } : State).setVm s₂.vm := rfl
      rw [e2] at this
      exact this
    have hf₂ : s₂.frames = .throwing q :: .java g :: U.frames.tail := hend
    have hW' : U.WarmedH s₂.vm := hW₂
    have hs₂ : s₂ = ((({ U with heap := s₂.heap, slotsUsed := s₂.slotsUsed } : State).setVm s₂.vm).setTop g).pushFrame (.throwing q) := by
      refine e3.trans ?_
      rw [hf₂, State.calling_eq h.top, State.setFrames_setFrames, State.pushFrame, State.frames_setTop _ hr', State.setTop_of_frames _ hr', State.setFrames_setFrames, hr]
      rfl
    have hsame : U.sameButNew ({ U with heap := s₂.heap, slotsUsed := s₂.slotsUsed } : State) L mc ms := by
      refine ⟨?_, q2, q3, q4, q5, q6⟩
      obtain ⟨t, ht, -⟩ := State.frames_cons hr
      show ({ U with heap := s₂.heap, slotsUsed := s₂.slotsUsed } : State) = { U.setFrames U.frames with heap := s₂.heap, slotsUsed := s₂.slotsUsed }
      rw [State.setFrames_self ht]
    subst hg
    refine Or.inr ⟨q, ⟨(({ U with heap := s₂.heap, slotsUsed := s₂.slotsUsed } : State).setVm s₂.vm), Ls ++ L, c0 + mc, s0 + ms⟩,
      ⟨X.admits, X.cas, X.clock, X.frames, X.room, X.hears, X.method, X.code, (X.here.setHeapUsed s₂.heap s₂.slotsUsed).setVm hW'.alike, X.tail, State.WarmedH.trans X.warmed hW', X.limits, X.bytes, X.same.trans (hsame.setVm s.vm)⟩,
      ⟨g, mk, s₂, L, E, ce, rfl, rfl, hx, hce, hcv, hcl, rfl, hL, rfl, rfl⟩, ?_⟩
    show Steps p.tables e below _ (((({ U with heap := s₂.heap, slotsUsed := s₂.slotsUsed } : State).setVm s₂.vm).setTop g).pushFrame (.throwing q))
    rw [← hs₂]
    exact hsteps
end
variable {p : Program} {l : Launch} {e : Env} {R : Room} {s : State} {m : MethodId} {args : Array Value} {below : List Frame} {meth : Method} {c : Code} {T : State} {H : Heap} {locs : List Loc} {cells slots : Nat}
theorem vx_callVX (X : Stand p l e R s m args below meth c T locs cells slots) (hexec : p.tables.exec = Jvm.exec) {own C : String} {index : Nat} {y : MethodName} {bytes : ByteArray} {maxL : Nat} {ret : Option FieldType} {hh : List (Nat × Nat × Nat × Nat)}
    (hown : s.vm.findClass own = some m.cls) (hlink : (Cond.methodLink own index y).before args s = true) (hinst : (Cond.instanceMethod y).before args s = true) (hsel : (Cond.selects C y y).before args s = true)
    (hcode : (Cond.codeWith y bytes maxL ret hh).before args s = true) (hy : y.cls ≠ "java/lang/invoke/MethodHandle" ∧ y.cls ≠ "java/lang/invoke/VarHandle")
    {W9 : Nat} {Pre : Pt → Array Value → Prop} {Post : Pt → Array Value → Option Value → Pt → Prop} {PostX : Pt → Array Value → Addr → Pt → Prop} (hK : vx_Back l R p e below s args y 3 W9 Pre Post PostX)
    {b : Addr} {cellB : Cell} (hcell : T.heap[b]? = some cellB) (hobj : cellB.vm.isStatics = false) (hcls : s.vm.findClass C = some cellB.cls)
    {g : JFrame} (hg : g.method = m) (hsize : g.locals.size = c.maxLocals) {argsL rest : List Value} (hlen : ∀ sig, parseMethodDescriptor y.desc = some sig → argsL.length = sig.parameters.length)
    (hstack : g.stack = argsL.reverse ++ .ref b :: rest) (hW : 2 * g.monitorRoom + (rest.map fun v => v.category).sum ≤ W9) (hdg : decode c.code g.pc = .ok (.invokevirtual index, 3))
    (hpre : ∀ vm₁, s.WarmedH vm₁ → Pre ⟨T.setVm vm₁, locs, cells, slots⟩ (Value.ref b :: argsL).toArray) :
    (∃ (v : Option Value) (vm₁ : Vm) (B : Pt), s.WarmedH vm₁ ∧ Stand p l e R s m args below meth c B.U B.locs B.cells B.slots ∧ Post ⟨T.setVm vm₁, locs, cells, slots⟩ (Value.ref b :: argsL).toArray v B ∧
      ∀ target, Steps p.tables e below (B.U.setTop { g with pc := g.pc + 3, stack := v.toList ++ rest }) target → Steps p.tables e below (T.setTop g) target) ∨
    (∃ (q : Addr) (vm₁ : Vm) (B : Pt), s.WarmedH vm₁ ∧ Stand p l e R s m args below meth c B.U B.locs B.cells B.slots ∧ PostX ⟨T.setVm vm₁, locs, cells, slots⟩ (Value.ref b :: argsL).toArray q B ∧
      Steps p.tables e below (T.setTop g) ((B.U.setTop { g with stack := rest }).pushFrame (.throwing q))) := by
  obtain ⟨mk, methM, hnamed, hmethM, hstM, habM⟩ := Cond.instanceMethod_spec hinst
  obtain ⟨m8, methM', cM, hn8, hmethM', -, -, -, -, -, -, hsigM⟩ := Cond.codeWith_spec hcode
  cases Option.some.inj (hn8.symm.trans hnamed)
  cases hmethM.symm.trans hmethM'
  obtain ⟨c2, r2, m2, q1, q2, q3, q4, kP, hkP, hkPi⟩ := Cond.selects_spec hsel
  cases hcls.symm.trans q1
  cases (State.methodFound?_of_named hnamed hy).symm.trans q2
  cases hnamed.symm.trans q3
  have hselP : selectMethod e.platform s.vm cellB.cls mk = .method mk := by rw [Launch.admits_selectMethod X.admits]; exact q4
  obtain ⟨vm₁, X₁, hstep₁⟩ := X.invokevirtual hexec hown hlink hnamed hmethM hstM hkP hkPi hy (a := b) (cell := cellB) hcell
    (fun z h => by rw [h] at hobj; cases hobj) hselP hmethM habM hkP hkPi (g := g) hg (argsL := argsL) (rest := rest) (hlen _ hsigM) hstack hdg
  rcases hK m meth c ⟨T.setVm vm₁, locs, cells, slots⟩ { g with stack := rest } (.invokevirtual index) mk (Value.ref b :: argsL).toArray X₁ hg hsize hdg hW (X₁.named hnamed) (hpre vm₁ X₁.warmed) with ⟨v, B, X', hpost, hsteps⟩ | ⟨q, B, X', hpost, hsteps⟩
  · exact Or.inl ⟨v, vm₁, B, X₁.warmed, X', hpost, fun target h => hstep₁ _ fun acts => by rw [doInvoke_state]; exact hsteps.trans h⟩
  · exact Or.inr ⟨q, vm₁, B, X₁.warmed, X', hpost, hstep₁ _ fun acts => by rw [doInvoke_state]; exact hsteps⟩
theorem vx_callSX (X : Stand p l e R s m args below meth c T locs cells slots) (hexec : p.tables.exec = Jvm.exec) {own : String} {index : Nat} {y : MethodName} {bytes : ByteArray} {maxL : Nat} {ret : Option FieldType} {hh : List (Nat × Nat × Nat × Nat)}
    (hown : s.vm.findClass own = some m.cls) (hlink : (Cond.methodLink own index y).before args s = true) (hstat : (Cond.static y).before args s = true) (hinit : (Cond.initialized y.cls).before args s = true)
    (hcode : (Cond.codeWith y bytes maxL ret hh).before args s = true) (hy : y.cls ≠ "java/lang/invoke/MethodHandle" ∧ y.cls ≠ "java/lang/invoke/VarHandle")
    {W9 : Nat} {Pre : Pt → Array Value → Prop} {Post : Pt → Array Value → Option Value → Pt → Prop} {PostX : Pt → Array Value → Addr → Pt → Prop} (hK : vx_Back l R p e below s args y 3 W9 Pre Post PostX)
    {g : JFrame} (hg : g.method = m) (hsize : g.locals.size = c.maxLocals) {argsL rest : List Value} (hlen : ∀ sig, parseMethodDescriptor y.desc = some sig → argsL.length = sig.parameters.length)
    (hstack : g.stack = argsL.reverse ++ rest) (hW : 2 * g.monitorRoom + (rest.map fun v => v.category).sum ≤ W9) (hdg : decode c.code g.pc = .ok (.invokestatic index, 3))
    (hpre : ∀ vm₁, s.WarmedH vm₁ → Pre ⟨T.setVm vm₁, locs, cells, slots⟩ argsL.toArray) :
    (∃ (v : Option Value) (vm₁ : Vm) (B : Pt), s.WarmedH vm₁ ∧ Stand p l e R s m args below meth c B.U B.locs B.cells B.slots ∧ Post ⟨T.setVm vm₁, locs, cells, slots⟩ argsL.toArray v B ∧
      ∀ target, Steps p.tables e below (B.U.setTop { g with pc := g.pc + 3, stack := v.toList ++ rest }) target → Steps p.tables e below (T.setTop g) target) ∨
    (∃ (q : Addr) (vm₁ : Vm) (B : Pt), s.WarmedH vm₁ ∧ Stand p l e R s m args below meth c B.U B.locs B.cells B.slots ∧ PostX ⟨T.setVm vm₁, locs, cells, slots⟩ argsL.toArray q B ∧
      Steps p.tables e below (T.setTop g) ((B.U.setTop { g with stack := rest }).pushFrame (.throwing q))) := by
  obtain ⟨mk, methM, cM, hnamed, hmethM, -, -, -, -, -, -, hsigM⟩ := Cond.codeWith_spec hcode
  have hstatic : methM.isStatic = true := Cond.static_spec hnamed hmethM hstat
  obtain ⟨kP, hkP, -⟩ := className_of_methodNamed hnamed
  have hinitP : kP.init = .initialized := Cond.initialized_spec (findClass_of_methodNamed hnamed) hkP hinit
  obtain ⟨vm₁, X₁, hstep₁⟩ := X.invokestatic hexec hown hlink hnamed hmethM hstatic hkP hinitP hy (g := g) hg (argsL := argsL) (rest := rest) (hlen _ hsigM) hstack hdg
  rcases hK m meth c ⟨T.setVm vm₁, locs, cells, slots⟩ { g with stack := rest } (.invokestatic index) mk argsL.toArray X₁ hg hsize hdg hW (X₁.named hnamed) (hpre vm₁ X₁.warmed) with ⟨v, B, X', hpost, hsteps⟩ | ⟨q, B, X', hpost, hsteps⟩
  · exact Or.inl ⟨v, vm₁, B, X₁.warmed, X', hpost, fun target h => hstep₁ _ fun acts => by rw [doInvoke_state]; exact hsteps.trans h⟩
  · exact Or.inr ⟨q, vm₁, B, X₁.warmed, X', hpost, hstep₁ _ fun acts => by rw [doInvoke_state]; exact hsteps⟩
theorem vx_callVW (X : Stand p l e R s m args below meth c T locs cells slots) (hexec : p.tables.exec = Jvm.exec) {own C : String} {index : Nat} {y : MethodName} {bytes : ByteArray} {maxL : Nat} {ret : Option FieldType} {hh : List (Nat × Nat × Nat × Nat)}
    (hown : s.vm.findClass own = some m.cls) (hlink : (Cond.methodLink own index y).before args s = true) (hinst : (Cond.instanceMethod y).before args s = true) (hsel : (Cond.selects C y y).before args s = true)
    (hcode : (Cond.codeWith y bytes maxL ret hh).before args s = true) (hy : y.cls ≠ "java/lang/invoke/MethodHandle" ∧ y.cls ≠ "java/lang/invoke/VarHandle")
    {W9 : Nat} {Pre : Pt → Array Value → Prop} {Post : Pt → Array Value → Option Value → Pt → Prop} (hK : Back l R p e below s args y 3 W9 Pre Post)
    {b : Addr} {cellB : Cell} (hcell : T.heap[b]? = some cellB) (hobj : cellB.vm.isStatics = false) (hcls : s.vm.findClass C = some cellB.cls)
    {g : JFrame} (hg : g.method = m) (hsize : g.locals.size = c.maxLocals) {argsL rest : List Value} (hlen : ∀ sig, parseMethodDescriptor y.desc = some sig → argsL.length = sig.parameters.length)
    (hstack : g.stack = argsL.reverse ++ .ref b :: rest) (hW : 2 * g.monitorRoom + (rest.map fun v => v.category).sum ≤ W9) (hdg : decode c.code g.pc = .ok (.invokevirtual index, 3))
    (hpre : ∀ vm₁, s.WarmedH vm₁ → Pre ⟨T.setVm vm₁, locs, cells, slots⟩ (Value.ref b :: argsL).toArray) :
    ∃ (v : Option Value) (vm₁ : Vm) (B : Pt), s.WarmedH vm₁ ∧ Stand p l e R s m args below meth c B.U B.locs B.cells B.slots ∧ Post ⟨T.setVm vm₁, locs, cells, slots⟩ (Value.ref b :: argsL).toArray v B ∧
      ∀ target, Steps p.tables e below (B.U.setTop { g with pc := g.pc + 3, stack := v.toList ++ rest }) target → Steps p.tables e below (T.setTop g) target := by
  obtain ⟨mk, methM, hnamed, hmethM, hstM, habM⟩ := Cond.instanceMethod_spec hinst
  obtain ⟨m8, methM', cM, hn8, hmethM', -, -, -, -, -, -, hsigM⟩ := Cond.codeWith_spec hcode
  cases Option.some.inj (hn8.symm.trans hnamed)
  cases hmethM.symm.trans hmethM'
  obtain ⟨c2, r2, m2, q1, q2, q3, q4, kP, hkP, hkPi⟩ := Cond.selects_spec hsel
  cases hcls.symm.trans q1
  cases (State.methodFound?_of_named hnamed hy).symm.trans q2
  cases hnamed.symm.trans q3
  have hselP : selectMethod e.platform s.vm cellB.cls mk = .method mk := by rw [Launch.admits_selectMethod X.admits]; exact q4
  obtain ⟨vm₁, X₁, hstep₁⟩ := X.invokevirtual hexec hown hlink hnamed hmethM hstM hkP hkPi hy (a := b) (cell := cellB) hcell
    (fun z h => by rw [h] at hobj; cases hobj) hselP hmethM habM hkP hkPi (g := g) hg (argsL := argsL) (rest := rest) (hlen _ hsigM) hstack hdg
  obtain ⟨v, B, X', hpost, hsteps⟩ := hK m meth c ⟨T.setVm vm₁, locs, cells, slots⟩ { g with stack := rest } (.invokevirtual index) mk (Value.ref b :: argsL).toArray X₁ hg hsize hdg hW (X₁.named hnamed) (hpre vm₁ X₁.warmed)
  exact ⟨v, vm₁, B, X₁.warmed, X', hpost, fun target h => hstep₁ _ fun acts => by rw [doInvoke_state]; exact hsteps.trans h⟩
abbrev vx_CVW (R : Room) (s : State) (args : Array Value) (own C : String) (index : Nat) (y : MethodName) (bytes : ByteArray) (maxL : Nat) (ret : Option FieldType) (hh : List (Nat × Nat × Nat × Nat)) (ws : List Cond) (rm : Room) (mc ms n : Nat) : Prop :=
  (rm.cells = mc ∧ rm.slots = ms ∧ rm.frames + 1 ≤ R.frames ∧ 8 + (maxL + 11) + rm.locals ≤ R.locals ∧ (∀ w ∈ ws, ∀ (a' : Array Value) (U : State), s.WarmedH U.vm → w.before a' U = true) ∧ Cond.codeWith y bytes maxL ret hh ∈ ws) ∧
  (Cond.codeWith y bytes maxL ret hh).before args s = true ∧ (Cond.initialized y.cls).before args s = true ∧ (y.cls ≠ "java/lang/invoke/MethodHandle" ∧ y.cls ≠ "java/lang/invoke/VarHandle") ∧
  (∀ sig, parseMethodDescriptor y.desc = some sig → n = sig.parameters.length) ∧ (Cond.methodLink own index y).before args s = true ∧ (Cond.instanceMethod y).before args s = true ∧ (Cond.selects C y y).before args s = true
theorem vx_cwVW {own C : String} {index maxL mc ms : Nat} {y : MethodName} {bytes : ByteArray} {ret : Option FieldType} {hh : List (Nat × Nat × Nat × Nat)} {Ts ws ws' : List Cond} {rm : Room} (n : Nat) (ht : ∀ w ∈ Ts, w.before args s = true) (hT : GoodIn Ts (wsV own index C y ws)) (hw : ws = Cond.codeWith y bytes maxL ret hh :: ws') (hrc : rm.cells = mc) (hrs : rm.slots = ms)
    (hd : y.cls = C ∧ y.cls ≠ "java/lang/invoke/MethodHandle" ∧ y.cls ≠ "java/lang/invoke/VarHandle" ∧ (parseMethodDescriptor y.desc).map (fun d => d.parameters.length) = some n) (hR : rm.frames + 1 ≤ R.frames ∧ 8 + (maxL + 11) + rm.locals ≤ R.locals) :
    vx_CVW R s args own C index y bytes maxL ret hh ws rm mc ms n := by
  obtain ⟨hC, hd⟩ := hd
  subst hC
  have ok : ∀ w ∈ wsV own index y.cls y ws, w.before args s = true := fun w h => ht w (hT w h).1
  have hG : GoodIn Ts ws := fun w h => hT w (by unfold wsV; exact List.mem_append_right _ h)
  have hc : Cond.codeWith y bytes maxL ret hh ∈ ws := by rw [hw]; exact List.mem_cons_self
  refine ⟨⟨hrc, hrs, hR.1, hR.2, pay_in ht hG, hc⟩, ht _ (hG _ hc).1, ok _ (by simp [wsV]), ⟨hd.1, hd.2.1⟩, fun sig h => ?_, ok _ (by simp [wsV]), ok _ (by simp [wsV]), ok _ (by simp [wsV])⟩
  have h2 := hd.2.2
  rw [h] at h2
  exact (Option.some.inj h2).symm
theorem vx_runVW {y : MethodName} {bytes cc : ByteArray} {maxL nL mc ms n index : Nat} {ret : Option FieldType} {hh : List (Nat × Nat × Nat × Nat)} {ws : List Cond} {rm : Room} {Pc : Array Value → State → Prop} {Qc : Array Value → State → Outcome → State → Prop} {free : Addr → Prop} {Ts : List Cond} {own C : String} {b : Addr} {As rest : List Value} {g : JFrame}
    (S : CallFix p m c cc nL s args Ts own) (hM : Met l y ws rm Pc Qc mc ms free) (cw : vx_CVW R s args own C index y bytes maxL ret hh ws rm mc ms n) (hp : PreV s H C b Pc As)
    (hg : g.method = m) (hn : As.length = n) (hsize : g.locals.size = nL) (hstack : g.stack = As.reverse ++ .ref b :: rest) (hW : 2 * g.monitorRoom + (rest.map fun v => v.category).sum ≤ 8) (hdg : decode cc g.pc = .ok (.invokevirtual index, 3)) (hf : cells + mc ≤ R.cells ∧ slots + ms ≤ R.slots) :
    va_Run p l e R s m args below meth c H locs cells slots mc ms g rest (Qc (Value.ref b :: As).toArray) free := by
  obtain ⟨⟨hrc, hrs, hfr, hlo, hws, hcw⟩, hcode, hini, hy, hlen, hl, hin, hse⟩ := cw
  have hK : Back l R p e below s args y 3 8 (PreOf R mc ms Pc) (PostOf Qc mc ms free) := va_backW (hh := hh) (bytes := bytes) (maxL := maxL) (ret := ret) hM hp.1 hrc hrs hfr hlo hws hcw (fun a' U hW => word_at hW (Or.inl (by first | rfl | simp [Cond.onTables, Cond.keeps, Cond.steady])) hini)
  obtain ⟨hx, hb, hml, ho, -⟩ := S
  obtain ⟨-, ⟨cellB, hcB, hoB, hclB⟩, hPc⟩ := hp
  intro T hT X
  obtain ⟨v, vm₁, ⟨U', l2, c2, s2⟩, hW₁, X', ⟨g', mk, t, L, e1, e2, hq, h1, hL, h2, h3⟩, st⟩ := vx_callVW X hx (C := C) (hh := hh) (bytes := bytes) (maxL := maxL) (ret := ret) ho hl hin hse hcode hy hK (by rw [hT]; exact hcB) hoB hclB hg (hsize.trans hml.symm) (argsL := As) (rest := rest) (fun sig h => hn.trans (hlen sig h)) hstack hW (by rw [hb]; exact hdg)
    (fun vm₁ hW₁ => ⟨hf.1, hf.2, hPc (T.setVm vm₁) hT hW₁⟩)
  dsimp only [Pt.U, Pt.locs, Pt.cells, Pt.slots] at X' e1 e2 h1 h2 h3 st
  subst h1; subst h2; subst h3
  exact ⟨v, (T.setVm vm₁).calling g' mk (Value.ref b :: As).toArray, t, U', L, hT, X', hL, e1, e2, hq, st⟩
section
variable {y : MethodName} {bytes cc : ByteArray} {maxL nL mc ms n index : Nat} {ret : Option FieldType} {ws : List Cond} {rm : Room} {Pc : Array Value → State → Prop} {Qc : Array Value → State → Outcome → State → Prop} {XC : String → State → State → Prop} {free : Addr → Prop} {Ts : List Cond} {own C : String} {b : Addr} {As rest : List Value} {g : JFrame}
theorem vx_runVX {hh : List (Nat × Nat × Nat × Nat)} (S : CallFix p m c cc nL s args Ts own) (hM : vx_Met l y ws rm Pc Qc XC mc ms free) (cw : vx_CVW R s args own C index y bytes maxL ret hh ws rm mc ms n) (hp : PreV s H C b Pc As)
    (hg : g.method = m) (hn : As.length = n) (hsize : g.locals.size = nL) (hstack : g.stack = As.reverse ++ .ref b :: rest) (hW : 2 * g.monitorRoom + (rest.map fun v => v.category).sum ≤ 8) (hdg : decode cc g.pc = .ok (.invokevirtual index, 3)) (hf : cells + mc ≤ R.cells ∧ slots + ms ≤ R.slots) :
    vx_Run p l e R s m args below meth c H locs cells slots mc ms g rest (Qc (Value.ref b :: As).toArray) XC free := by
  obtain ⟨⟨hrc, hrs, hfr, hlo, hws, hcw⟩, hcode, hini, hy, hlen, hl, hin, hse⟩ := cw
  have hK : vx_Back l R p e below s args y 3 8 (PreOf R mc ms Pc) (PostOf Qc mc ms free) (vx_Post XC mc ms free) := vx_backW (hh := hh) (bytes := bytes) (maxL := maxL) (ret := ret) hM hp.1 hrc hrs hfr hlo hws hcw (fun a' U hW => word_at hW (Or.inl (by first | rfl | simp [Cond.onTables, Cond.keeps, Cond.steady])) hini)
  obtain ⟨hx, hb, hml, ho, -⟩ := S
  obtain ⟨-, ⟨cellB, hcB, hoB, hclB⟩, hPc⟩ := hp
  intro T hT X
  rcases vx_callVX X hx (C := C) (hh := hh) (bytes := bytes) (maxL := maxL) (ret := ret) ho hl hin hse hcode hy hK (by rw [hT]; exact hcB) hoB hclB hg (hsize.trans hml.symm) (argsL := As) (rest := rest) (fun sig h => hn.trans (hlen sig h)) hstack hW (by rw [hb]; exact hdg)
    (fun vm₁ hW₁ => ⟨hf.1, hf.2, hPc (T.setVm vm₁) hT hW₁⟩) with ⟨v, vm₁, ⟨U', l2, c2, s2⟩, hW₁, X', ⟨g', mk, t, L, e1, e2, hq, h1, hL, h2, h3⟩, st⟩ | ⟨q, vm₁, ⟨U', l2, c2, s2⟩, hW₁, X', ⟨g', mk, t, L, E, ce, e1, e2, hq, hce, hcv, hcl, h1, hL, h2, h3⟩, st⟩
  · dsimp only [Pt.U, Pt.locs, Pt.cells, Pt.slots] at X' e1 e2 h1 h2 h3 st
    subst h1; subst h2; subst h3
    exact Or.inl ⟨v, (T.setVm vm₁).calling g' mk (Value.ref b :: As).toArray, t, U', L, hT, X', hL, e1, e2, hq, st⟩
  · dsimp only [Pt.U, Pt.locs, Pt.cells, Pt.slots] at X' e1 e2 h1 h2 h3 st hcl
    subst h1; subst h2; subst h3
    exact Or.inr ⟨q, (T.setVm vm₁).calling g' mk (Value.ref b :: As).toArray, t, U', L, E, ce, hT, X', hL, e1, e2, hq, hce, hcv, vx_cls hW₁ hcl, st⟩
theorem vx_runSX {hh : List (Nat × Nat × Nat × Nat)} (S : CallFix p m c cc nL s args Ts own) (hM : vx_Met l y ws rm Pc Qc XC mc ms free) (cw : vx_CSW R s args own index y bytes maxL ret hh ws rm mc ms n) (hp : PreS s H Pc As)
    (hg : g.method = m) (hn : As.length = n) (hsize : g.locals.size = nL) (hstack : g.stack = As.reverse ++ rest) (hW : 2 * g.monitorRoom + (rest.map fun v => v.category).sum ≤ 8) (hdg : decode cc g.pc = .ok (.invokestatic index, 3)) (hf : cells + mc ≤ R.cells ∧ slots + ms ≤ R.slots) :
    vx_Run p l e R s m args below meth c H locs cells slots mc ms g rest (Qc As.toArray) XC free := by
  obtain ⟨⟨hrc, hrs, hfr, hlo, hws, hcw⟩, hcode, hini, hy, hlen, hl, hstt⟩ := cw
  have hK : vx_Back l R p e below s args y 3 8 (PreOf R mc ms Pc) (PostOf Qc mc ms free) (vx_Post XC mc ms free) := vx_backW (hh := hh) (bytes := bytes) (maxL := maxL) (ret := ret) hM hp.1 hrc hrs hfr hlo hws hcw (fun a' U hW => word_at hW (Or.inl (by first | rfl | simp [Cond.onTables, Cond.keeps, Cond.steady])) hini)
  obtain ⟨hx, hb, hml, ho, -⟩ := S
  intro T hT X
  rcases vx_callSX X hx (hh := hh) (bytes := bytes) (maxL := maxL) (ret := ret) ho hl hstt hini hcode hy hK hg (hsize.trans hml.symm) (argsL := As) (rest := rest) (fun sig h => hn.trans (hlen sig h)) hstack hW (by rw [hb]; exact hdg)
    (fun vm₁ hW₁ => ⟨hf.1, hf.2, hp.2 (T.setVm vm₁) hT hW₁⟩) with ⟨v, vm₁, ⟨U', l2, c2, s2⟩, hW₁, X', ⟨g', mk, t, L, e1, e2, hq, h1, hL, h2, h3⟩, st⟩ | ⟨q, vm₁, ⟨U', l2, c2, s2⟩, hW₁, X', ⟨g', mk, t, L, E, ce, e1, e2, hq, hce, hcv, hcl, h1, hL, h2, h3⟩, st⟩
  · dsimp only [Pt.U, Pt.locs, Pt.cells, Pt.slots] at X' e1 e2 h1 h2 h3 st
    subst h1; subst h2; subst h3
    exact Or.inl ⟨v, (T.setVm vm₁).calling g' mk As.toArray, t, U', L, hT, X', hL, e1, e2, hq, st⟩
  · dsimp only [Pt.U, Pt.locs, Pt.cells, Pt.slots] at X' e1 e2 h1 h2 h3 st hcl
    subst h1; subst h2; subst h3
    exact Or.inr ⟨q, (T.setVm vm₁).calling g' mk As.toArray, t, U', L, E, ce, hT, X', hL, e1, e2, hq, hce, hcv, vx_cls hW₁ hcl, st⟩
end
end VXH
theorem vx_ofWH {l : Launch} {y : MethodName} {ws ws' : List Cond} {rm : Room} {Pc : Array Value → State → Prop} {Qc : Array Value → State → Outcome → State → Prop} {XC : String → State → State → Prop} {mc ms : Nat} {free : Addr → Prop} {cc : ByteArray} {maxL : Nat} {ret : Option FieldType} {hh : List (Nat × Nat × Nat × Nat)}
    (hy : plainName y.cls = true) (hw : ws = Cond.codeWith y cc maxL ret hh :: ws')
    (body : ∀ p e s m args below meth c s₁, BodyLoose p l y (headSpec ws rm) cc maxL ret e s m args below meth c s₁ → c.maxLocals = maxL → Pc args s →
      W p l e (headSpec ws rm).room s m args below meth c s.heap [] 0 0 (vx_MQ below Qc XC args s mc ms free) (entryFrame m args maxL)) : vx_Met l y ws rm Pc Qc XC mc ms free := by
  refine MetFree.of_bodyS (code := cc) (maxLocals := maxL) (ret := ret) hy ?_ ?_
  · intro args s m h hn
    obtain ⟨m9, meth, c, hn9, h1, h2, h3, h4, -, h5, h6, -⟩ := Cond.codeWith_spec (atoms_spec (ws := ws) h _ (by rw [hw]; exact List.mem_cons_self))
    cases hn.symm.trans hn9
    exact ⟨meth, c, h1, h2, h3, h4, h5, h6⟩
  · intro p e s m args below meth c s₁ B hml hP _
    have hh0 : s₁.heap = s.heap := by rw [B.state]; rfl
    obtain ⟨t, a1, o, b1, b2, b3⟩ := body p e s m args below meth c s₁ B hml hP s₁ hh0 (Stand.of_body B)
    exact ⟨t, o, a1, b1, b2, b3⟩
/-! ===== END ===== -/
/-! ===== BEGIN what the machine throws by itself, no traces kept ===== -/
section VXM
set_option maxHeartbeats 1000000 in
/-- the machine throws cls with the message text, no traces kept: from its note over the frame g to 'throwing' over the same frame (follows the proofs of Stand.vmThrowsMessage, Shelf/KitTracedVmS.lean, and Stand.throwsMessageColdBareV, StandMessageColdV.lean, without the step out of the frame) -/
theorem vx_vmAt {p : Program} {l : Launch} {e : Env} {R : Room} {s : State} {m₀ : MethodId} {args : Array Value} {below : List Frame} {meth : Method} {c : Code} {W : State} {locs : List Loc} {cells slots : Nat}
    (X : Stand p l e R s m₀ args below meth c W locs cells slots) (hexec : p.tables.exec = Jvm.exec) (htr : e.platform.stackTraces = false) {cls : String} {names : List String} {text : String}
    (hcls : Bundle.fit cls = true) (hnames : ∀ n ∈ names, Bundle.fit n = true) (hsoe : (cls == "java/lang/StackOverflowError") = false) (hoom : (cls == "java/lang/OutOfMemoryError") = false)
    (h : ∀ a ∈ Bundle.messageArmAtoms cls names, a.before args s = true)
    (hlocs : ∀ x ∈ locs, ∀ cell, s.heap[x.base]? = some cell → cell.vm.isStatics = false)
    (htext : (text == notModelled) = false) (hlimit : ¬ (stringBytes (stringToUtf16 text)).size > e.platform.arrayLengthLimit) (hheap : ¬ (stringBytes (stringToUtf16 text)).size * componentBytes .byte > e.platform.maxHeapBytes)
    {g : JFrame} (hg : g.method = m₀) (hsize : g.locals.size = c.maxLocals)
    (hRframes : names.length + 4 < R.frames) (hRlocals : 2 * g.monitorRoom + (g.stack.map fun v => v.category).sum + 10240 ≤ R.locals) (hshort : 13 * names.length + 55 ≤ 10240)
    (hRcells : cells + 3 ≤ R.cells) (hRslots : slots + ((stringBytes (stringToUtf16 text)).size + 4 + 6) ≤ R.slots) (hlocks : meth.locks = false) :
    ∃ (S : State) (q : Addr) (ce : Cell), (∀ target, Steps p.tables e below ((S.setTop g).pushFrame (.throwing q)) target → Steps p.tables e below ((W.setTop g).pushFrame (.throwNew cls (some text) none)) target) ∧
      Stand p l e R s m₀ args below meth c S locs (cells + 3) (slots + ((stringBytes (stringToUtf16 text)).size + 4 + 6)) ∧ S.heap[q]? = some ce ∧ s.vm.findClass cls = some ce.cls ∧ ce.vm = .none := by
  have howns : e.platform.frameOwnsMonitors = true := by rw [X.admits.platform]
  have hfin : e.platform.finalization = false := by rw [X.admits.platform]
  have hpl : e.platform.magicAccessors = ({} : Platform).magicAccessors := by rw [X.admits.platform]
  have a : ∀ x, x ∈ Bundle.messageArmAtoms cls names → x.holds args s none s [] = true := fun x hx => h x hx
  obtain ⟨T, Z0, L, -, Y⟩ := ThrowableC.of_atoms (args := args) howns hfin hpl (fun x hx => h x (by simp [Bundle.messageArmAtoms, hx]))
  obtain ⟨Z, M, LZ, LM, hnZ⟩ := Init0T.ofS_atoms (args := args) hpl L Y (fun x hx => h x (by simp [Bundle.messageArmAtoms, hx]))
  obtain ⟨P1, Ps, hlen, L1, hL, hP1m, hlink1, hlink⟩ := Bundle.chainS (args := args) hpl hnZ names cls hcls hnames (fun x hx => h x (by simp [Bundle.messageArmAtoms, hx]))
  obtain ⟨Zs, LZs, hn4, hfitv, hfitc⟩ := StringT.of_atoms (args := args) (fun x hx => h x (by simp [Bundle.messageArmAtoms, hx]))
  have hfound : s.vm.findClass cls = some P1.m.cls := findClass_of_methodNamed hP1m
  obtain ⟨c1, kX, hc1, hk, hord, -, -, hn6⟩ := Cond.instantiable_spec (a (.instantiable cls 6) (by simp [Bundle.messageArmAtoms]))
  cases Option.some.inj (hc1.symm.trans hfound)
  have hinit := Cond.initialized_spec hfound hk (a (.initialized cls) (by simp [Bundle.messageArmAtoms]))
  have hctor : kX.findMethod "<init>" "(Ljava/lang/String;)V" = some P1.m.idx := findMethod_of_methodNamed hP1m hk
  have hsel0 : selectMethod e.platform s.vm P1.m.cls T.fill0 = .method T.fill0 := by
    obtain ⟨c2, r2, m2, q1, q2, q3, q4, -⟩ := Cond.selects_spec (a (.selects cls Bundle.tFill0 Bundle.tFill0) (by simp [Bundle.messageArmAtoms]))
    cases Option.some.inj (q1.symm.trans hfound)
    cases Option.some.inj (q2.symm.trans (State.methodFound?_of_named Y.fill0 (by decide)))
    cases Option.some.inj (q3.symm.trans Y.fill0)
    rw [Launch.admits_selectMethod X.admits]; exact q4
  have hselF : selectMethod e.platform s.vm P1.m.cls T.fill = .method T.fill := by
    obtain ⟨c2, r2, m2, q1, q2, q3, q4, -⟩ := Cond.selects_spec (a (.selects cls Bundle.tFill Bundle.tFill) (by simp [Bundle.messageArmAtoms]))
    cases Option.some.inj (q1.symm.trans hfound)
    cases Option.some.inj (q2.symm.trans (State.methodFound?_of_named Y.fill (by decide)))
    cases Option.some.inj (q3.symm.trans Y.fill)
    rw [Launch.admits_selectMethod X.admits]; exact q4
  obtain ⟨cellS0, hcS0, hiss⟩ := Y.statics
  obtain ⟨u0, hu0⟩ := Cond.staticRefV Y.unassigned L.unassignedStatic L.statics hcS0 hiss (a (.isRef (.static Bundle.tN "UNASSIGNED_STACK" Bundle.steD)) (by simp [Bundle.messageArmAtoms]))
  obtain ⟨sen, hsen⟩ := Cond.staticRefV Y.sentinel L.sentinelStatic L.statics hcS0 hiss (a (.isRef (.static Bundle.tN "SUPPRESSED_SENTINEL" Bundle.listD)) (by simp [Bundle.messageArmAtoms]))
  obtain ⟨ci198, i198, fB, hk198, hg198, ha198, hsB, -, hnB, htB, hffB⟩ := Cond.ownField (t := .object "java/lang/Object") Y.found L.cls (by decide +kernel) (a (.fieldLink Bundle.tN 198 Bundle.tN "backtrace" "Ljava/lang/Object;") (by simp [Bundle.messageArmAtoms])) (a (.lays Bundle.tN Bundle.tN "backtrace" "Ljava/lang/Object;") (by simp [Bundle.messageArmAtoms])) e.platform hpl
  obtain ⟨cellS, hcS', heS, -, hkeep⟩ := X.same.2.2.2.2.2 T.aS cellS0 hcS0
  have hcellS : W.heap[T.aS]? = some cellS := hcS'
  have hout' : ∀ i, (⟨T.aS, i⟩ : Loc) ∉ locs := fun i hmem => by
    have := hlocs _ hmem cellS0 hcS0
    rw [hiss] at this; cases this
  have hknownS : cellS.vm ≠ .unknown := by
    rw [heS]; intro hu
    rw [show cellS0.vm = .unknown from hu] at hiss
    cases hiss
  have hvU : cellS.slots[T.fUnassigned.slot]? = some u0.v := by rw [hkeep _ (hout' _)]; exact hu0
  have hvSen : cellS.slots[T.fSentinel.slot]? = some sen.v := by rw [hkeep _ (hout' _)]; exact hsen
  obtain ⟨iM, hffM⟩ := Y.msg
  obtain ⟨tyC, dC, hdC, hdnC⟩ := Cond.laysAt hfound hk Y.cause (a (.lays cls Bundle.tN "cause" "Ljava/lang/Throwable;") (by simp [Bundle.messageArmAtoms]))
  obtain ⟨tyS, dS, hdS, hdnS⟩ := Cond.laysAt hfound hk Y.stack (a (.lays cls Bundle.tN "stackTrace" Bundle.steD) (by simp [Bundle.messageArmAtoms]))
  obtain ⟨tyP, dP, hdP, hdnP⟩ := Cond.laysAt hfound hk Y.supp (a (.lays cls Bundle.tN "suppressedExceptions" Bundle.listD) (by simp [Bundle.messageArmAtoms]))
  obtain ⟨tyM, dM, hdM, hdnM⟩ := Cond.laysAt hfound hk hffM (a (.lays cls Bundle.tN "detailMessage" "Ljava/lang/String;") (by simp [Bundle.messageArmAtoms]))
  obtain ⟨tyB, dB, hdB, hdnB⟩ := Cond.laysAt hfound hk hffB (a (.lays cls Bundle.tN "backtrace" "Ljava/lang/Object;") (by simp [Bundle.messageArmAtoms]))
  have bC := Cond.laysApart hdB hdC hdnB hdnC (by rw [hnB, Y.causeName]; decide)
  have bS := Cond.laysApart hdB hdS hdnB hdnS (by rw [hnB, Y.stackName]; decide)
  have bP := Cond.laysApart hdB hdP hdnB hdnP (by rw [hnB, Y.suppName]; decide)
  have hbk : ((preparedCellV T.toThrowableT (freshCell P1.m.cls kX) (W.heap.size + 2) u0 sen).withEntry W.cur).slots[fB.slot]? = some .null := by
    have := fresh_default (c := P1.m.cls) tyB
    rw [htB] at this
    simpa [preparedCellV, Cell.setSlot, Cell.withEntry, Array.getElem?_setIfInBounds, bC, bS, bP, bC.symm, bS.symm, bP.symm, defaultValue] using this
  have tkC := Takes.of_laid (v := .ref (W.heap.size + 2)) hk hord tyC (by rw [Y.causeType]; rfl)
  have tkS := Takes.of_laid (v := u0.v) hk hord tyS (by rw [Y.stackType]; exact fits_refV_array _ u0)
  have tkP := Takes.of_laid (v := sen.v) hk hord tyP (by rw [Y.suppType]; exact fits_refV_object _ sen)
  have tkM := Takes.of_laid (v := .ref (W.heap.size + 1)) hk hord tyM (by rw [Y.msgType]; rfl)
  have hskip : SkipFacts T e.platform s (fun u => u) u0 ((preparedCellV T.toThrowableT (freshCell P1.m.cls kX) (W.heap.size + 2) u0 sen).withEntry W.cur) := ⟨{ ci198 := ci198, i198 := i198, fBack := fB }, ⟨hk198, hg198, ha198, hsB⟩, hbk, fun _ _ => rfl⟩
  have h0 : At W g.method c below := by rw [hg]; exact X.here
  obtain ⟨hbeyond, hfreeW⟩ := X.vmMayThrow hsize (.throwNew cls (some text) none) (fun f hf => by cases hf) rfl hRlocals
  have hfr' : W.frames.length + Ps.length + 4 < (e.platform.stackLimits W.me).1 := by have := X.framesAbove hRframes; omega
  have hwd' : (stackUse (.java g :: W.frames.tail)).2 + 13 * Ps.length + 55 ≤ (e.platform.stackLimits W.me).2 := by have := X.stackAbove hsize (K := 13 * Ps.length + 55) (by omega); omega
  have hslots : W.slotsUsed + (stringBytes (stringToUtf16 text)).size + Zs.kS.instanceTypes.size + kX.instanceTypes.size ≤ e.platform.maxSlots := by
    have := X.slotsAbove hRslots
    rw [hn4, hn6]
    omega
  obtain ⟨vm', hW', st⟩ := Steps.vmThrowsMessageColdByV p (s₀ := s) (S := W) (g := g) h0 hexec T L Z LZ M LM X.warmed (t := W.cur) rfl Zs LZs P1 L1 Ps hL hlink1 hlink hsoe hoom hfound hk hinit hord hctor
    (Launch.admits_hotImplicitExceptions X.admits) hbeyond hfreeW htext hlimit hheap (X.cellsAbove hRcells) hslots (hfitv _) (hfitc _)
    (Nn := fun u => u) heapOnly_id (fun _ _ => rfl) (fun _ => rfl) (fun u x y => setCell_twice _ _ _ _) (fun _ => Nat.le_refl _) (cN := ((preparedCellV T.toThrowableT (freshCell P1.m.cls kX) (W.heap.size + 2) u0 sen).withEntry W.cur))
    hsel0 hcellS hknownS hvU tkS (fun _ hu => hu) (fun _ hu => hu) rfl rfl rfl (by simp [preparedCellV, Cell.setSlot, Cell.withEntry]) hskip (fun _ _ hA hW _ hroom _ hrest => L.nativeOff p htr hA hW hroom hrest) hselF hvSen tkC tkP tkM Y.objLocals rfl hfr' hwd'
  rw [plainBareV_eq T.toThrowableT (W.heap.size + 2) u0 sen (.ref (W.heap.size + 1)) W.cur rfl rfl] at st
  obtain ⟨-, -, w3, w4, -, -, -⟩ := withThrown_facts e.platform W Zs text P1.m.cls kX
  have X3 := ((X.pushed (bytesOf Zs.cB (stringToUtf16 text))).pushed (stringAt Zs.cS Zs.kS Zs.fv Zs.fc (stringToUtf16 text) W.heap.size)).pushed (freshCell P1.m.cls kX)
  rw [← withString_eq] at X3
  have X4 := X3.noted hW'
  have ha : (W.heap.size + 2) < ((withThrown W Zs text P1.m.cls kX).setVm vm').heap.size := by show _ < (withThrown W Zs text P1.m.cls kX).heap.size; rw [w3]; omega
  have hcell : ((withThrown W Zs text P1.m.cls kX).setVm vm').heap[(W.heap.size + 2)]? = some (freshCell P1.m.cls kX) := w4
  have X5 := ((((X4.stored hcell T.fCause.slot (.ref (W.heap.size + 2))).storedAgain ha T.fStack.slot u0.v).storedAgain ha T.fSupp.slot sen.v).storedAgain ha T.fStack.slot u0.v).storedAgain ha T.fMsg.slot (.ref (W.heap.size + 1))
  obtain ⟨g₁, hfrM⟩ := X5.frames_eq
  have hU : ((((withThrown W Zs text P1.m.cls kX).setVm vm').setCell (W.heap.size + 2) (plainBareV T.toThrowableT (freshCell P1.m.cls kX) (W.heap.size + 2) u0 sen (.ref (W.heap.size + 1)))).setTop g).pushFrame (.throwing (W.heap.size + 2)) = (((withThrown W Zs text P1.m.cls kX).setVm vm').setCell (W.heap.size + 2) (plainBareV T.toThrowableT (freshCell P1.m.cls kX) (W.heap.size + 2) u0 sen (.ref (W.heap.size + 1)))).setFrames (.throwing (W.heap.size + 2) :: .java g :: below) := by
    rw [State.pushFrame, State.frames_setTop _ hfrM, State.setTop_of_frames _ hfrM, State.setFrames_setFrames]
  have b1 : (bytesOf Zs.cB (stringToUtf16 text)).slots.size = (stringBytes (stringToUtf16 text)).size := by
    rw [(Cell.writeAll_facts _ _).2.2]; simp [bytes0]
  have b2 : (stringAt Zs.cS Zs.kS Zs.fv Zs.fc (stringToUtf16 text) W.heap.size).slots.size = 4 := by simp [string0, Cell.setSlot, hn4]
  have b3 : (freshCell P1.m.cls kX).slots.size = 6 := by simp [hn6]
  rw [b1, b2, b3] at X5
  have e9 : slots + (stringBytes (stringToUtf16 text)).size + 4 + 6 = slots + ((stringBytes (stringToUtf16 text)).size + 4 + 6) := by omega
  rw [e9] at X5
  simp only [List.append_assoc, List.cons_append, List.nil_append] at X5
  refine ⟨((withThrown W Zs text P1.m.cls kX).setVm vm').setCell (W.heap.size + 2) (plainBareV T.toThrowableT (freshCell P1.m.cls kX) (W.heap.size + 2) u0 sen (.ref (W.heap.size + 1))), W.heap.size + 2, _, fun target ht => st _ (by rw [X.tail, ← hU]; exact ht),
    X5.forget (fun y hy => ?_), heapAt_setCell_self _ ha, hfound, rfl⟩
  simp only [List.mem_cons, List.not_mem_nil, or_false] at hy
  have hge : s.heap.size ≤ W.heap.size := X.same.2.1
  rcases hy with rfl | rfl | rfl | rfl | rfl <;> exact Nat.le_trans hge (Nat.le_add_right _ 2)
set_option maxHeartbeats 1000000 in
/-- the machine throws NullPointerException, no traces kept: from its note over the frame g to 'throwing' over the same frame (follows the proof of Stand.vmThrowsNpe, Shelf42/KT2.lean; throwsNpeColdBareVAt, Shelf42/NT91.lean, called) -/
theorem vx_npeAt {p : Program} {l : Launch} {e : Env} {R : Room} {s : State} {m₀ : MethodId} {args : Array Value} {below : List Frame} {meth : Method} {c : Code} {W : State} {locs : List Loc} {cells slots : Nat}
    (X : Stand p l e R s m₀ args below meth c W locs cells slots) (hexec : p.tables.exec = Jvm.exec) (htr : e.platform.stackTraces = false) {n : Nat}
    (h : ∀ a ∈ Bundle.npeArmAtoms n, a.before args s = true)
    (hlocs : ∀ x ∈ locs, ∀ cell, s.heap[x.base]? = some cell → cell.vm.isStatics = false)
    {g : JFrame} (hg : g.method = m₀) (hsize : g.locals.size = c.maxLocals)
    (hRframes : 7 < R.frames) (hRlocals : 2 * g.monitorRoom + (g.stack.map fun v => v.category).sum + 10240 ≤ R.locals)
    (hRcells : cells + 1 ≤ R.cells) (hRslots : slots + n ≤ R.slots) (hlocks : meth.locks = false) :
    ∃ (S : State) (q : Addr) (ce : Cell), (∀ target, Steps p.tables e below ((S.setTop g).pushFrame (.throwing q)) target → Steps p.tables e below ((W.setTop g).pushFrame (.throwNew "java/lang/NullPointerException" none none)) target) ∧
      Stand p l e R s m₀ args below meth c S locs (cells + 1) (slots + n) ∧ S.heap[q]? = some ce ∧ s.vm.findClass "java/lang/NullPointerException" = some ce.cls ∧ ce.vm = .none := by
  have howns : e.platform.frameOwnsMonitors = true := by rw [X.admits.platform]
  have hfin : e.platform.finalization = false := by rw [X.admits.platform]
  have hpl : e.platform.magicAccessors = ({} : Platform).magicAccessors := by rw [X.admits.platform]
  have hpl2 : e.platform.arrayCloneIsPublic = true := by rw [X.admits.platform]
  have a' : ∀ x, x ∈ Bundle.npeArmAtoms n → x.holds args s none s [] = true := fun x hx => h x hx
  obtain ⟨T, Z, L, LZ, Y⟩ := ThrowableC.of_atoms (args := args) howns hfin hpl (fun x hx => h x (by simp [Bundle.npeArmAtoms, hx]))
  obtain ⟨N, LN, hcN, hnNF, hordN, hffS⟩ := NpeC.of_atoms (args := args) hpl hpl2 L Y (fun x hx => h x (by simp [Bundle.npeArmAtoms, hx]))
  obtain ⟨P1, L1, hP1m, hP1s⟩ := PassC.of_atoms (args := args) (s := s) hpl (X := Bundle.nN) (Y := Bundle.rN) (by decide) (by decide) LibCode.NullPointerException.Init0.at_0 LibCode.NullPointerException.Init0.at_1 LibCode.NullPointerException.Init0.at_4 (fun x hx => h x (by simp [Bundle.npeArmAtoms, hx]))
  obtain ⟨PR, LR, hPRm, hPRs⟩ := PassC.of_atoms (args := args) (s := s) hpl (X := Bundle.rN) (Y := Bundle.eN) (by decide) (by decide) LibCode.RuntimeException.Init0.at_0 LibCode.RuntimeException.Init0.at_1 LibCode.RuntimeException.Init0.at_4 (fun x hx => h x (by simp [Bundle.npeArmAtoms, hx]))
  obtain ⟨PE, LEx, hPEm, hPEs⟩ := PassC.of_atoms (args := args) (s := s) hpl (X := Bundle.eN) (Y := Bundle.tN) (by decide) (by decide) LibCode.Exception.Init0.at_0 LibCode.Exception.Init0.at_1 LibCode.Exception.Init0.at_4 (fun x hx => h x (by simp [Bundle.npeArmAtoms, hx]))
  have hfound : s.vm.findClass Bundle.nN = some P1.m.cls := findClass_of_methodNamed hP1m
  have ecls : N.cN = P1.m.cls := Option.some.inj (hcN.symm.trans hfound)
  have hk : s.vm.classes[P1.m.cls]? = some N.kN := by rw [← ecls]; exact LN.cls
  have hinit := Cond.initialized_spec hfound hk (a' (.initialized Bundle.nN) (by simp [Bundle.npeArmAtoms]))
  have hctor : N.kN.findMethod "<init>" "()V" = some P1.m.idx := findMethod_of_methodNamed hP1m hk
  obtain ⟨c1, k1, hc1, hk1, -, -, -, hn⟩ := Cond.instantiable_spec (a' (.instantiable Bundle.nN n) (by simp [Bundle.npeArmAtoms]))
  cases Option.some.inj (hc1.symm.trans hfound)
  cases Option.some.inj (hk1.symm.trans hk)
  have hfsz : (freshCell P1.m.cls N.kN).slots.size = n := by simp [hn]
  have hlink1 : P1.sup = PR.m := Option.some.inj (hP1s.symm.trans hPRm)
  have hlinkR : PR.sup = PE.m := Option.some.inj (hPRs.symm.trans hPEm)
  have hlinkE : PE.sup = Z.m T.toThrowableT := Option.some.inj (hPEs.symm.trans Y.init0)
  have hLs : ∀ P, P ∈ [PR, PE] → P.Links0 e.platform s := fun P hP => by
    simp only [List.mem_cons, List.not_mem_nil, or_false] at hP
    rcases hP with rfl | rfl
    · exact LR
    · exact LEx
  have hsel0 : selectMethod e.platform s.vm P1.m.cls T.fill0 = .method T.fill0 := by
    obtain ⟨c2, r2, m2, q1, q2, q3, q4, -⟩ := Cond.selects_spec (a' (.selects Bundle.nN Bundle.tFill0 Bundle.tFill0) (by simp [Bundle.npeArmAtoms]))
    cases Option.some.inj (q1.symm.trans hfound)
    cases Option.some.inj (q2.symm.trans (State.methodFound?_of_named Y.fill0 (by decide)))
    cases Option.some.inj (q3.symm.trans Y.fill0)
    rw [Launch.admits_selectMethod X.admits]; exact q4
  have hselF : selectMethod e.platform s.vm P1.m.cls T.fill = .method N.fill := by
    obtain ⟨c2, r2, m2, q1, q2, q3, q4, -⟩ := Cond.selects_spec (a' (.selects Bundle.nN Bundle.tFill Bundle.nFill) (by simp [Bundle.npeArmAtoms]))
    cases Option.some.inj (q1.symm.trans hfound)
    cases Option.some.inj (q2.symm.trans (State.methodFound?_of_named Y.fill (by decide)))
    cases Option.some.inj (q3.symm.trans hnNF)
    rw [Launch.admits_selectMethod X.admits]; exact q4
  obtain ⟨cellS0, hcS0, hiss⟩ := Y.statics
  obtain ⟨u0, hu0⟩ := Cond.staticRefV Y.unassigned L.unassignedStatic L.statics hcS0 hiss (a' (.isRef (.static Bundle.tN "UNASSIGNED_STACK" Bundle.steD)) (by simp [Bundle.npeArmAtoms]))
  obtain ⟨sen, hsen⟩ := Cond.staticRefV Y.sentinel L.sentinelStatic L.statics hcS0 hiss (a' (.isRef (.static Bundle.tN "SUPPRESSED_SENTINEL" Bundle.listD)) (by simp [Bundle.npeArmAtoms]))
  obtain ⟨ci198, i198, fB, hk198, hg198, ha198, hsB, -, hnB, htB, hffB⟩ := Cond.ownField (t := .object "java/lang/Object") Y.found L.cls (by decide +kernel) (a' (.fieldLink Bundle.tN 198 Bundle.tN "backtrace" Bundle.objD) (by simp [Bundle.npeArmAtoms])) (a' (.lays Bundle.tN Bundle.tN "backtrace" Bundle.objD) (by simp [Bundle.npeArmAtoms])) e.platform hpl
  obtain ⟨cellS, hcS', heS, -, hkeep⟩ := X.same.2.2.2.2.2 T.aS cellS0 hcS0
  have hcellS : W.heap[T.aS]? = some cellS := hcS'
  have hout' : ∀ i, (⟨T.aS, i⟩ : Loc) ∉ locs := fun i hmem => by
    have := hlocs _ hmem cellS0 hcS0
    rw [hiss] at this; cases this
  have hknownS : cellS.vm ≠ .unknown := by
    rw [heS]; intro hu
    rw [show cellS0.vm = .unknown from hu] at hiss
    cases hiss
  have hvU : cellS.slots[T.fUnassigned.slot]? = some u0.v := by rw [hkeep _ (hout' _)]; exact hu0
  have hvSen : cellS.slots[T.fSentinel.slot]? = some sen.v := by rw [hkeep _ (hout' _)]; exact hsen
  obtain ⟨tyC, dC, hdC, hdnC⟩ := Cond.laysAt hfound hk Y.cause (a' (.lays Bundle.nN Bundle.tN "cause" "Ljava/lang/Throwable;") (by simp [Bundle.npeArmAtoms]))
  obtain ⟨tyS, dS, hdS, hdnS⟩ := Cond.laysAt hfound hk Y.stack (a' (.lays Bundle.nN Bundle.tN "stackTrace" Bundle.steD) (by simp [Bundle.npeArmAtoms]))
  obtain ⟨tyP, dP, hdP, hdnP⟩ := Cond.laysAt hfound hk Y.supp (a' (.lays Bundle.nN Bundle.tN "suppressedExceptions" Bundle.listD) (by simp [Bundle.npeArmAtoms]))
  obtain ⟨tyX, dX, hdX, hdnX⟩ := Cond.laysAt hfound hk hffS (a' (.lays Bundle.nN Bundle.nN "extendedMessageState" "I") (by simp [Bundle.npeArmAtoms, Bundle.npeAtoms]))
  obtain ⟨hnX, htX⟩ := State.fieldFound?_type hffS (t := .int) (by decide +kernel)
  have xC := Cond.laysApart hdC hdX hdnC hdnX (by rw [hnX, Y.causeName]; decide)
  have xS := Cond.laysApart hdS hdX hdnS hdnX (by rw [hnX, Y.stackName]; decide)
  have xP := Cond.laysApart hdP hdX hdnP hdnX (by rw [hnX, Y.suppName]; decide)
  have hv0 : (freshCell P1.m.cls N.kN).slots[N.fState.slot]? = some (.int 0) := by
    have := fresh_default (c := P1.m.cls) tyX
    rw [htX] at this; exact this
  obtain ⟨tyB, dB, hdB, hdnB⟩ := Cond.laysAt hfound hk hffB (a' (.lays Bundle.nN Bundle.tN "backtrace" Bundle.objD) (by simp [Bundle.npeArmAtoms]))
  have bC := Cond.laysApart hdB hdC hdnB hdnC (by rw [hnB, Y.causeName]; decide)
  have bS := Cond.laysApart hdB hdS hdnB hdnS (by rw [hnB, Y.stackName]; decide)
  have bP := Cond.laysApart hdB hdP hdnB hdnP (by rw [hnB, Y.suppName]; decide)
  have bX := Cond.laysApart hdB hdX hdnB hdnX (by rw [hnB, hnX]; decide)
  have hbk : ((npeCell N.toNpeT (preparedCellV T.toThrowableT (freshCell P1.m.cls N.kN) W.heap.size u0 sen) W.cur).withEntry W.cur).slots[fB.slot]? = some .null := by
    have := fresh_default (c := P1.m.cls) tyB
    rw [htB] at this
    simpa [npeCell, preparedCellV, Cell.setSlot, Cell.withEntry, Array.getElem?_setIfInBounds, bC, bS, bP, bX, bC.symm, bS.symm, bP.symm, bX.symm, defaultValue] using this
  have tkC := Takes.of_laid (v := .ref W.heap.size) hk hordN tyC (by rw [Y.causeType]; rfl)
  have tkS := Takes.of_laid (v := u0.v) hk hordN tyS (by rw [Y.stackType]; exact fits_refV_array _ u0)
  have tkP := Takes.of_laid (v := sen.v) hk hordN tyP (by rw [Y.suppType]; exact fits_refV_object _ sen)
  have tkX := Takes.of_laid (v := .int 1) hk hordN tyX (by rw [htX]; rfl)
  have hskip : SkipFacts T e.platform s (fun u => u) u0 ((npeCell N.toNpeT (preparedCellV T.toThrowableT (freshCell P1.m.cls N.kN) W.heap.size u0 sen) W.cur).withEntry W.cur) := ⟨{ ci198 := ci198, i198 := i198, fBack := fB }, ⟨hk198, hg198, ha198, hsB⟩, hbk, fun _ _ => rfl⟩
  obtain ⟨vm', X3, st, -⟩ := X.throwsNpeColdBareVAt hexec hg hsize T L Z LZ N LN P1 L1 [PR, PE] hLs hlink1 ⟨hlinkR, hlinkE, trivial⟩ hfound hk hinit hordN hctor hsel0 hselF hcellS hknownS hvU hvSen
    hv0 xC xS xP tkC tkS tkP tkX Y.objLocals hskip (fun _ _ hA hW _ hroom _ hrest => L.nativeOff p htr hA hW hroom hrest) (by simpa using hRframes) hRlocals (by simp) hRcells (by rw [hn]; exact hRslots)
  have hlt : W.heap.size < ((W.pushCell (freshCell P1.m.cls N.kN)).setVm vm').heap.size := by
    show W.heap.size < (W.pushCell (freshCell P1.m.cls N.kN)).heap.size
    rw [State.heap_size_pushCell]; omega
  rw [hfsz] at X3
  obtain ⟨g₁, hfrM⟩ := X3.frames_eq
  have hU : ((((W.pushCell (freshCell P1.m.cls N.kN)).setVm vm').setCell W.heap.size (npeBareV T.toThrowableT N.toNpeT (freshCell P1.m.cls N.kN) W.heap.size u0 sen)).setTop g).pushFrame (.throwing W.heap.size) = (((W.pushCell (freshCell P1.m.cls N.kN)).setVm vm').setCell W.heap.size (npeBareV T.toThrowableT N.toNpeT (freshCell P1.m.cls N.kN) W.heap.size u0 sen)).setFrames (.throwing W.heap.size :: .java g :: below) := by
    rw [State.pushFrame, State.frames_setTop _ hfrM, State.setTop_of_frames _ hfrM, State.setFrames_setFrames]
  refine ⟨_, W.heap.size, _, fun target ht => st.trans (by rw [← hU]; exact ht), X3.forget (fun y hy => ?_), heapAt_setCell_self _ hlt, hfound, rfl⟩
  simp only [List.mem_cons, List.not_mem_nil, or_false] at hy
  have hge : s.heap.size ≤ W.heap.size := X.same.2.1
  rcases hy with rfl | rfl | rfl | rfl | rfl <;> exact hge
/-- the words of a machine's NullPointerException, but the four that speak of the heap -/
def vx_atN (n : Nat) : List Cond := (Bundle.npeArmAtoms n).filter vx_no
/-- the words of a machine's throw with a message, but the four that speak of the heap -/
def vx_atM (X : String) (names : List String) : List Cond := (Bundle.messageArmAtoms X names).filter vx_no
section
variable {p : Program} {l : Launch} {e : Env} {R : Room} {s : State} {m : MethodId} {args : Array Value} {below : List Frame} {meth : Method} {c : Code} {H : Heap} {locs : List Loc} {cells slots : Nat}
/-- a frame seen from a rebased start, seen from the first start again -/
theorem vx_back9 {T S : State} {R' : Room} {k n : Nat} (X : Stand p l e R s m args below meth c T locs cells slots) (Y : Stand p l e R' ((T.setVm s.vm).setFrames (.invoking m args :: below)) m args below meth c T [] 0 0) (Z : Stand p l e R' ((T.setVm s.vm).setFrames (.invoking m args :: below)) m args below meth c S [] k n) :
    Stand p l e R s m args below meth c S locs (cells + k) (slots + n) := by
  have hW0 : s.WarmedH ((T.setVm s.vm).setFrames (.invoking m args :: below)).vm := State.WarmedH.refl s
  refine { admits := X.admits, cas := X.cas, clock := X.clock, frames := X.frames, room := X.room, hears := X.hears, method := X.method, code := X.code, here := Z.here, tail := Z.tail, warmed := State.WarmedH.trans hW0 Z.warmed, limits := Z.limits.trans (Y.limits.symm.trans X.limits), bytes := Z.bytes.trans (Y.bytes.symm.trans X.bytes), same := ?_ }
  obtain ⟨e1, e2⟩ := Z.same
  rw [State.setFrames_setFrames] at e1
  have h2 : (T.setVm s.vm).sameButNew (S.setVm s.vm) [] k n := ⟨e1, e2⟩
  have h3 := X.same.trans h2
  rw [List.append_nil] at h3
  exact h3
/-- from the machine's note that E is thrown here with this text -/
def vx_Note (p : Program) (l : Launch) (e : Env) (R : Room) (s : State) (m : MethodId) (args : Array Value) (below : List Frame) (meth : Method) (c : Code) (H : Heap) (locs : List Loc) (cells slots : Nat) (Q : State → Prop) (g : JFrame) (E text : String) : Prop :=
  ∀ T : State, T.heap = H → Stand p l e R s m args below meth c T locs cells slots → ∃ t, Steps p.tables e below ((T.setTop g).pushFrame (.throwNew E (some text) none)) t ∧ Q t
theorem vx_vm {pc : Nat} {ls : Array Slot} {rest : List Value} {Q : State → Prop} (hexec : p.tables.exec = Jvm.exec) (hl : l.stackTraces = false) {cls text : String} {names : List String} {nb : Nat} {A : Nat → Prop}
    (hcls : Bundle.fit cls = true) (hnames : ∀ n ∈ names, Bundle.fit n = true) (hsoe : (cls == "java/lang/StackOverflowError") = false) (hoom : (cls == "java/lang/OutOfMemoryError") = false)
    (hat : ∀ w ∈ vx_atM cls names, w.before args s = true) (hgood : ∀ w ∈ vx_atM cls names, vx_ot w = true)
    (hU : vx_Zq Bundle.tN "UNASSIGNED_STACK" Bundle.steD A s s.heap) (hN : vx_Zq Bundle.tN "SUPPRESSED_SENTINEL" Bundle.listD A s s.heap) (hS : va_S A s.heap H locs) (hsize : ls.size = c.maxLocals)
    (htext : (text == notModelled) = false) (hnb : (stringBytes (stringToUtf16 text)).size ≤ nb) (hnb1 : nb ≤ 1000)
    (hRframes : names.length + 4 < R.frames) (hRlocals : (rest.map fun v => v.category).sum + 10240 ≤ R.locals) (hshort : 13 * names.length + 55 ≤ 10240) (hRcells : cells + 3 ≤ R.cells) (hRslots : slots + (nb + 10) ≤ R.slots) (hlocks : meth.locks = false)
    (k : ∀ (H1 : Heap) (q9 : Addr) (ce : Cell), H.size ≤ H1.size → (∀ q : Nat, q < H.size → H1[q]? = H[q]?) → va_S A s.heap H1 locs → H1[q9]? = some ce → ce.vm = .none → s.vm.findClass cls = some ce.cls → vx_W p l e R s m args below meth c H1 locs (cells + 3) (slots + (nb + 10)) Q (F0 m pc ls rest) q9) :
    vx_Note p l e R s m args below meth c H locs cells slots Q (F0 m pc ls rest) cls text := by
  intro T hT X
  have htr : e.platform.stackTraces = false := (show e.platform.stackTraces = l.stackTraces by rw [X.admits.platform]).trans hl
  have Y := vx_rebase X (R' := { frames := R.frames, locals := R.locals, cells := 3, slots := nb + 10 }) (Nat.le_refl _) (Nat.le_refl _) hRcells hRslots
  have hhp : ((T.setVm s.vm).setFrames (.invoking m args :: below)).heap = H := hT
  have hW0 : s.WarmedH ((T.setVm s.vm).setFrames (.invoking m args :: below)).vm := State.WarmedH.refl s
  have hat' : ∀ w ∈ vx_atM cls names, w.before args ((T.setVm s.vm).setFrames (.invoking m args :: below)) = true := fun w hw => vx_ot_at hW0 rfl (hgood w hw) (hat w hw)
  have hU' : vx_Zq Bundle.tN "UNASSIGNED_STACK" Bundle.steD A ((T.setVm s.vm).setFrames (.invoking m args :: below)) ((T.setVm s.vm).setFrames (.invoking m args :: below)).heap := by rw [hhp]; exact vx_Zq.moved hW0.alike (hU.kept hS.2.1)
  have hN' : vx_Zq Bundle.tN "SUPPRESSED_SENTINEL" Bundle.listD A ((T.setVm s.vm).setFrames (.invoking m args :: below)) ((T.setVm s.vm).setFrames (.invoking m args :: below)).heap := by rw [hhp]; exact vx_Zq.moved hW0.alike (hN.kept hS.2.1)
  obtain ⟨S, q, ce, st, Z, hce, hcl', hv⟩ := vx_vmAt Y hexec htr (cls := cls) (names := names) (text := text) hcls hnames hsoe hoom (vx_own hat' (vx_isRefq hU'.1) (vx_isRefq hN'.1) hU'.2.word hN'.2.word) (fun x hx => nomatch hx) htext
    (by rw [Launch.admits_arrayLengthLimit X.admits]; omega) (by rw [Launch.admits_maxHeapBytes X.admits]; simp only [componentBytes]; omega)
    (g := F0 m pc ls rest) rfl hsize hRframes (by show 2 * 0 + (rest.map fun v => v.category).sum + 10240 ≤ R.locals; omega) hshort (by show 0 + 3 ≤ 3; omega) (by show 0 + (_ + 4 + 6) ≤ nb + 10; omega) hlocks
  obtain ⟨f1, f2⟩ := vx_frame Z.same
  have f1' : H.size ≤ S.heap.size := by rw [← hT]; exact f1
  have f2' : ∀ q : Nat, q < H.size → S.heap[q]? = H[q]? := fun q hq => by
    rw [← hT]
    exact f2 q (by rw [← hT] at hq; exact hq) (fun z hz => nomatch hz)
  have X5 := vx_back9 X Y Z
  have X6 : Stand p l e R s m args below meth c S locs (cells + 3) (slots + (nb + 10)) := { X5 with same := X5.same.mono (by omega) (by omega) }
  obtain ⟨t, a1, b1⟩ := k S.heap q ce f1' f2' ⟨Nat.le_trans hS.1 f1', fun q h1 h2 => (f2' q (Nat.lt_of_lt_of_le h1 hS.1)).trans (hS.2.1 q h1 h2), hS.2.2⟩ hce hv hcl' S rfl X6
  exact ⟨t, st t a1, b1⟩
/-- from the machine's note that NullPointerException is thrown here -/
def vx_NoteN (p : Program) (l : Launch) (e : Env) (R : Room) (s : State) (m : MethodId) (args : Array Value) (below : List Frame) (meth : Method) (c : Code) (H : Heap) (locs : List Loc) (cells slots : Nat) (Q : State → Prop) (g : JFrame) : Prop :=
  ∀ T : State, T.heap = H → Stand p l e R s m args below meth c T locs cells slots → ∃ t, Steps p.tables e below ((T.setTop g).pushFrame (.throwNew "java/lang/NullPointerException" none none)) t ∧ Q t
theorem vx_npe {pc : Nat} {ls : Array Slot} {rest : List Value} {Q : State → Prop} (hexec : p.tables.exec = Jvm.exec) (hl : l.stackTraces = false) {nb : Nat} {A : Nat → Prop}
    (hat : ∀ w ∈ vx_atN nb, w.before args s = true) (hgood : ∀ w ∈ vx_atN nb, vx_ot w = true)
    (hU : vx_Zq Bundle.tN "UNASSIGNED_STACK" Bundle.steD A s s.heap) (hN : vx_Zq Bundle.tN "SUPPRESSED_SENTINEL" Bundle.listD A s s.heap) (hS : va_S A s.heap H locs) (hsize : ls.size = c.maxLocals)
    (hRframes : 7 < R.frames) (hRlocals : (rest.map fun v => v.category).sum + 10240 ≤ R.locals) (hRcells : cells + 1 ≤ R.cells) (hRslots : slots + nb ≤ R.slots) (hlocks : meth.locks = false)
    (k : ∀ (H1 : Heap) (q9 : Addr) (ce : Cell), H.size ≤ H1.size → (∀ q : Nat, q < H.size → H1[q]? = H[q]?) → va_S A s.heap H1 locs → H1[q9]? = some ce → ce.vm = .none → s.vm.findClass "java/lang/NullPointerException" = some ce.cls → vx_W p l e R s m args below meth c H1 locs (cells + 1) (slots + nb) Q (F0 m pc ls rest) q9) :
    vx_NoteN p l e R s m args below meth c H locs cells slots Q (F0 m pc ls rest) := by
  intro T hT X
  have htr : e.platform.stackTraces = false := (show e.platform.stackTraces = l.stackTraces by rw [X.admits.platform]).trans hl
  have Y := vx_rebase X (R' := { frames := R.frames, locals := R.locals, cells := 1, slots := nb }) (Nat.le_refl _) (Nat.le_refl _) hRcells hRslots
  have hhp : ((T.setVm s.vm).setFrames (.invoking m args :: below)).heap = H := hT
  have hW0 : s.WarmedH ((T.setVm s.vm).setFrames (.invoking m args :: below)).vm := State.WarmedH.refl s
  have hat' : ∀ w ∈ vx_atN nb, w.before args ((T.setVm s.vm).setFrames (.invoking m args :: below)) = true := fun w hw => vx_ot_at hW0 rfl (hgood w hw) (hat w hw)
  have hU' : vx_Zq Bundle.tN "UNASSIGNED_STACK" Bundle.steD A ((T.setVm s.vm).setFrames (.invoking m args :: below)) ((T.setVm s.vm).setFrames (.invoking m args :: below)).heap := by rw [hhp]; exact vx_Zq.moved hW0.alike (hU.kept hS.2.1)
  have hN' : vx_Zq Bundle.tN "SUPPRESSED_SENTINEL" Bundle.listD A ((T.setVm s.vm).setFrames (.invoking m args :: below)) ((T.setVm s.vm).setFrames (.invoking m args :: below)).heap := by rw [hhp]; exact vx_Zq.moved hW0.alike (hN.kept hS.2.1)
  obtain ⟨S, q, ce, st, Z, hce, hcl', hv⟩ := vx_npeAt Y hexec htr (n := nb) (vx_own hat' (vx_isRefq hU'.1) (vx_isRefq hN'.1) hU'.2.word hN'.2.word) (fun x hx => nomatch hx)
    (g := F0 m pc ls rest) rfl hsize hRframes (by show 2 * 0 + (rest.map fun v => v.category).sum + 10240 ≤ R.locals; omega) (by show 0 + 1 ≤ 1; omega) (by show 0 + nb ≤ nb; omega) hlocks
  obtain ⟨f1, f2⟩ := vx_frame Z.same
  have f1' : H.size ≤ S.heap.size := by rw [← hT]; exact f1
  have f2' : ∀ q : Nat, q < H.size → S.heap[q]? = H[q]? := fun q hq => by
    rw [← hT]
    exact f2 q (by rw [← hT] at hq; exact hq) (fun z hz => nomatch hz)
  have X5 := vx_back9 X Y Z
  have X6 : Stand p l e R s m args below meth c S locs (cells + 1) (slots + nb) := { X5 with same := X5.same.mono (by omega) (by omega) }
  obtain ⟨t, a1, b1⟩ := k S.heap q ce f1' f2' ⟨Nat.le_trans hS.1 f1', fun q h1 h2 => (f2' q (Nat.lt_of_lt_of_le h1 hS.1)).trans (hS.2.1 q h1 h2), hS.2.2⟩ hce hv hcl' S rfl X6
  exact ⟨t, st t a1, b1⟩
variable {Q : State → Prop} {cc : ByteArray} {pc : Nat} {ls : Array Slot} {rest : List Value}
theorem vx_idivZ (hexec : p.tables.exec = Jvm.exec) (hb : c.code = cc) {a b : Int32} (h0 : b = 0) (d : decode cc pc = .ok (.idiv, 1)) (k : vx_Note p l e R s m args below meth c H locs cells slots Q (F0 m pc ls rest) "java/lang/ArithmeticException" "/ by zero") :
    W p l e R s m args below meth c H locs cells slots Q (F0 m pc ls (.int b :: .int a :: rest)) := by
  intro T hT X
  obtain ⟨t, st, q⟩ := k T hT X
  exact ⟨t, X.idivZero hexec (g := F0 m pc ls (.int b :: .int a :: rest)) rfl (a := a) (rest := rest) (by rw [h0]) (by rw [hb]; exact d) t st, q⟩
theorem vx_iremZ (hexec : p.tables.exec = Jvm.exec) (hb : c.code = cc) {a b : Int32} (h0 : b = 0) (d : decode cc pc = .ok (.irem, 1)) (k : vx_Note p l e R s m args below meth c H locs cells slots Q (F0 m pc ls rest) "java/lang/ArithmeticException" "/ by zero") :
    W p l e R s m args below meth c H locs cells slots Q (F0 m pc ls (.int b :: .int a :: rest)) := by
  intro T hT X
  obtain ⟨t, st, q⟩ := k T hT X
  exact ⟨t, X.iremZero hexec (g := F0 m pc ls (.int b :: .int a :: rest)) rfl (a := a) (rest := rest) (by rw [h0]) (by rw [hb]; exact d) t st, q⟩
theorem vx_ldivZ (hexec : p.tables.exec = Jvm.exec) (hb : c.code = cc) {a b : Int64} (h0 : b = 0) (d : decode cc pc = .ok (.ldiv, 1)) (k : vx_Note p l e R s m args below meth c H locs cells slots Q (F0 m pc ls rest) "java/lang/ArithmeticException" "/ by zero") :
    W p l e R s m args below meth c H locs cells slots Q (F0 m pc ls (.long b :: .long a :: rest)) := by
  intro T hT X
  obtain ⟨t, st, q⟩ := k T hT X
  exact ⟨t, X.ldivZero hexec (g := F0 m pc ls (.long b :: .long a :: rest)) rfl (a := a) (rest := rest) (by rw [h0]) (by rw [hb]; exact d) t st, q⟩
theorem vx_lremZ (hexec : p.tables.exec = Jvm.exec) (hb : c.code = cc) {a b : Int64} (h0 : b = 0) (d : decode cc pc = .ok (.lrem, 1)) (k : vx_Note p l e R s m args below meth c H locs cells slots Q (F0 m pc ls rest) "java/lang/ArithmeticException" "/ by zero") :
    W p l e R s m args below meth c H locs cells slots Q (F0 m pc ls (.long b :: .long a :: rest)) := by
  intro T hT X
  obtain ⟨t, st, q⟩ := k T hT X
  exact ⟨t, X.lremZero hexec (g := F0 m pc ls (.long b :: .long a :: rest)) rfl (a := a) (rest := rest) (by rw [h0]) (by rw [hb]; exact d) t st, q⟩
theorem vx_ialdZ {D : va_G} {cl : List vw_C} {ws : va_W} {tys : List (ClassId × FieldType)} {a : Nat} (hexec : p.tables.exec = Jvm.exec) (hb : c.code = cc) (hK : va_K D cl tys s) (hP : va_P D cl ws H) (q0 t0 : Nat) {cA : ClassId} {n : Nat} {f : Nat → Int32} (ha : ws[q0]? = some (a, .inl (cA, n, .inl f))) (ht : tys[t0]? = some (cA, .int)) {i : Int32} (hout : ¬ vp_in i n) (hdg : decode cc pc = .ok (.iaload, 1))
    (k : ∀ tx : String, tx = (toString "Index " ++ toString i ++ toString " out of bounds for length " ++ toString n : String) → vx_Note p l e R s m args below meth c H locs cells slots Q (F0 m pc ls rest) "java/lang/ArrayIndexOutOfBoundsException" tx) : W p l e R s m args below meth c H locs cells slots Q (F0 m pc ls (.int i :: .ref a :: rest)) := by
  intro T hT X
  obtain ⟨t, st, q⟩ := k _ rfl T hT X
  refine ⟨t, ?_, q⟩
  have h1 := X.ialoadOut hexec (by rw [hT]; exact hP q0 _ ha) ((hK.2 t0 _ ht).1 n (fun j => .int (f j))) (j := i) (by show (i < 0 ∨ (arrV _ _ _).slots.size ≤ _); rw [arrV_size]; exact Classical.byContradiction hout) (g := F0 m pc ls (.int i :: .ref a :: rest)) rfl (rest := rest) rfl (by rw [hb]; exact hdg) t
  simp only [arrV_size] at h1
  exact h1 st
theorem vx_iastZ {D : va_G} {cl : List vw_C} {ws : va_W} {tys : List (ClassId × FieldType)} {a : Nat} (hexec : p.tables.exec = Jvm.exec) (hb : c.code = cc) (hK : va_K D cl tys s) (hP : va_P D cl ws H) (q0 t0 : Nat) {cA : ClassId} {n : Nat} {f : Nat → Int32} (ha : ws[q0]? = some (a, .inl (cA, n, .inl f))) (ht : tys[t0]? = some (cA, .int)) {i : Int32} {x : Int32} (hout : ¬ vp_in i n) (hdg : decode cc pc = .ok (.iastore, 1))
    (k : ∀ tx : String, tx = (toString "Index " ++ toString i ++ toString " out of bounds for length " ++ toString n : String) → vx_Note p l e R s m args below meth c H locs cells slots Q (F0 m pc ls rest) "java/lang/ArrayIndexOutOfBoundsException" tx) : W p l e R s m args below meth c H locs cells slots Q (F0 m pc ls (.int x :: .int i :: .ref a :: rest)) := by
  intro T hT X
  obtain ⟨t, st, q⟩ := k _ rfl T hT X
  refine ⟨t, ?_, q⟩
  have h1 := X.iastoreOut hexec (by rw [hT]; exact hP q0 _ ha) ((hK.2 t0 _ ht).1 n (fun j => .int (f j))) (j := i) (by show (i < 0 ∨ (arrV _ _ _).slots.size ≤ _); rw [arrV_size]; exact Classical.byContradiction hout) (g := F0 m pc ls (.int x :: .int i :: .ref a :: rest)) rfl (rest := rest) rfl (by rw [hb]; exact hdg) t
  simp only [arrV_size] at h1
  exact h1 st
theorem vx_baldZ {D : va_G} {cl : List vw_C} {ws : va_W} {tys : List (ClassId × FieldType)} {a : Nat} (hexec : p.tables.exec = Jvm.exec) (hb : c.code = cc) (hK : va_K D cl tys s) (hP : va_P D cl ws H) (q0 t0 : Nat) {cA : ClassId} {n : Nat} {f : Nat → Int32} (ha : ws[q0]? = some (a, .inl (cA, n, .inl f))) (ht : tys[t0]? = some (cA, .byte)) {i : Int32} (hout : ¬ vp_in i n) (hdg : decode cc pc = .ok (.baload, 1))
    (k : ∀ tx : String, tx = (toString "Index " ++ toString i ++ toString " out of bounds for length " ++ toString n : String) → vx_Note p l e R s m args below meth c H locs cells slots Q (F0 m pc ls rest) "java/lang/ArrayIndexOutOfBoundsException" tx) : W p l e R s m args below meth c H locs cells slots Q (F0 m pc ls (.int i :: .ref a :: rest)) := by
  intro T hT X
  obtain ⟨t, st, q⟩ := k _ rfl T hT X
  refine ⟨t, ?_, q⟩
  have h1 := X.baloadOut hexec (by rw [hT]; exact hP q0 _ ha) ((hK.2 t0 _ ht).1 n (fun j => .int (f j))) (j := i) (by show (i < 0 ∨ (arrV _ _ _).slots.size ≤ _); rw [arrV_size]; exact Classical.byContradiction hout) (g := F0 m pc ls (.int i :: .ref a :: rest)) rfl (rest := rest) rfl (by rw [hb]; exact hdg) t
  simp only [arrV_size] at h1
  exact h1 st
theorem vx_bastZ {D : va_G} {cl : List vw_C} {ws : va_W} {tys : List (ClassId × FieldType)} {a : Nat} (hexec : p.tables.exec = Jvm.exec) (hb : c.code = cc) (hK : va_K D cl tys s) (hP : va_P D cl ws H) (q0 t0 : Nat) {cA : ClassId} {n : Nat} {f : Nat → Int32} (ha : ws[q0]? = some (a, .inl (cA, n, .inl f))) (ht : tys[t0]? = some (cA, .byte)) {i : Int32} {x : Int32} (hout : ¬ vp_in i n) (hdg : decode cc pc = .ok (.bastore, 1))
    (k : ∀ tx : String, tx = (toString "Index " ++ toString i ++ toString " out of bounds for length " ++ toString n : String) → vx_Note p l e R s m args below meth c H locs cells slots Q (F0 m pc ls rest) "java/lang/ArrayIndexOutOfBoundsException" tx) : W p l e R s m args below meth c H locs cells slots Q (F0 m pc ls (.int x :: .int i :: .ref a :: rest)) := by
  intro T hT X
  obtain ⟨t, st, q⟩ := k _ rfl T hT X
  refine ⟨t, ?_, q⟩
  have h1 := X.bastoreOut hexec (by rw [hT]; exact hP q0 _ ha) ((hK.2 t0 _ ht).1 n (fun j => .int (f j))) (j := i) (by show (i < 0 ∨ (arrV _ _ _).slots.size ≤ _); rw [arrV_size]; exact Classical.byContradiction hout) (g := F0 m pc ls (.int x :: .int i :: .ref a :: rest)) rfl (rest := rest) rfl (by rw [hb]; exact hdg) t
  simp only [arrV_size] at h1
  exact h1 st
theorem vx_zaldZ {D : va_G} {cl : List vw_C} {ws : va_W} {tys : List (ClassId × FieldType)} {a : Nat} (hexec : p.tables.exec = Jvm.exec) (hb : c.code = cc) (hK : va_K D cl tys s) (hP : va_P D cl ws H) (q0 t0 : Nat) {cA : ClassId} {n : Nat} {f : Nat → Int32} (ha : ws[q0]? = some (a, .inl (cA, n, .inl f))) (ht : tys[t0]? = some (cA, .boolean)) {i : Int32} (hout : ¬ vp_in i n) (hdg : decode cc pc = .ok (.baload, 1))
    (k : ∀ tx : String, tx = (toString "Index " ++ toString i ++ toString " out of bounds for length " ++ toString n : String) → vx_Note p l e R s m args below meth c H locs cells slots Q (F0 m pc ls rest) "java/lang/ArrayIndexOutOfBoundsException" tx) : W p l e R s m args below meth c H locs cells slots Q (F0 m pc ls (.int i :: .ref a :: rest)) := by
  intro T hT X
  obtain ⟨t, st, q⟩ := k _ rfl T hT X
  refine ⟨t, ?_, q⟩
  have h1 := X.baloadOut hexec (by rw [hT]; exact hP q0 _ ha) ((hK.2 t0 _ ht).1 n (fun j => .int (f j))) (j := i) (by show (i < 0 ∨ (arrV _ _ _).slots.size ≤ _); rw [arrV_size]; exact Classical.byContradiction hout) (g := F0 m pc ls (.int i :: .ref a :: rest)) rfl (rest := rest) rfl (by rw [hb]; exact hdg) t
  simp only [arrV_size] at h1
  exact h1 st
theorem vx_zastZ {D : va_G} {cl : List vw_C} {ws : va_W} {tys : List (ClassId × FieldType)} {a : Nat} (hexec : p.tables.exec = Jvm.exec) (hb : c.code = cc) (hK : va_K D cl tys s) (hP : va_P D cl ws H) (q0 t0 : Nat) {cA : ClassId} {n : Nat} {f : Nat → Int32} (ha : ws[q0]? = some (a, .inl (cA, n, .inl f))) (ht : tys[t0]? = some (cA, .boolean)) {i : Int32} {x : Int32} (hout : ¬ vp_in i n) (hdg : decode cc pc = .ok (.bastore, 1))
    (k : ∀ tx : String, tx = (toString "Index " ++ toString i ++ toString " out of bounds for length " ++ toString n : String) → vx_Note p l e R s m args below meth c H locs cells slots Q (F0 m pc ls rest) "java/lang/ArrayIndexOutOfBoundsException" tx) : W p l e R s m args below meth c H locs cells slots Q (F0 m pc ls (.int x :: .int i :: .ref a :: rest)) := by
  intro T hT X
  obtain ⟨t, st, q⟩ := k _ rfl T hT X
  refine ⟨t, ?_, q⟩
  have h1 := X.bastoreOut hexec (by rw [hT]; exact hP q0 _ ha) ((hK.2 t0 _ ht).1 n (fun j => .int (f j))) (j := i) (by show (i < 0 ∨ (arrV _ _ _).slots.size ≤ _); rw [arrV_size]; exact Classical.byContradiction hout) (g := F0 m pc ls (.int x :: .int i :: .ref a :: rest)) rfl (rest := rest) rfl (by rw [hb]; exact hdg) t
  simp only [arrV_size] at h1
  exact h1 st
theorem vx_caldZ {D : va_G} {cl : List vw_C} {ws : va_W} {tys : List (ClassId × FieldType)} {a : Nat} (hexec : p.tables.exec = Jvm.exec) (hb : c.code = cc) (hK : va_K D cl tys s) (hP : va_P D cl ws H) (q0 t0 : Nat) {cA : ClassId} {n : Nat} {f : Nat → Int32} (ha : ws[q0]? = some (a, .inl (cA, n, .inl f))) (ht : tys[t0]? = some (cA, .char)) {i : Int32} (hout : ¬ vp_in i n) (hdg : decode cc pc = .ok (.caload, 1))
    (k : ∀ tx : String, tx = (toString "Index " ++ toString i ++ toString " out of bounds for length " ++ toString n : String) → vx_Note p l e R s m args below meth c H locs cells slots Q (F0 m pc ls rest) "java/lang/ArrayIndexOutOfBoundsException" tx) : W p l e R s m args below meth c H locs cells slots Q (F0 m pc ls (.int i :: .ref a :: rest)) := by
  intro T hT X
  obtain ⟨t, st, q⟩ := k _ rfl T hT X
  refine ⟨t, ?_, q⟩
  have h1 := X.caloadOut hexec (by rw [hT]; exact hP q0 _ ha) ((hK.2 t0 _ ht).1 n (fun j => .int (f j))) (j := i) (by show (i < 0 ∨ (arrV _ _ _).slots.size ≤ _); rw [arrV_size]; exact Classical.byContradiction hout) (g := F0 m pc ls (.int i :: .ref a :: rest)) rfl (rest := rest) rfl (by rw [hb]; exact hdg) t
  simp only [arrV_size] at h1
  exact h1 st
theorem vx_castZ {D : va_G} {cl : List vw_C} {ws : va_W} {tys : List (ClassId × FieldType)} {a : Nat} (hexec : p.tables.exec = Jvm.exec) (hb : c.code = cc) (hK : va_K D cl tys s) (hP : va_P D cl ws H) (q0 t0 : Nat) {cA : ClassId} {n : Nat} {f : Nat → Int32} (ha : ws[q0]? = some (a, .inl (cA, n, .inl f))) (ht : tys[t0]? = some (cA, .char)) {i : Int32} {x : Int32} (hout : ¬ vp_in i n) (hdg : decode cc pc = .ok (.castore, 1))
    (k : ∀ tx : String, tx = (toString "Index " ++ toString i ++ toString " out of bounds for length " ++ toString n : String) → vx_Note p l e R s m args below meth c H locs cells slots Q (F0 m pc ls rest) "java/lang/ArrayIndexOutOfBoundsException" tx) : W p l e R s m args below meth c H locs cells slots Q (F0 m pc ls (.int x :: .int i :: .ref a :: rest)) := by
  intro T hT X
  obtain ⟨t, st, q⟩ := k _ rfl T hT X
  refine ⟨t, ?_, q⟩
  have h1 := X.castoreOut hexec (by rw [hT]; exact hP q0 _ ha) ((hK.2 t0 _ ht).1 n (fun j => .int (f j))) (j := i) (by show (i < 0 ∨ (arrV _ _ _).slots.size ≤ _); rw [arrV_size]; exact Classical.byContradiction hout) (g := F0 m pc ls (.int x :: .int i :: .ref a :: rest)) rfl (rest := rest) rfl (by rw [hb]; exact hdg) t
  simp only [arrV_size] at h1
  exact h1 st
theorem vx_saldZ {D : va_G} {cl : List vw_C} {ws : va_W} {tys : List (ClassId × FieldType)} {a : Nat} (hexec : p.tables.exec = Jvm.exec) (hb : c.code = cc) (hK : va_K D cl tys s) (hP : va_P D cl ws H) (q0 t0 : Nat) {cA : ClassId} {n : Nat} {f : Nat → Int32} (ha : ws[q0]? = some (a, .inl (cA, n, .inl f))) (ht : tys[t0]? = some (cA, .short)) {i : Int32} (hout : ¬ vp_in i n) (hdg : decode cc pc = .ok (.saload, 1))
    (k : ∀ tx : String, tx = (toString "Index " ++ toString i ++ toString " out of bounds for length " ++ toString n : String) → vx_Note p l e R s m args below meth c H locs cells slots Q (F0 m pc ls rest) "java/lang/ArrayIndexOutOfBoundsException" tx) : W p l e R s m args below meth c H locs cells slots Q (F0 m pc ls (.int i :: .ref a :: rest)) := by
  intro T hT X
  obtain ⟨t, st, q⟩ := k _ rfl T hT X
  refine ⟨t, ?_, q⟩
  have h1 := X.saloadOut hexec (by rw [hT]; exact hP q0 _ ha) ((hK.2 t0 _ ht).1 n (fun j => .int (f j))) (j := i) (by show (i < 0 ∨ (arrV _ _ _).slots.size ≤ _); rw [arrV_size]; exact Classical.byContradiction hout) (g := F0 m pc ls (.int i :: .ref a :: rest)) rfl (rest := rest) rfl (by rw [hb]; exact hdg) t
  simp only [arrV_size] at h1
  exact h1 st
theorem vx_sastZ {D : va_G} {cl : List vw_C} {ws : va_W} {tys : List (ClassId × FieldType)} {a : Nat} (hexec : p.tables.exec = Jvm.exec) (hb : c.code = cc) (hK : va_K D cl tys s) (hP : va_P D cl ws H) (q0 t0 : Nat) {cA : ClassId} {n : Nat} {f : Nat → Int32} (ha : ws[q0]? = some (a, .inl (cA, n, .inl f))) (ht : tys[t0]? = some (cA, .short)) {i : Int32} {x : Int32} (hout : ¬ vp_in i n) (hdg : decode cc pc = .ok (.sastore, 1))
    (k : ∀ tx : String, tx = (toString "Index " ++ toString i ++ toString " out of bounds for length " ++ toString n : String) → vx_Note p l e R s m args below meth c H locs cells slots Q (F0 m pc ls rest) "java/lang/ArrayIndexOutOfBoundsException" tx) : W p l e R s m args below meth c H locs cells slots Q (F0 m pc ls (.int x :: .int i :: .ref a :: rest)) := by
  intro T hT X
  obtain ⟨t, st, q⟩ := k _ rfl T hT X
  refine ⟨t, ?_, q⟩
  have h1 := X.sastoreOut hexec (by rw [hT]; exact hP q0 _ ha) ((hK.2 t0 _ ht).1 n (fun j => .int (f j))) (j := i) (by show (i < 0 ∨ (arrV _ _ _).slots.size ≤ _); rw [arrV_size]; exact Classical.byContradiction hout) (g := F0 m pc ls (.int x :: .int i :: .ref a :: rest)) rfl (rest := rest) rfl (by rw [hb]; exact hdg) t
  simp only [arrV_size] at h1
  exact h1 st
theorem vx_laldZ {D : va_G} {cl : List vw_C} {ws : va_W} {tys : List (ClassId × FieldType)} {a : Nat} (hexec : p.tables.exec = Jvm.exec) (hb : c.code = cc) (hK : va_K D cl tys s) (hP : va_P D cl ws H) (q0 t0 : Nat) {cA : ClassId} {n : Nat} {f : Nat → Int64} (ha : ws[q0]? = some (a, .inl (cA, n, .inr (.inl f)))) (ht : tys[t0]? = some (cA, .long)) {i : Int32} (hout : ¬ vp_in i n) (hdg : decode cc pc = .ok (.laload, 1))
    (k : ∀ tx : String, tx = (toString "Index " ++ toString i ++ toString " out of bounds for length " ++ toString n : String) → vx_Note p l e R s m args below meth c H locs cells slots Q (F0 m pc ls rest) "java/lang/ArrayIndexOutOfBoundsException" tx) : W p l e R s m args below meth c H locs cells slots Q (F0 m pc ls (.int i :: .ref a :: rest)) := by
  intro T hT X
  obtain ⟨t, st, q⟩ := k _ rfl T hT X
  refine ⟨t, ?_, q⟩
  have h1 := X.laloadOut hexec (by rw [hT]; exact hP q0 _ ha) ((hK.2 t0 _ ht).1 n (fun j => .long (f j))) (j := i) (by show (i < 0 ∨ (arrV _ _ _).slots.size ≤ _); rw [arrV_size]; exact Classical.byContradiction hout) (g := F0 m pc ls (.int i :: .ref a :: rest)) rfl (rest := rest) rfl (by rw [hb]; exact hdg) t
  simp only [arrV_size] at h1
  exact h1 st
theorem vx_lastZ {D : va_G} {cl : List vw_C} {ws : va_W} {tys : List (ClassId × FieldType)} {a : Nat} (hexec : p.tables.exec = Jvm.exec) (hb : c.code = cc) (hK : va_K D cl tys s) (hP : va_P D cl ws H) (q0 t0 : Nat) {cA : ClassId} {n : Nat} {f : Nat → Int64} (ha : ws[q0]? = some (a, .inl (cA, n, .inr (.inl f)))) (ht : tys[t0]? = some (cA, .long)) {i : Int32} {x : Int64} (hout : ¬ vp_in i n) (hdg : decode cc pc = .ok (.lastore, 1))
    (k : ∀ tx : String, tx = (toString "Index " ++ toString i ++ toString " out of bounds for length " ++ toString n : String) → vx_Note p l e R s m args below meth c H locs cells slots Q (F0 m pc ls rest) "java/lang/ArrayIndexOutOfBoundsException" tx) : W p l e R s m args below meth c H locs cells slots Q (F0 m pc ls (.long x :: .int i :: .ref a :: rest)) := by
  intro T hT X
  obtain ⟨t, st, q⟩ := k _ rfl T hT X
  refine ⟨t, ?_, q⟩
  have h1 := X.lastoreOut hexec (by rw [hT]; exact hP q0 _ ha) ((hK.2 t0 _ ht).1 n (fun j => .long (f j))) (j := i) (by show (i < 0 ∨ (arrV _ _ _).slots.size ≤ _); rw [arrV_size]; exact Classical.byContradiction hout) (g := F0 m pc ls (.long x :: .int i :: .ref a :: rest)) rfl (rest := rest) rfl (by rw [hb]; exact hdg) t
  simp only [arrV_size] at h1
  exact h1 st
theorem vx_faldZ {D : va_G} {cl : List vw_C} {ws : va_W} {tys : List (ClassId × FieldType)} {a : Nat} (hexec : p.tables.exec = Jvm.exec) (hb : c.code = cc) (hK : va_K D cl tys s) (hP : va_P D cl ws H) (q0 t0 : Nat) {cA : ClassId} {n : Nat} {f : Nat → UInt32} (ha : ws[q0]? = some (a, .inl (cA, n, .inr (.inr (.inl f))))) (ht : tys[t0]? = some (cA, .float)) {i : Int32} (hout : ¬ vp_in i n) (hdg : decode cc pc = .ok (.faload, 1))
    (k : ∀ tx : String, tx = (toString "Index " ++ toString i ++ toString " out of bounds for length " ++ toString n : String) → vx_Note p l e R s m args below meth c H locs cells slots Q (F0 m pc ls rest) "java/lang/ArrayIndexOutOfBoundsException" tx) : W p l e R s m args below meth c H locs cells slots Q (F0 m pc ls (.int i :: .ref a :: rest)) := by
  intro T hT X
  obtain ⟨t, st, q⟩ := k _ rfl T hT X
  refine ⟨t, ?_, q⟩
  have h1 := X.faloadOut hexec (by rw [hT]; exact hP q0 _ ha) ((hK.2 t0 _ ht).1 n (fun j => .float (f j))) (j := i) (by show (i < 0 ∨ (arrV _ _ _).slots.size ≤ _); rw [arrV_size]; exact Classical.byContradiction hout) (g := F0 m pc ls (.int i :: .ref a :: rest)) rfl (rest := rest) rfl (by rw [hb]; exact hdg) t
  simp only [arrV_size] at h1
  exact h1 st
theorem vx_fastZ {D : va_G} {cl : List vw_C} {ws : va_W} {tys : List (ClassId × FieldType)} {a : Nat} (hexec : p.tables.exec = Jvm.exec) (hb : c.code = cc) (hK : va_K D cl tys s) (hP : va_P D cl ws H) (q0 t0 : Nat) {cA : ClassId} {n : Nat} {f : Nat → UInt32} (ha : ws[q0]? = some (a, .inl (cA, n, .inr (.inr (.inl f))))) (ht : tys[t0]? = some (cA, .float)) {i : Int32} {x : UInt32} (hout : ¬ vp_in i n) (hdg : decode cc pc = .ok (.fastore, 1))
    (k : ∀ tx : String, tx = (toString "Index " ++ toString i ++ toString " out of bounds for length " ++ toString n : String) → vx_Note p l e R s m args below meth c H locs cells slots Q (F0 m pc ls rest) "java/lang/ArrayIndexOutOfBoundsException" tx) : W p l e R s m args below meth c H locs cells slots Q (F0 m pc ls (.float x :: .int i :: .ref a :: rest)) := by
  intro T hT X
  obtain ⟨t, st, q⟩ := k _ rfl T hT X
  refine ⟨t, ?_, q⟩
  have h1 := X.fastoreOut hexec (by rw [hT]; exact hP q0 _ ha) ((hK.2 t0 _ ht).1 n (fun j => .float (f j))) (j := i) (by show (i < 0 ∨ (arrV _ _ _).slots.size ≤ _); rw [arrV_size]; exact Classical.byContradiction hout) (g := F0 m pc ls (.float x :: .int i :: .ref a :: rest)) rfl (rest := rest) rfl (by rw [hb]; exact hdg) t
  simp only [arrV_size] at h1
  exact h1 st
theorem vx_daldZ {D : va_G} {cl : List vw_C} {ws : va_W} {tys : List (ClassId × FieldType)} {a : Nat} (hexec : p.tables.exec = Jvm.exec) (hb : c.code = cc) (hK : va_K D cl tys s) (hP : va_P D cl ws H) (q0 t0 : Nat) {cA : ClassId} {n : Nat} {f : Nat → UInt64} (ha : ws[q0]? = some (a, .inl (cA, n, .inr (.inr (.inr (.inl f)))))) (ht : tys[t0]? = some (cA, .double)) {i : Int32} (hout : ¬ vp_in i n) (hdg : decode cc pc = .ok (.daload, 1))
    (k : ∀ tx : String, tx = (toString "Index " ++ toString i ++ toString " out of bounds for length " ++ toString n : String) → vx_Note p l e R s m args below meth c H locs cells slots Q (F0 m pc ls rest) "java/lang/ArrayIndexOutOfBoundsException" tx) : W p l e R s m args below meth c H locs cells slots Q (F0 m pc ls (.int i :: .ref a :: rest)) := by
  intro T hT X
  obtain ⟨t, st, q⟩ := k _ rfl T hT X
  refine ⟨t, ?_, q⟩
  have h1 := X.daloadOut hexec (by rw [hT]; exact hP q0 _ ha) ((hK.2 t0 _ ht).1 n (fun j => .double (f j))) (j := i) (by show (i < 0 ∨ (arrV _ _ _).slots.size ≤ _); rw [arrV_size]; exact Classical.byContradiction hout) (g := F0 m pc ls (.int i :: .ref a :: rest)) rfl (rest := rest) rfl (by rw [hb]; exact hdg) t
  simp only [arrV_size] at h1
  exact h1 st
theorem vx_dastZ {D : va_G} {cl : List vw_C} {ws : va_W} {tys : List (ClassId × FieldType)} {a : Nat} (hexec : p.tables.exec = Jvm.exec) (hb : c.code = cc) (hK : va_K D cl tys s) (hP : va_P D cl ws H) (q0 t0 : Nat) {cA : ClassId} {n : Nat} {f : Nat → UInt64} (ha : ws[q0]? = some (a, .inl (cA, n, .inr (.inr (.inr (.inl f)))))) (ht : tys[t0]? = some (cA, .double)) {i : Int32} {x : UInt64} (hout : ¬ vp_in i n) (hdg : decode cc pc = .ok (.dastore, 1))
    (k : ∀ tx : String, tx = (toString "Index " ++ toString i ++ toString " out of bounds for length " ++ toString n : String) → vx_Note p l e R s m args below meth c H locs cells slots Q (F0 m pc ls rest) "java/lang/ArrayIndexOutOfBoundsException" tx) : W p l e R s m args below meth c H locs cells slots Q (F0 m pc ls (.double x :: .int i :: .ref a :: rest)) := by
  intro T hT X
  obtain ⟨t, st, q⟩ := k _ rfl T hT X
  refine ⟨t, ?_, q⟩
  have h1 := X.dastoreOut hexec (by rw [hT]; exact hP q0 _ ha) ((hK.2 t0 _ ht).1 n (fun j => .double (f j))) (j := i) (by show (i < 0 ∨ (arrV _ _ _).slots.size ≤ _); rw [arrV_size]; exact Classical.byContradiction hout) (g := F0 m pc ls (.double x :: .int i :: .ref a :: rest)) rfl (rest := rest) rfl (by rw [hb]; exact hdg) t
  simp only [arrV_size] at h1
  exact h1 st
theorem vx_arraylengthN (hexec : p.tables.exec = Jvm.exec) (hb : c.code = cc) (hdg : decode cc pc = .ok (.arraylength, 1)) (k : vx_NoteN p l e R s m args below meth c H locs cells slots Q (F0 m pc ls rest)) : W p l e R s m args below meth c H locs cells slots Q (F0 m pc ls (.null :: rest)) := by
  intro T hT X
  obtain ⟨t, st, q⟩ := k T hT X
  exact ⟨t, X.arraylengthNull hexec (g := F0 m pc ls (.null :: rest)) rfl (rest := rest) rfl (by rw [hb]; exact hdg) t st, q⟩
theorem vx_ialoadN (hexec : p.tables.exec = Jvm.exec) (hb : c.code = cc) {i : Int32} (hdg : decode cc pc = .ok (.iaload, 1)) (k : vx_NoteN p l e R s m args below meth c H locs cells slots Q (F0 m pc ls rest)) : W p l e R s m args below meth c H locs cells slots Q (F0 m pc ls (.int i :: .null :: rest)) := by
  intro T hT X
  obtain ⟨t, st, q⟩ := k T hT X
  exact ⟨t, X.ialoadNull hexec (g := F0 m pc ls (.int i :: .null :: rest)) rfl (rest := rest) rfl (by rw [hb]; exact hdg) t st, q⟩
theorem vx_laloadN (hexec : p.tables.exec = Jvm.exec) (hb : c.code = cc) {i : Int32} (hdg : decode cc pc = .ok (.laload, 1)) (k : vx_NoteN p l e R s m args below meth c H locs cells slots Q (F0 m pc ls rest)) : W p l e R s m args below meth c H locs cells slots Q (F0 m pc ls (.int i :: .null :: rest)) := by
  intro T hT X
  obtain ⟨t, st, q⟩ := k T hT X
  exact ⟨t, X.laloadNull hexec (g := F0 m pc ls (.int i :: .null :: rest)) rfl (rest := rest) rfl (by rw [hb]; exact hdg) t st, q⟩
theorem vx_faloadN (hexec : p.tables.exec = Jvm.exec) (hb : c.code = cc) {i : Int32} (hdg : decode cc pc = .ok (.faload, 1)) (k : vx_NoteN p l e R s m args below meth c H locs cells slots Q (F0 m pc ls rest)) : W p l e R s m args below meth c H locs cells slots Q (F0 m pc ls (.int i :: .null :: rest)) := by
  intro T hT X
  obtain ⟨t, st, q⟩ := k T hT X
  exact ⟨t, X.faloadNull hexec (g := F0 m pc ls (.int i :: .null :: rest)) rfl (rest := rest) rfl (by rw [hb]; exact hdg) t st, q⟩
theorem vx_daloadN (hexec : p.tables.exec = Jvm.exec) (hb : c.code = cc) {i : Int32} (hdg : decode cc pc = .ok (.daload, 1)) (k : vx_NoteN p l e R s m args below meth c H locs cells slots Q (F0 m pc ls rest)) : W p l e R s m args below meth c H locs cells slots Q (F0 m pc ls (.int i :: .null :: rest)) := by
  intro T hT X
  obtain ⟨t, st, q⟩ := k T hT X
  exact ⟨t, X.daloadNull hexec (g := F0 m pc ls (.int i :: .null :: rest)) rfl (rest := rest) rfl (by rw [hb]; exact hdg) t st, q⟩
theorem vx_aaloadN (hexec : p.tables.exec = Jvm.exec) (hb : c.code = cc) {i : Int32} (hdg : decode cc pc = .ok (.aaload, 1)) (k : vx_NoteN p l e R s m args below meth c H locs cells slots Q (F0 m pc ls rest)) : W p l e R s m args below meth c H locs cells slots Q (F0 m pc ls (.int i :: .null :: rest)) := by
  intro T hT X
  obtain ⟨t, st, q⟩ := k T hT X
  exact ⟨t, X.aaloadNull hexec (g := F0 m pc ls (.int i :: .null :: rest)) rfl (rest := rest) rfl (by rw [hb]; exact hdg) t st, q⟩
theorem vx_baloadN (hexec : p.tables.exec = Jvm.exec) (hb : c.code = cc) {i : Int32} (hdg : decode cc pc = .ok (.baload, 1)) (k : vx_NoteN p l e R s m args below meth c H locs cells slots Q (F0 m pc ls rest)) : W p l e R s m args below meth c H locs cells slots Q (F0 m pc ls (.int i :: .null :: rest)) := by
  intro T hT X
  obtain ⟨t, st, q⟩ := k T hT X
  exact ⟨t, X.baloadNull hexec (g := F0 m pc ls (.int i :: .null :: rest)) rfl (rest := rest) rfl (by rw [hb]; exact hdg) t st, q⟩
theorem vx_caloadN (hexec : p.tables.exec = Jvm.exec) (hb : c.code = cc) {i : Int32} (hdg : decode cc pc = .ok (.caload, 1)) (k : vx_NoteN p l e R s m args below meth c H locs cells slots Q (F0 m pc ls rest)) : W p l e R s m args below meth c H locs cells slots Q (F0 m pc ls (.int i :: .null :: rest)) := by
  intro T hT X
  obtain ⟨t, st, q⟩ := k T hT X
  exact ⟨t, X.caloadNull hexec (g := F0 m pc ls (.int i :: .null :: rest)) rfl (rest := rest) rfl (by rw [hb]; exact hdg) t st, q⟩
theorem vx_saloadN (hexec : p.tables.exec = Jvm.exec) (hb : c.code = cc) {i : Int32} (hdg : decode cc pc = .ok (.saload, 1)) (k : vx_NoteN p l e R s m args below meth c H locs cells slots Q (F0 m pc ls rest)) : W p l e R s m args below meth c H locs cells slots Q (F0 m pc ls (.int i :: .null :: rest)) := by
  intro T hT X
  obtain ⟨t, st, q⟩ := k T hT X
  exact ⟨t, X.saloadNull hexec (g := F0 m pc ls (.int i :: .null :: rest)) rfl (rest := rest) rfl (by rw [hb]; exact hdg) t st, q⟩
theorem vx_iastoreN (hexec : p.tables.exec = Jvm.exec) (hb : c.code = cc) {x : Int32} {i : Int32} (hdg : decode cc pc = .ok (.iastore, 1)) (k : vx_NoteN p l e R s m args below meth c H locs cells slots Q (F0 m pc ls rest)) : W p l e R s m args below meth c H locs cells slots Q (F0 m pc ls (.int x :: .int i :: .null :: rest)) := by
  intro T hT X
  obtain ⟨t, st, q⟩ := k T hT X
  exact ⟨t, X.iastoreNull hexec (g := F0 m pc ls (.int x :: .int i :: .null :: rest)) rfl (rest := rest) rfl (by rw [hb]; exact hdg) t st, q⟩
theorem vx_lastoreN (hexec : p.tables.exec = Jvm.exec) (hb : c.code = cc) {x : Int64} {i : Int32} (hdg : decode cc pc = .ok (.lastore, 1)) (k : vx_NoteN p l e R s m args below meth c H locs cells slots Q (F0 m pc ls rest)) : W p l e R s m args below meth c H locs cells slots Q (F0 m pc ls (.long x :: .int i :: .null :: rest)) := by
  intro T hT X
  obtain ⟨t, st, q⟩ := k T hT X
  exact ⟨t, X.lastoreNull hexec (g := F0 m pc ls (.long x :: .int i :: .null :: rest)) rfl (rest := rest) rfl (by rw [hb]; exact hdg) t st, q⟩
theorem vx_fastoreN (hexec : p.tables.exec = Jvm.exec) (hb : c.code = cc) {x : UInt32} {i : Int32} (hdg : decode cc pc = .ok (.fastore, 1)) (k : vx_NoteN p l e R s m args below meth c H locs cells slots Q (F0 m pc ls rest)) : W p l e R s m args below meth c H locs cells slots Q (F0 m pc ls (.float x :: .int i :: .null :: rest)) := by
  intro T hT X
  obtain ⟨t, st, q⟩ := k T hT X
  exact ⟨t, X.fastoreNull hexec (g := F0 m pc ls (.float x :: .int i :: .null :: rest)) rfl (rest := rest) rfl (by rw [hb]; exact hdg) t st, q⟩
theorem vx_dastoreN (hexec : p.tables.exec = Jvm.exec) (hb : c.code = cc) {x : UInt64} {i : Int32} (hdg : decode cc pc = .ok (.dastore, 1)) (k : vx_NoteN p l e R s m args below meth c H locs cells slots Q (F0 m pc ls rest)) : W p l e R s m args below meth c H locs cells slots Q (F0 m pc ls (.double x :: .int i :: .null :: rest)) := by
  intro T hT X
  obtain ⟨t, st, q⟩ := k T hT X
  exact ⟨t, X.dastoreNull hexec (g := F0 m pc ls (.double x :: .int i :: .null :: rest)) rfl (rest := rest) rfl (by rw [hb]; exact hdg) t st, q⟩
theorem vx_bastoreN (hexec : p.tables.exec = Jvm.exec) (hb : c.code = cc) {x : Int32} {i : Int32} (hdg : decode cc pc = .ok (.bastore, 1)) (k : vx_NoteN p l e R s m args below meth c H locs cells slots Q (F0 m pc ls rest)) : W p l e R s m args below meth c H locs cells slots Q (F0 m pc ls (.int x :: .int i :: .null :: rest)) := by
  intro T hT X
  obtain ⟨t, st, q⟩ := k T hT X
  exact ⟨t, X.bastoreNull hexec (g := F0 m pc ls (.int x :: .int i :: .null :: rest)) rfl (rest := rest) rfl (by rw [hb]; exact hdg) t st, q⟩
theorem vx_castoreN (hexec : p.tables.exec = Jvm.exec) (hb : c.code = cc) {x : Int32} {i : Int32} (hdg : decode cc pc = .ok (.castore, 1)) (k : vx_NoteN p l e R s m args below meth c H locs cells slots Q (F0 m pc ls rest)) : W p l e R s m args below meth c H locs cells slots Q (F0 m pc ls (.int x :: .int i :: .null :: rest)) := by
  intro T hT X
  obtain ⟨t, st, q⟩ := k T hT X
  exact ⟨t, X.castoreNull hexec (g := F0 m pc ls (.int x :: .int i :: .null :: rest)) rfl (rest := rest) rfl (by rw [hb]; exact hdg) t st, q⟩
theorem vx_sastoreN (hexec : p.tables.exec = Jvm.exec) (hb : c.code = cc) {x : Int32} {i : Int32} (hdg : decode cc pc = .ok (.sastore, 1)) (k : vx_NoteN p l e R s m args below meth c H locs cells slots Q (F0 m pc ls rest)) : W p l e R s m args below meth c H locs cells slots Q (F0 m pc ls (.int x :: .int i :: .null :: rest)) := by
  intro T hT X
  obtain ⟨t, st, q⟩ := k T hT X
  exact ⟨t, X.sastoreNull hexec (g := F0 m pc ls (.int x :: .int i :: .null :: rest)) rfl (rest := rest) rfl (by rw [hb]; exact hdg) t st, q⟩
theorem vx_invokeN {own C : String} {index maxL : Nat} {y : MethodName} {bytes : ByteArray} {ret : Option FieldType} (hexec : p.tables.exec = Jvm.exec) (hb : c.code = cc) (hown : s.vm.findClass own = some m.cls) (hlink : (Cond.methodLink own index y).before args s = true) (hinst : (Cond.instanceMethod y).before args s = true) (hcode : (Cond.code y bytes maxL ret).before args s = true) (hsel : (Cond.selects C y y).before args s = true)
    (hx : y.cls ≠ "java/lang/invoke/MethodHandle" ∧ y.cls ≠ "java/lang/invoke/VarHandle") {As : List Value} (hlen : (parseMethodDescriptor y.desc).map (fun d => d.parameters.length) = some As.length) (hdg : decode cc pc = .ok (.invokevirtual index, 3))
    (k : vx_NoteN p l e R s m args below meth c H locs cells slots Q (F0 m pc ls rest)) {st0 : List Value} (hst : st0 = As.reverse ++ .null :: rest) : W p l e R s m args below meth c H locs cells slots Q (F0 m pc ls st0) := by
  intro T hT X
  obtain ⟨r0, r, hn, hrm, hstR, hsigR⟩ := va_Decl.of hinst hcode
  obtain ⟨c2, r2, m2, q1, q2, q3, q4, kP, hkP, hkPi⟩ := Cond.selects_spec hsel
  cases hn.symm.trans q3
  have hl9 : As.length = r.sig.parameters.length := by
    rw [hsigR] at hlen
    exact (Option.some.inj hlen).symm
  obtain ⟨vm', X1, st1⟩ := X.invokevirtualNull hexec hown hlink hn hrm hstR hkP hkPi hx (g := F0 m pc ls st0) rfl (argsL := As) (rest := rest) hl9 hst (by rw [hb]; exact hdg)
  obtain ⟨t, st, q⟩ := k (T.setVm vm') hT X1
  exact ⟨t, st1 t st, q⟩
theorem vx_newarrayZ {atype : ArrayType} (hexec : p.tables.exec = Jvm.exec) (hb : c.code = cc) {n : Int32} (h0 : n < 0) (hdg : decode cc pc = .ok (.newarray atype, 2)) (k : ∀ tx : String, tx = toString n → vx_Note p l e R s m args below meth c H locs cells slots Q (F0 m pc ls rest) "java/lang/NegativeArraySizeException" tx) : W p l e R s m args below meth c H locs cells slots Q (F0 m pc ls (.int n :: rest)) := by
  intro T hT X
  obtain ⟨t, st, q⟩ := k _ rfl T hT X
  exact ⟨t, X.newarrayNegative hexec (g := F0 m pc ls (.int n :: rest)) rfl h0 (rest := rest) rfl (by rw [hb]; exact hdg) t st, q⟩
end
end VXM
/-! ===== END ===== -/
/-! ===== BEGIN an exception as an object: made, kept, thrown later (no traces kept) ===== -/
section VXK
variable {p : Program} {l : Launch} {e : Env} {R : Room} {s : State} {m₀ : MethodId} {args : Array Value} {below : List Frame} {meth : Method} {c : Code} {W : State} {locs : List Loc} {cells slots : Nat}
set_option maxHeartbeats 1000000 in
theorem vx_ctorMadeS (X : Stand p l e R s m₀ args below meth c W locs cells slots) (hexec : p.tables.exec = Jvm.exec) (htr : e.platform.stackTraces = false) {own cls : String} {names : List String} {ic : Nat}
    (hown : s.vm.findClass own = some m₀.cls) (hcls : Bundle.fit cls = true) (hnames : ∀ n ∈ names, Bundle.fit n = true)
    (h : ∀ a ∈ Bundle.ownAtoms own ic cls names, a.before args s = true)
    (hlocs : ∀ x ∈ locs, ∀ cell, s.heap[x.base]? = some cell → cell.vm.isStatics = false)
    {a : Addr} {cX : ClassId} {kX : Class} (hfoundX : s.vm.findClass cls = some cX) (hkX : s.vm.classes[cX]? = some kX) (hcell : W.heap[a]? = some (freshCell cX kX)) (hnew : s.heap.size ≤ a)
    {msg : Value} (hmsg : msg.isRef = true)
    {g : JFrame} (hg : g.method = m₀) (hsize : g.locals.size = c.maxLocals) {rest : List Value} (hstack : g.stack = msg :: .ref a :: .ref a :: rest)
    (hd6 : decode c.code g.pc = .ok (.invokespecial ic, 3))
    (hRframes : names.length + 3 < R.frames) (hRlocals : 2 * g.monitorRoom + ((Value.ref a :: rest).map fun v => v.category).sum + (13 * (names.length + 1) + 42) ≤ R.locals) :
    ∃ (V : State) (ce : Cell) (L : List Loc), Stand p l e R s m₀ args below meth c (V.setCell a ce) (locs ++ L) cells slots ∧ (∀ y ∈ L, y.base = a) ∧ a < V.heap.size ∧ ce.cls = cX ∧ ce.vm = .none ∧
      ∀ target, Steps p.tables e below ((V.setCell a ce).setTop { g with stack := .ref a :: rest, pc := g.pc + 3 }) target → Steps p.tables e below (W.setTop g) target := by
  have howns : e.platform.frameOwnsMonitors = true := by rw [X.admits.platform]
  have hfin : e.platform.finalization = false := by rw [X.admits.platform]
  have hpl : e.platform.magicAccessors = ({} : Platform).magicAccessors := by rw [X.admits.platform]
  have a' : ∀ x, x ∈ Bundle.ownAtoms own ic cls names → x.holds args s none s [] = true := fun x hx => h x hx
  obtain ⟨T, Z0, L, -, Y⟩ := ThrowableC.of_atoms (args := args) howns hfin hpl (fun x hx => h x (by simp [Bundle.ownAtoms, hx]))
  obtain ⟨Z, M, LZ, LM, hnZ⟩ := Init0T.ofS_atoms (args := args) hpl L Y (fun x hx => h x (by simp [Bundle.ownAtoms, hx]))
  obtain ⟨P1, Ps, hlen, L1, hL, hP1m, hlink1, hlink⟩ := Bundle.chainS (args := args) hpl hnZ names cls hcls hnames (fun x hx => h x (by simp [Bundle.ownAtoms, hx]))
  have hfound : s.vm.findClass cls = some P1.m.cls := findClass_of_methodNamed hP1m
  cases Option.some.inj (hfoundX.symm.trans hfound)
  obtain ⟨c1, kX', hc1, hk, hord, -, -, hn6⟩ := Cond.instantiable_spec (a' (.instantiable cls 6) (by simp [Bundle.ownAtoms]))
  cases Option.some.inj (hc1.symm.trans hfound)
  cases Option.some.inj (hkX.symm.trans hk)
  have hsel0 : selectMethod e.platform s.vm P1.m.cls T.fill0 = .method T.fill0 := by
    obtain ⟨c2, r2, m2, q1, q2, q3, q4, -⟩ := Cond.selects_spec (a' (.selects cls Bundle.tFill0 Bundle.tFill0) (by simp [Bundle.ownAtoms]))
    cases Option.some.inj (q1.symm.trans hfound)
    cases Option.some.inj (q2.symm.trans (State.methodFound?_of_named Y.fill0 (by decide)))
    cases Option.some.inj (q3.symm.trans Y.fill0)
    rw [Launch.admits_selectMethod X.admits]; exact q4
  have hselF : selectMethod e.platform s.vm P1.m.cls T.fill = .method T.fill := by
    obtain ⟨c2, r2, m2, q1, q2, q3, q4, -⟩ := Cond.selects_spec (a' (.selects cls Bundle.tFill Bundle.tFill) (by simp [Bundle.ownAtoms]))
    cases Option.some.inj (q1.symm.trans hfound)
    cases Option.some.inj (q2.symm.trans (State.methodFound?_of_named Y.fill (by decide)))
    cases Option.some.inj (q3.symm.trans Y.fill)
    rw [Launch.admits_selectMethod X.admits]; exact q4
  obtain ⟨cellS0, hcS0, hiss⟩ := Y.statics
  obtain ⟨u0, hu0⟩ := Cond.staticRefV Y.unassigned L.unassignedStatic L.statics hcS0 hiss (a' (.isRef (.static Bundle.tN "UNASSIGNED_STACK" Bundle.steD)) (by simp [Bundle.ownAtoms]))
  obtain ⟨sen, hsen⟩ := Cond.staticRefV Y.sentinel L.sentinelStatic L.statics hcS0 hiss (a' (.isRef (.static Bundle.tN "SUPPRESSED_SENTINEL" Bundle.listD)) (by simp [Bundle.ownAtoms]))
  obtain ⟨ci198, i198, fB, hk198, hg198, ha198, hsB, -, hnB, htB, hffB⟩ := Cond.ownField (t := .object "java/lang/Object") Y.found L.cls (by decide +kernel) (a' (.fieldLink Bundle.tN 198 Bundle.tN "backtrace" "Ljava/lang/Object;") (by simp [Bundle.ownAtoms])) (a' (.lays Bundle.tN Bundle.tN "backtrace" "Ljava/lang/Object;") (by simp [Bundle.ownAtoms])) e.platform hpl
  obtain ⟨cellS, hcS', heS, -, hkeep⟩ := X.same.2.2.2.2.2 T.aS cellS0 hcS0
  have hcellS : W.heap[T.aS]? = some cellS := hcS'
  have hout' : ∀ i, (⟨T.aS, i⟩ : Loc) ∉ locs := fun i hmem => by
    have := hlocs _ hmem cellS0 hcS0
    rw [hiss] at this; cases this
  have hknownS : cellS.vm ≠ .unknown := by
    rw [heS]; intro hu
    rw [show cellS0.vm = .unknown from hu] at hiss
    cases hiss
  have hneS : T.aS ≠ a := Nat.ne_of_lt (Nat.lt_of_lt_of_le (Array.getElem?_eq_some_iff.mp hcS0).1 hnew)
  obtain ⟨iM, hffM⟩ := Y.msg
  obtain ⟨tyC, dC, hdC, hdnC⟩ := Cond.laysAt hfound hk Y.cause (a' (.lays cls Bundle.tN "cause" "Ljava/lang/Throwable;") (by simp [Bundle.ownAtoms]))
  obtain ⟨tyS, dS, hdS, hdnS⟩ := Cond.laysAt hfound hk Y.stack (a' (.lays cls Bundle.tN "stackTrace" Bundle.steD) (by simp [Bundle.ownAtoms]))
  obtain ⟨tyP, dP, hdP, hdnP⟩ := Cond.laysAt hfound hk Y.supp (a' (.lays cls Bundle.tN "suppressedExceptions" Bundle.listD) (by simp [Bundle.ownAtoms]))
  obtain ⟨tyM, dM, hdM, hdnM⟩ := Cond.laysAt hfound hk hffM (a' (.lays cls Bundle.tN "detailMessage" "Ljava/lang/String;") (by simp [Bundle.ownAtoms]))
  obtain ⟨tyB, dB, hdB, hdnB⟩ := Cond.laysAt hfound hk hffB (a' (.lays cls Bundle.tN "backtrace" "Ljava/lang/Object;") (by simp [Bundle.ownAtoms]))
  have bC := Cond.laysApart hdB hdC hdnB hdnC (by rw [hnB, Y.causeName]; decide)
  have bS := Cond.laysApart hdB hdS hdnB hdnS (by rw [hnB, Y.stackName]; decide)
  have bP := Cond.laysApart hdB hdP hdnB hdnP (by rw [hnB, Y.suppName]; decide)
  have hskip : SkipFacts T e.platform s (fun u => u) u0 ((preparedCellV T.toThrowableT (freshCell P1.m.cls kX) a u0 sen).withEntry W.cur) :=
    ⟨{ ci198 := ci198, i198 := i198, fBack := fB }, ⟨hk198, hg198, ha198, hsB⟩, by
      have := fresh_default (c := P1.m.cls) tyB
      rw [htB] at this
      simpa [preparedCellV, Cell.setSlot, Cell.withEntry, Array.getElem?_setIfInBounds, bC, bS, bP, bC.symm, bS.symm, bP.symm, defaultValue] using this, fun _ _ => rfl⟩
  obtain ⟨tm, methC, cdC, kC, vm₁, hnC, -, -, -, -, -, -, -, hW₁, st1⟩ := Steps.initColdS (tb := p.tables) (e := e) (below := below) (s := s) (U := W) X.here hexec X.warmed hpl hown (t := Bundle.initS cls) rfl rfl (Bundle.fit_spec hcls).2
    (a' (.methodLink own ic (Bundle.initS cls)) (by simp [Bundle.ownAtoms])) (h (.instanceMethod (Bundle.initS cls)) (by cases names <;> simp [Bundle.ownAtoms, Bundle.chainSAtoms, Bundle.passSAtoms])) (bytes := Bundle.six) (maxL := 2) (h (.code (Bundle.initS cls) Bundle.six 2 none) (by cases names <;> simp [Bundle.ownAtoms, Bundle.chainSAtoms, Bundle.passSAtoms]))
    (f := g) hg (a := a) (msg := msg) (rest := .ref a :: rest) hstack hd6
  cases Option.some.inj (hnC.symm.trans hP1m)
  have X₁ := X.noted hW₁
  obtain ⟨vm₂, X₂, st2⟩ := X₁.ctorMessageOffV hexec (g := { g with stack := .ref a :: rest }) hg hsize T L Z LZ M LM (P1 :: Ps)
    (fun P hP => by rcases List.mem_cons.mp hP with rfl | hP; exact L1; exact hL P hP) ⟨hlink1, hlink⟩ (u0 := u0) (sen := sen) (self := a) hmsg (cell := freshCell P1.m.cls kX) (cellS := cellS)
    hcell (fun _ => by simp) (by simp) rfl rfl hsel0 hselF hcellS hneS hknownS (by rw [hkeep _ (hout' _)]; exact hu0) (by rw [hkeep _ (hout' _)]; exact hsen)
    (Takes.of_laid hk hord tyC (by rw [Y.causeType]; rfl)) (Takes.of_laid hk hord tyS (by rw [Y.stackType]; exact fits_refV_array _ u0)) (Takes.of_laid hk hord tyP (by rw [Y.suppType]; exact fits_refV_object _ sen))
    (Takes.of_laid hk hord tyM (by rw [Y.msgType]; exact fits_refV_object _ ⟨msg, hmsg⟩)) Y.objLocals hskip htr [] hd6
    (by simp only [List.length_cons, hlen]; omega) (by simp only [List.length_cons, hlen]; exact hRlocals)
  have hlt : a < ((W.setVm vm₁).setVm vm₂).heap.size := (Array.getElem?_eq_some_iff.mp hcell).1
  refine ⟨(W.setVm vm₁).setVm vm₂, _, _, X₂, fun y hy => ?_, hlt, rfl, rfl, fun target hwalk => st1 _ (fun acts => ?_)⟩
  · simp only [List.mem_cons, List.not_mem_nil, or_false] at hy
    rcases hy with rfl | rfl | rfl | rfl | rfl <;> rfl
  · rw [doInvoke_state]
    exact st2 _ hwalk
set_option maxHeartbeats 1000000 in
theorem vx_ctorMade0 (X : Stand p l e R s m₀ args below meth c W locs cells slots) (hexec : p.tables.exec = Jvm.exec) (htr : e.platform.stackTraces = false) {own cls : String} {names : List String} {ic : Nat}
    (hown : s.vm.findClass own = some m₀.cls) (hcls : Bundle.fit cls = true) (hnames : ∀ n ∈ names, Bundle.fit n = true)
    (h : ∀ a ∈ Bundle.ownAtoms0 own ic cls names, a.before args s = true)
    (hlocs : ∀ x ∈ locs, ∀ cell, s.heap[x.base]? = some cell → cell.vm.isStatics = false)
    {a : Addr} {cX : ClassId} {kX : Class} (hfoundX : s.vm.findClass cls = some cX) (hkX : s.vm.classes[cX]? = some kX) (hcell : W.heap[a]? = some (freshCell cX kX)) (hnew : s.heap.size ≤ a)
    {g : JFrame} (hg : g.method = m₀) (hsize : g.locals.size = c.maxLocals) {rest : List Value} (hstack : g.stack = .ref a :: .ref a :: rest)
    (hd6 : decode c.code g.pc = .ok (.invokespecial ic, 3))
    (hRframes : names.length + 3 < R.frames) (hRlocals : 2 * g.monitorRoom + ((Value.ref a :: rest).map fun v => v.category).sum + (13 * (names.length + 1) + 41) ≤ R.locals) :
    ∃ (V : State) (ce : Cell) (L : List Loc), Stand p l e R s m₀ args below meth c (V.setCell a ce) (locs ++ L) cells slots ∧ (∀ y ∈ L, y.base = a) ∧ a < V.heap.size ∧ ce.cls = cX ∧ ce.vm = .none ∧
      ∀ target, Steps p.tables e below ((V.setCell a ce).setTop { g with stack := .ref a :: rest, pc := g.pc + 3 }) target → Steps p.tables e below (W.setTop g) target := by
  have howns : e.platform.frameOwnsMonitors = true := by rw [X.admits.platform]
  have hfin : e.platform.finalization = false := by rw [X.admits.platform]
  have hpl : e.platform.magicAccessors = ({} : Platform).magicAccessors := by rw [X.admits.platform]
  have a' : ∀ x, x ∈ Bundle.ownAtoms0 own ic cls names → x.holds args s none s [] = true := fun x hx => h x hx
  obtain ⟨T, Z, L, LZ, Y⟩ := ThrowableC.of_atoms (args := args) howns hfin hpl (fun x hx => h x (by simp [Bundle.ownAtoms0, hx]))
  obtain ⟨P1, Ps, hlen, L1, hL, hP1m, hlink1, hlink⟩ := Bundle.chain0 (args := args) hpl Y.init0 names cls hcls hnames (fun x hx => h x (by simp [Bundle.ownAtoms0, hx]))
  have hfound : s.vm.findClass cls = some P1.m.cls := findClass_of_methodNamed hP1m
  cases Option.some.inj (hfoundX.symm.trans hfound)
  obtain ⟨c1, kX', hc1, hk, hord, -, -, hn6⟩ := Cond.instantiable_spec (a' (.instantiable cls 6) (by simp [Bundle.ownAtoms0]))
  cases Option.some.inj (hc1.symm.trans hfound)
  cases Option.some.inj (hkX.symm.trans hk)
  have hsel0 : selectMethod e.platform s.vm P1.m.cls T.fill0 = .method T.fill0 := by
    obtain ⟨c2, r2, m2, q1, q2, q3, q4, -⟩ := Cond.selects_spec (a' (.selects cls Bundle.tFill0 Bundle.tFill0) (by simp [Bundle.ownAtoms0]))
    cases Option.some.inj (q1.symm.trans hfound)
    cases Option.some.inj (q2.symm.trans (State.methodFound?_of_named Y.fill0 (by decide)))
    cases Option.some.inj (q3.symm.trans Y.fill0)
    rw [Launch.admits_selectMethod X.admits]; exact q4
  have hselF : selectMethod e.platform s.vm P1.m.cls T.fill = .method T.fill := by
    obtain ⟨c2, r2, m2, q1, q2, q3, q4, -⟩ := Cond.selects_spec (a' (.selects cls Bundle.tFill Bundle.tFill) (by simp [Bundle.ownAtoms0]))
    cases Option.some.inj (q1.symm.trans hfound)
    cases Option.some.inj (q2.symm.trans (State.methodFound?_of_named Y.fill (by decide)))
    cases Option.some.inj (q3.symm.trans Y.fill)
    rw [Launch.admits_selectMethod X.admits]; exact q4
  obtain ⟨cellS0, hcS0, hiss⟩ := Y.statics
  obtain ⟨u0, hu0⟩ := Cond.staticRefV Y.unassigned L.unassignedStatic L.statics hcS0 hiss (a' (.isRef (.static Bundle.tN "UNASSIGNED_STACK" Bundle.steD)) (by simp [Bundle.ownAtoms0]))
  obtain ⟨sen, hsen⟩ := Cond.staticRefV Y.sentinel L.sentinelStatic L.statics hcS0 hiss (a' (.isRef (.static Bundle.tN "SUPPRESSED_SENTINEL" Bundle.listD)) (by simp [Bundle.ownAtoms0]))
  obtain ⟨ci198, i198, fB, hk198, hg198, ha198, hsB, -, hnB, htB, hffB⟩ := Cond.ownField (t := .object "java/lang/Object") Y.found L.cls (by decide +kernel) (a' (.fieldLink Bundle.tN 198 Bundle.tN "backtrace" "Ljava/lang/Object;") (by simp [Bundle.ownAtoms0])) (a' (.lays Bundle.tN Bundle.tN "backtrace" "Ljava/lang/Object;") (by simp [Bundle.ownAtoms0])) e.platform hpl
  obtain ⟨cellS, hcS', heS, -, hkeep⟩ := X.same.2.2.2.2.2 T.aS cellS0 hcS0
  have hcellS : W.heap[T.aS]? = some cellS := hcS'
  have hout' : ∀ i, (⟨T.aS, i⟩ : Loc) ∉ locs := fun i hmem => by
    have := hlocs _ hmem cellS0 hcS0
    rw [hiss] at this; cases this
  have hknownS : cellS.vm ≠ .unknown := by
    rw [heS]; intro hu
    rw [show cellS0.vm = .unknown from hu] at hiss
    cases hiss
  have hneS : T.aS ≠ a := Nat.ne_of_lt (Nat.lt_of_lt_of_le (Array.getElem?_eq_some_iff.mp hcS0).1 hnew)
  obtain ⟨iM, hffM⟩ := Y.msg
  obtain ⟨tyC, dC, hdC, hdnC⟩ := Cond.laysAt hfound hk Y.cause (a' (.lays cls Bundle.tN "cause" "Ljava/lang/Throwable;") (by simp [Bundle.ownAtoms0]))
  obtain ⟨tyS, dS, hdS, hdnS⟩ := Cond.laysAt hfound hk Y.stack (a' (.lays cls Bundle.tN "stackTrace" Bundle.steD) (by simp [Bundle.ownAtoms0]))
  obtain ⟨tyP, dP, hdP, hdnP⟩ := Cond.laysAt hfound hk Y.supp (a' (.lays cls Bundle.tN "suppressedExceptions" Bundle.listD) (by simp [Bundle.ownAtoms0]))
  obtain ⟨tyM, dM, hdM, hdnM⟩ := Cond.laysAt hfound hk hffM (a' (.lays cls Bundle.tN "detailMessage" "Ljava/lang/String;") (by simp [Bundle.ownAtoms0]))
  obtain ⟨tyB, dB, hdB, hdnB⟩ := Cond.laysAt hfound hk hffB (a' (.lays cls Bundle.tN "backtrace" "Ljava/lang/Object;") (by simp [Bundle.ownAtoms0]))
  have bC := Cond.laysApart hdB hdC hdnB hdnC (by rw [hnB, Y.causeName]; decide)
  have bS := Cond.laysApart hdB hdS hdnB hdnS (by rw [hnB, Y.stackName]; decide)
  have bP := Cond.laysApart hdB hdP hdnB hdnP (by rw [hnB, Y.suppName]; decide)
  have hskip : SkipFacts T e.platform s (fun u => u) u0 ((preparedCellV T.toThrowableT (freshCell P1.m.cls kX) a u0 sen).withEntry W.cur) :=
    ⟨{ ci198 := ci198, i198 := i198, fBack := fB }, ⟨hk198, hg198, ha198, hsB⟩, by
      have := fresh_default (c := P1.m.cls) tyB
      rw [htB] at this
      simpa [preparedCellV, Cell.setSlot, Cell.withEntry, Array.getElem?_setIfInBounds, bC, bS, bP, bC.symm, bS.symm, bP.symm, defaultValue] using this, fun _ _ => rfl⟩
  obtain ⟨tm, methC, cdC, kC, vm₁, hnC, -, -, -, -, -, -, -, hW₁, st1⟩ := Steps.initCold (tb := p.tables) (e := e) (below := below) (s := s) (U := W) X.here hexec X.warmed hpl hown (t := Bundle.init0 cls) rfl rfl (Bundle.fit_spec hcls).2
    (a' (.methodLink own ic (Bundle.init0 cls)) (by simp [Bundle.ownAtoms0])) (h (.instanceMethod (Bundle.init0 cls)) (by cases names <;> simp [Bundle.ownAtoms0, Bundle.chain0Atoms, Bundle.passAtoms])) (bytes := Bundle.five) (maxL := 1) (h (.code (Bundle.init0 cls) Bundle.five 1 none) (by cases names <;> simp [Bundle.ownAtoms0, Bundle.chain0Atoms, Bundle.passAtoms]))
    (f := g) hg (a := a) (rest := .ref a :: rest) hstack hd6
  cases Option.some.inj (hnC.symm.trans hP1m)
  have X₁ := X.noted hW₁
  obtain ⟨vm₂, X₂, st2⟩ := X₁.ctorPlainOffV hexec (g := { g with stack := .ref a :: rest }) hg hsize T L Z LZ (P1 :: Ps)
    (fun P hP => by rcases List.mem_cons.mp hP with rfl | hP; exact L1; exact hL P hP) ⟨hlink1, hlink⟩ (u0 := u0) (sen := sen) (self := a) (cell := freshCell P1.m.cls kX) (cellS := cellS)
    hcell (fun _ => by simp) (by simp) rfl rfl hsel0 hselF hcellS hneS hknownS (by rw [hkeep _ (hout' _)]; exact hu0) (by rw [hkeep _ (hout' _)]; exact hsen)
    (Takes.of_laid hk hord tyC (by rw [Y.causeType]; rfl)) (Takes.of_laid hk hord tyS (by rw [Y.stackType]; exact fits_refV_array _ u0)) (Takes.of_laid hk hord tyP (by rw [Y.suppType]; exact fits_refV_object _ sen)) Y.objLocals hskip htr [] hd6
    (by simp only [List.length_cons, hlen]; omega) (by simp only [List.length_cons, hlen]; exact hRlocals)
  have hlt : a < ((W.setVm vm₁).setVm vm₂).heap.size := (Array.getElem?_eq_some_iff.mp hcell).1
  refine ⟨(W.setVm vm₁).setVm vm₂, _, _, X₂, fun y hy => ?_, hlt, rfl, rfl, fun target hwalk => st1 _ (fun acts => ?_)⟩
  · simp only [List.mem_cons, List.not_mem_nil, or_false] at hy
    rcases hy with rfl | rfl | rfl | rfl <;> rfl
  · rw [doInvoke_state]
    exact st2 _ hwalk
end VXK
section VXK2
variable {p : Program} {l : Launch} {e : Env} {R : Room} {s : State} {m : MethodId} {args : Array Value} {below : List Frame} {meth : Method} {c : Code} {H : Heap} {locs : List Loc} {cells slots : Nat} {Q : State → Prop}
variable {ls : Array Slot} {rest : List Value} {D : va_G} {cl : List vw_C} {tys : List (ClassId × FieldType)} {ws : va_W}
/-- 'new E("text")' that isn't thrown at once: the object goes on the stack -/
theorem vx_makeS {cc : ByteArray} {pc : Nat} (hexec : p.tables.exec = Jvm.exec) (hb : c.code = cc) (hl : l.stackTraces = false) {own cls text : String} {names : List String} {ik is ic sa ci : Nat} {A : Nat → Prop} {T0 : u_T}
    (hown : s.vm.findClass own = some m.cls) (hcls : Bundle.fit cls = true) (hnames : ∀ n ∈ names, Bundle.fit n = true)
    (hk : (Cond.classLink own ik cls).before args s = true) (hini : (Cond.initialized cls).before args s = true) (hstr : vk_R own is text sa s) (hat : ∀ w ∈ vx_atS own ic cls names, w.before args s = true)
    (hgood : ∀ w ∈ Cond.classLink own ik cls :: Cond.initialized cls :: vx_atS own ic cls names, vx_ot w = true)
    (hU : vx_Zq Bundle.tN "UNASSIGNED_STACK" Bundle.steD A s s.heap) (hN : vx_Zq Bundle.tN "SUPPRESSED_SENTINEL" Bundle.listD A s s.heap) (hS : va_S A s.heap H locs) (hsize : ls.size = c.maxLocals)
    (d0 : decode cc pc = .ok (.new ik, 3)) (d3 : decode cc (pc + 3) = .ok (.dup, 1)) (d4 : decode cc (pc + 4) = .ok (.ldc is, 2)) (d6 : decode cc (pc + 6) = .ok (.invokespecial ic, 3))
    (hK : va_K D cl tys s) (hP : va_P D cl ws H) (hD : va_D A ws) (hA : ∀ q, s.heap.size ≤ q → A q) (hc : cl[ci]? = some (cls, T0, 0))
    (hRframes : names.length + 3 < R.frames) (hRlocals : (rest.map fun v => v.category).sum + (13 * (names.length + 1) + 43) ≤ R.locals) (hRcells : cells + 1 ≤ R.cells) (hRslots : slots + 6 ≤ R.slots)
    (kk : ∀ (q : Nat) (H1 : Heap), va_P D cl (ws ++ [(q, .inr (ci, []))]) H1 → va_D A (ws ++ [(q, .inr (ci, []))]) → va_S A s.heap H1 locs → W p l e R s m args below meth c H1 locs (cells + 1) (slots + 6) Q (F0 m (pc + 9) ls (.ref q :: rest))) :
    W p l e R s m args below meth c H locs cells slots Q (F0 m pc ls rest) := by
  intro T hT X
  subst hT
  have htr : e.platform.stackTraces = false := (show e.platform.stackTraces = l.stackTraces by rw [X.admits.platform]).trans hl
  have Y := vx_rebase X (R' := { frames := R.frames, locals := R.locals, cells := 1, slots := 6 }) (Nat.le_refl _) (Nat.le_refl _) hRcells hRslots
  obtain ⟨s', hA'⟩ : ∃ z, z = (T.setVm s.vm).setFrames (.invoking m args :: below) := ⟨_, rfl⟩
  rw [← hA'] at Y
  have hvm : s'.vm = s.vm := by rw [hA']; rfl
  have hhp : s'.heap = T.heap := by rw [hA']; rfl
  have hW0 : s.WarmedH s'.vm := by rw [hvm]; exact State.WarmedH.refl s
  have hat' : ∀ w ∈ vx_atS own ic cls names, w.before args s' = true := fun w hw => vx_ot_at hW0 hvm.symm (hgood w (List.mem_cons_of_mem _ (List.mem_cons_of_mem _ hw))) (hat w hw)
  have hk' : (Cond.classLink own ik cls).before args s' = true := vx_ot_at hW0 hvm.symm (hgood _ List.mem_cons_self) hk
  have hini' : (Cond.initialized cls).before args s' = true := vx_ot_at hW0 hvm.symm (hgood _ (List.mem_cons_of_mem _ List.mem_cons_self)) hini
  have hU' : vx_Zq Bundle.tN "UNASSIGNED_STACK" Bundle.steD A s' s'.heap := by rw [hhp]; exact vx_Zq.moved hW0.alike (hU.kept hS.2.1)
  have hN' : vx_Zq Bundle.tN "SUPPRESSED_SENTINEL" Bundle.listD A s' s'.heap := by rw [hhp]; exact vx_Zq.moved hW0.alike (hN.kept hS.2.1)
  have h : ∀ w ∈ Bundle.ownAtoms own ic cls names, w.before args s' = true := vx_own hat' (vx_isRefq hU'.1) (vx_isRefq hN'.1) hU'.2.word hN'.2.word
  have hown' : s'.vm.findClass own = some m.cls := by rw [hvm]; exact hown
  have hins : (Cond.instantiable cls 6).before args s' = true := h _ (by simp [Bundle.ownAtoms])
  obtain ⟨vm₁, cX, kX, hfX, hkX, -, -, X₁, st1⟩ := Y.newCold hexec (own := own) (C := cls) (index := ik) (n := 6) hown' hk' hins hini'
    (g := F0 m pc ls rest) rfl (by rw [hb]; exact d0) (Nat.le_refl _) (Nat.le_refl _)
  generalize hT1 : (T.setVm vm₁).pushCell { cls := cX, slots := kX.instanceTypes.map defaultValue, vm := .none } = T1 at X₁ st1
  have hcat : (Value.ref T.heap.size).category = 1 := rfl
  have hcellA : T1.heap[T.heap.size]? = some (freshCell cX kX) := by rw [← hT1]; exact State.heap_pushCell_size _ _
  have d3' : decode c.code (pc + 3) = .ok (.dup, 1) := by rw [hb]; exact d3
  have d4' : decode c.code (pc + 4) = .ok (.ldc is, 2) := by rw [hb]; exact d4
  have hstr' : vk_R own is text sa s' := vk_R.warm hW0 hstr
  obtain ⟨V, ce, L, Z, hL, hlt, hcl9, hvm9, st⟩ := vx_ctorMadeS X₁ hexec htr (own := own) (cls := cls) (names := names) (ic := ic) hown' hcls hnames h (fun x hx => nomatch hx) hfX hkX hcellA (by rw [hhp]; exact Nat.le_refl _) (msg := .ref sa) rfl
    (g := { method := m, pc := pc + 6, locals := ls, stack := .ref sa :: .ref T.heap.size :: .ref T.heap.size :: rest, locked := none }) rfl hsize (rest := rest) rfl
    (by rw [hb]; exact d6) hRframes (by simp only [List.map_cons, List.sum_cons, hcat]; omega)
  have Z0 := Stand.forget (locs := []) Z (fun y hy => by rw [hL y hy, hhp]; exact Nat.le_refl _)
  obtain ⟨f1, f2⟩ := vx_frame Z0.same
  rw [hhp] at f1 f2
  have hcid : ce.cls = D.1 ci := by
    rw [hcl9]
    have h1 := (hK.1 ci _ hc).2.1
    rw [hvm] at hfX
    exact Option.some.inj (hfX.symm.trans h1)
  have hh : (V.setCell T.heap.size ce).heap[T.heap.size]? = some ce := heapAt_setCell_self (s := V) ce hlt
  subst hA'
  have X5 := vx_back9 X Y Z0
  have X6 : Stand p l e R s m args below meth c (V.setCell T.heap.size ce) locs (cells + 1) (slots + 6) := { X5 with same := X5.same.mono (by omega) (by omega) }
  have hk9 : ∀ (k : Nat) (x : Nat × va_E), ws[k]? = some x → (V.setCell T.heap.size ce).heap[x.1]? = T.heap[x.1]? := fun k x hx => f2 x.1 ((hP k x hx).lt) (fun z hz => nomatch hz)
  obtain ⟨t, a1, b1⟩ := kk T.heap.size (V.setCell T.heap.size ce).heap ((hP.kept hk9).app (fun k x hx => by
      have hz : k < 1 := (List.getElem?_eq_some_iff.mp hx).1
      rw [show k = 0 by omega] at hx
      cases hx
      exact ⟨_, hc, ce, hh, hcid, hvm9, fun k hk => absurd hk (Nat.not_lt_zero k)⟩)) (hD.push hP rfl (hA _ hS.1)) ⟨Nat.le_trans hS.1 f1, fun q h1 h2 => (f2 q (Nat.lt_of_lt_of_le h1 hS.1) (fun z hz => nomatch hz)).trans (hS.2.1 q h1 h2), hS.2.2⟩ _ rfl X6
  refine ⟨t, st1 _ ?_, b1⟩
  show Steps p.tables e below (T1.setTop { method := m, pc := pc + 3, locals := ls, stack := .ref T.heap.size :: rest, locked := none }) _
  jvm_step X₁.here [X₁.here.top, hexec, d3', Value.category]
  exact X₁.ldcString hexec (own := own) (text := text) (index := is) (a := sa) hown' hstr'.1 hstr'.2
    (g := { method := m, pc := pc + 4, locals := ls, stack := .ref T.heap.size :: .ref T.heap.size :: rest, locked := none }) rfl d4' _ (st _ a1)
/-- 'new E()' that isn't thrown at once: the object goes on the stack -/
theorem vx_make0 {cc : ByteArray} {pc : Nat} (hexec : p.tables.exec = Jvm.exec) (hb : c.code = cc) (hl : l.stackTraces = false) {own cls : String} {names : List String} {ik ic ci : Nat} {A : Nat → Prop} {T0 : u_T}
    (hown : s.vm.findClass own = some m.cls) (hcls : Bundle.fit cls = true) (hnames : ∀ n ∈ names, Bundle.fit n = true)
    (hk : (Cond.classLink own ik cls).before args s = true) (hini : (Cond.initialized cls).before args s = true) (hat : ∀ w ∈ vx_at0 own ic cls names, w.before args s = true)
    (hgood : ∀ w ∈ Cond.classLink own ik cls :: Cond.initialized cls :: vx_at0 own ic cls names, vx_ot w = true)
    (hU : vx_Zq Bundle.tN "UNASSIGNED_STACK" Bundle.steD A s s.heap) (hN : vx_Zq Bundle.tN "SUPPRESSED_SENTINEL" Bundle.listD A s s.heap) (hS : va_S A s.heap H locs) (hsize : ls.size = c.maxLocals)
    (d0 : decode cc pc = .ok (.new ik, 3)) (d3 : decode cc (pc + 3) = .ok (.dup, 1)) (d4 : decode cc (pc + 4) = .ok (.invokespecial ic, 3))
    (hK : va_K D cl tys s) (hP : va_P D cl ws H) (hD : va_D A ws) (hA : ∀ q, s.heap.size ≤ q → A q) (hc : cl[ci]? = some (cls, T0, 0))
    (hRframes : names.length + 3 < R.frames) (hRlocals : (rest.map fun v => v.category).sum + (13 * (names.length + 1) + 42) ≤ R.locals) (hRcells : cells + 1 ≤ R.cells) (hRslots : slots + 6 ≤ R.slots)
    (kk : ∀ (q : Nat) (H1 : Heap), va_P D cl (ws ++ [(q, .inr (ci, []))]) H1 → va_D A (ws ++ [(q, .inr (ci, []))]) → va_S A s.heap H1 locs → W p l e R s m args below meth c H1 locs (cells + 1) (slots + 6) Q (F0 m (pc + 7) ls (.ref q :: rest))) :
    W p l e R s m args below meth c H locs cells slots Q (F0 m pc ls rest) := by
  intro T hT X
  subst hT
  have htr : e.platform.stackTraces = false := (show e.platform.stackTraces = l.stackTraces by rw [X.admits.platform]).trans hl
  have Y := vx_rebase X (R' := { frames := R.frames, locals := R.locals, cells := 1, slots := 6 }) (Nat.le_refl _) (Nat.le_refl _) hRcells hRslots
  obtain ⟨s', hA'⟩ : ∃ z, z = (T.setVm s.vm).setFrames (.invoking m args :: below) := ⟨_, rfl⟩
  rw [← hA'] at Y
  have hvm : s'.vm = s.vm := by rw [hA']; rfl
  have hhp : s'.heap = T.heap := by rw [hA']; rfl
  have hW0 : s.WarmedH s'.vm := by rw [hvm]; exact State.WarmedH.refl s
  have hat' : ∀ w ∈ vx_at0 own ic cls names, w.before args s' = true := fun w hw => vx_ot_at hW0 hvm.symm (hgood w (List.mem_cons_of_mem _ (List.mem_cons_of_mem _ hw))) (hat w hw)
  have hk' : (Cond.classLink own ik cls).before args s' = true := vx_ot_at hW0 hvm.symm (hgood _ List.mem_cons_self) hk
  have hini' : (Cond.initialized cls).before args s' = true := vx_ot_at hW0 hvm.symm (hgood _ (List.mem_cons_of_mem _ List.mem_cons_self)) hini
  have hU' : vx_Zq Bundle.tN "UNASSIGNED_STACK" Bundle.steD A s' s'.heap := by rw [hhp]; exact vx_Zq.moved hW0.alike (hU.kept hS.2.1)
  have hN' : vx_Zq Bundle.tN "SUPPRESSED_SENTINEL" Bundle.listD A s' s'.heap := by rw [hhp]; exact vx_Zq.moved hW0.alike (hN.kept hS.2.1)
  have h : ∀ w ∈ Bundle.ownAtoms0 own ic cls names, w.before args s' = true := vx_own hat' (vx_isRefq hU'.1) (vx_isRefq hN'.1) hU'.2.word hN'.2.word
  have hown' : s'.vm.findClass own = some m.cls := by rw [hvm]; exact hown
  have hins : (Cond.instantiable cls 6).before args s' = true := h _ (by simp [Bundle.ownAtoms0])
  obtain ⟨vm₁, cX, kX, hfX, hkX, -, -, X₁, st1⟩ := Y.newCold hexec (own := own) (C := cls) (index := ik) (n := 6) hown' hk' hins hini'
    (g := F0 m pc ls rest) rfl (by rw [hb]; exact d0) (Nat.le_refl _) (Nat.le_refl _)
  generalize hT1 : (T.setVm vm₁).pushCell { cls := cX, slots := kX.instanceTypes.map defaultValue, vm := .none } = T1 at X₁ st1
  have hcat : (Value.ref T.heap.size).category = 1 := rfl
  have hcellA : T1.heap[T.heap.size]? = some (freshCell cX kX) := by rw [← hT1]; exact State.heap_pushCell_size _ _
  have d3' : decode c.code (pc + 3) = .ok (.dup, 1) := by rw [hb]; exact d3
  obtain ⟨V, ce, L, Z, hL, hlt, hcl9, hvm9, st⟩ := vx_ctorMade0 X₁ hexec htr (own := own) (cls := cls) (names := names) (ic := ic) hown' hcls hnames h (fun x hx => nomatch hx) hfX hkX hcellA (by rw [hhp]; exact Nat.le_refl _)
    (g := { method := m, pc := pc + 4, locals := ls, stack := .ref T.heap.size :: .ref T.heap.size :: rest, locked := none }) rfl hsize (rest := rest) rfl
    (by rw [hb]; exact d4) hRframes (by simp only [List.map_cons, List.sum_cons, hcat]; omega)
  have Z0 := Stand.forget (locs := []) Z (fun y hy => by rw [hL y hy, hhp]; exact Nat.le_refl _)
  obtain ⟨f1, f2⟩ := vx_frame Z0.same
  rw [hhp] at f1 f2
  have hcid : ce.cls = D.1 ci := by
    rw [hcl9]
    have h1 := (hK.1 ci _ hc).2.1
    rw [hvm] at hfX
    exact Option.some.inj (hfX.symm.trans h1)
  have hh : (V.setCell T.heap.size ce).heap[T.heap.size]? = some ce := heapAt_setCell_self (s := V) ce hlt
  subst hA'
  have X5 := vx_back9 X Y Z0
  have X6 : Stand p l e R s m args below meth c (V.setCell T.heap.size ce) locs (cells + 1) (slots + 6) := { X5 with same := X5.same.mono (by omega) (by omega) }
  have hk9 : ∀ (k : Nat) (x : Nat × va_E), ws[k]? = some x → (V.setCell T.heap.size ce).heap[x.1]? = T.heap[x.1]? := fun k x hx => f2 x.1 ((hP k x hx).lt) (fun z hz => nomatch hz)
  obtain ⟨t, a1, b1⟩ := kk T.heap.size (V.setCell T.heap.size ce).heap ((hP.kept hk9).app (fun k x hx => by
      have hz : k < 1 := (List.getElem?_eq_some_iff.mp hx).1
      rw [show k = 0 by omega] at hx
      cases hx
      exact ⟨_, hc, ce, hh, hcid, hvm9, fun k hk => absurd hk (Nat.not_lt_zero k)⟩)) (hD.push hP rfl (hA _ hS.1)) ⟨Nat.le_trans hS.1 f1, fun q h1 h2 => (f2 q (Nat.lt_of_lt_of_le h1 hS.1) (fun z hz => nomatch hz)).trans (hS.2.1 q h1 h2), hS.2.2⟩ _ rfl X6
  refine ⟨t, st1 _ ?_, b1⟩
  show Steps p.tables e below (T1.setTop { method := m, pc := pc + 3, locals := ls, stack := .ref T.heap.size :: rest, locked := none }) _
  jvm_step X₁.here [X₁.here.top, hexec, d3', Value.category]
  exact st _ a1
/-- 'throw x' of an object that was made before -/
theorem vx_athrow {cc : ByteArray} {pc : Nat} (hexec : p.tables.exec = Jvm.exec) (hb : c.code = cc) {q : Addr} (hdg : decode cc pc = .ok (.athrow, 1)) (k : vx_W p l e R s m args below meth c H locs cells slots Q (F0 m pc ls rest) q) : W p l e R s m args below meth c H locs cells slots Q (F0 m pc ls (.ref q :: rest)) := by
  intro T hT X
  obtain ⟨t, st, hq⟩ := k T hT X
  refine ⟨t, ?_, hq⟩
  have hdg' : decode c.code pc = .ok (.athrow, 1) := by rw [hb]; exact hdg
  jvm_step X.here [X.here.top, hexec, hdg', athrow.wp_sem]
  exact st
end VXK2
/-! ===== END ===== -/
/-! ===== BEGIN a constructor that throws (launches without stack traces) ===== -/
section VXIA
variable {p : Program} {l : Launch} {e : Env} {R : Room} {s : State} {m : MethodId} {args : Array Value} {below : List Frame} {meth : Method} {c : Code} {T : State} {locs : List Loc} {cells slots : Nat}
theorem vx_callI (X : Stand p l e R s m args below meth c T locs cells slots) (hexec : p.tables.exec = Jvm.exec) {own : String} {index : Nat} {y : MethodName} {bytes : ByteArray} {maxL : Nat}
    (hown : s.vm.findClass own = some m.cls) (hy1 : y.name = "<init>") (hlink : (Cond.methodLink own index y).before args s = true) (hinst : (Cond.instanceMethod y).before args s = true)
    (hcode : (Cond.code y bytes maxL none).before args s = true) (hy : y.cls ≠ "java/lang/invoke/MethodHandle" ∧ y.cls ≠ "java/lang/invoke/VarHandle")
    {W9 : Nat} {Pre : Pt → Array Value → Prop} {Post : Pt → Array Value → Option Value → Pt → Prop} {PostX : Pt → Array Value → Addr → Pt → Prop} (hK : vx_Back l R p e below s args y 3 W9 Pre Post PostX)
    {g : JFrame} (hg : g.method = m) (hsize : g.locals.size = c.maxLocals) {a : Addr} {argsL rest : List Value} (hlen : ∀ sig, parseMethodDescriptor y.desc = some sig → argsL.length = sig.parameters.length)
    (hstack : g.stack = argsL.reverse ++ .ref a :: rest) (hW : 2 * g.monitorRoom + (rest.map fun v => v.category).sum ≤ W9) (hdg : decode c.code g.pc = .ok (.invokespecial index, 3))
    (hpre : ∀ vm₁, s.WarmedH vm₁ → Pre ⟨T.setVm vm₁, locs, cells, slots⟩ (Value.ref a :: argsL).toArray) :
    (∃ (v : Option Value) (vm₁ : Vm) (B : Pt), s.WarmedH vm₁ ∧ Stand p l e R s m args below meth c B.U B.locs B.cells B.slots ∧ Post ⟨T.setVm vm₁, locs, cells, slots⟩ (Value.ref a :: argsL).toArray v B ∧
      ∀ target, Steps p.tables e below (B.U.setTop { g with pc := g.pc + 3, stack := v.toList ++ rest }) target → Steps p.tables e below (T.setTop g) target) ∨
    (∃ (q : Addr) (vm₁ : Vm) (B : Pt), s.WarmedH vm₁ ∧ Stand p l e R s m args below meth c B.U B.locs B.cells B.slots ∧ PostX ⟨T.setVm vm₁, locs, cells, slots⟩ (Value.ref a :: argsL).toArray q B ∧
      Steps p.tables e below (T.setTop g) ((B.U.setTop { g with stack := rest }).pushFrame (.throwing q))) := by
  subst hg
  have hpl : e.platform.magicAccessors = ({} : Platform).magicAccessors := by rw [X.admits.platform]
  obtain ⟨mk, methM, cM, kP, vm₁, hnamed, hmethM, hcodeM, -, hlocalsM, -, hkP, -, hW₁, hstep₁⟩ := Steps.initColdArgs (e := e) X.here hexec X.warmed hpl hown hy1 hy hlink hinst hcode (f := g) rfl hlen hstack hdg
  have X₁ := X.noted hW₁
  rcases hK g.method meth c ⟨T.setVm vm₁, locs, cells, slots⟩ { g with stack := rest } (.invokespecial index) mk (Value.ref a :: argsL).toArray X₁ rfl hsize hdg hW (X₁.named hnamed) (hpre vm₁ X₁.warmed) with ⟨v, B, X', hpost, hsteps⟩ | ⟨q, B, X', hpost, hsteps⟩
  · exact Or.inl ⟨v, vm₁, B, X₁.warmed, X', hpost, fun target h => hstep₁ _ fun acts => by rw [doInvoke_state]; exact hsteps.trans h⟩
  · exact Or.inr ⟨q, vm₁, B, X₁.warmed, X', hpost, hstep₁ _ fun acts => by rw [doInvoke_state]; exact hsteps⟩
end VXIA
section VXIB
variable {p : Program} {l : Launch} {e : Env} {R : Room} {s : State} {m : MethodId} {args : Array Value} {below : List Frame} {meth : Method} {c : Code} {H : Heap} {locs : List Loc} {cells slots : Nat}
variable {y : MethodName} {bytes cc : ByteArray} {maxL nL mc ms n index : Nat} {ret : Option FieldType} {ws : List Cond} {rm : Room} {Pc : Array Value → State → Prop} {Qc : Array Value → State → Outcome → State → Prop} {XC : String → State → State → Prop} {free : Addr → Prop} {Ts : List Cond} {own C : String} {b : Addr} {As rest : List Value} {g : JFrame}
theorem vx_runI (S : CallFix p m c cc nL s args Ts own) (hM : vx_Met l y ws rm Pc Qc XC mc ms free) (cw : CallB R s args own index y bytes maxL none ws rm mc ms n ∧ y.name = "<init>" ∧ (Cond.instanceMethod y).before args s = true) (hp : PreS s H Pc (.ref b :: As))
    (hg : g.method = m) (hn : As.length = n) (hsize : g.locals.size = nL) (hstack : g.stack = As.reverse ++ .ref b :: rest) (hW : 2 * g.monitorRoom + (rest.map fun v => v.category).sum ≤ 8) (hdg : decode cc g.pc = .ok (.invokespecial index, 3)) (hf : cells + mc ≤ R.cells ∧ slots + ms ≤ R.slots) :
    vx_Run p l e R s m args below meth c H locs cells slots mc ms g rest (Qc (Value.ref b :: As).toArray) XC free := by
  have hK : vx_Back l R p e below s args y 3 8 (PreOf R mc ms Pc) (PostOf Qc mc ms free) (vx_Post XC mc ms free) := vx_callBack cw.1 hM hp.1
  obtain ⟨⟨-, -, -, -, -, -, hcode, -, hy, hlen, hl⟩, hy1, hin⟩ := cw
  obtain ⟨hx, hb, hml, ho, -⟩ := S
  have hPc := hp.2
  intro T hT X
  rcases vx_callI X hx (bytes := bytes) (maxL := maxL) ho hy1 hl hin hcode hy hK hg (hsize.trans hml.symm) (a := b) (argsL := As) (rest := rest) (fun sig h => hn.trans (hlen sig h)) hstack hW (by rw [hb]; exact hdg)
    (fun vm₁ hW₁ => ⟨hf.1, hf.2, hPc (T.setVm vm₁) hT hW₁⟩) with ⟨v, vm₁, ⟨U', l2, c2, s2⟩, hW₁, X', ⟨g', mk, t, L, e1, e2, hq, h1, hL, h2, h3⟩, st⟩ | ⟨q, vm₁, ⟨U', l2, c2, s2⟩, hW₁, X', ⟨g', mk, t, L, E, ce, e1, e2, hq, hce, hcv, hcl, h1, hL, h2, h3⟩, st⟩
  · dsimp only [Pt.U, Pt.locs, Pt.cells, Pt.slots] at X' e1 e2 h1 h2 h3 st
    subst h1; subst h2; subst h3
    exact Or.inl ⟨v, (T.setVm vm₁).calling g' mk (Value.ref b :: As).toArray, t, U', L, hT, X', hL, e1, e2, hq, st⟩
  · dsimp only [Pt.U, Pt.locs, Pt.cells, Pt.slots] at X' e1 e2 h1 h2 h3 st hcl
    subst h1; subst h2; subst h3
    exact Or.inr ⟨q, (T.setVm vm₁).calling g' mk (Value.ref b :: As).toArray, t, U', L, E, ce, hT, X', hL, e1, e2, hq, hce, hcv, vx_cls hW₁ hcl, st⟩
end VXIB
/-! ===== END ===== -/
/-! ===== BEGIN a private constructor of a nest mate that throws ===== -/
section VXIC
variable {p : Program} {l : Launch} {e : Env} {R : Room} {s : State} {m : MethodId} {args : Array Value} {below : List Frame} {meth : Method} {c : Code} {T : State} {locs : List Loc} {cells slots : Nat}
theorem vx_callIN (X : Stand p l e R s m args below meth c T locs cells slots) (hexec : p.tables.exec = Jvm.exec) {own : String} {index : Nat} {host : String} {y : MethodName} {bytes : ByteArray} {maxL : Nat}
    (hown : s.vm.findClass own = some m.cls) (hy1 : y.name = "<init>") (hlink : (Cond.methodLinkNest own index y host).before args s = true) (hinst : (Cond.instanceMethod y).before args s = true)
    (hcode : (Cond.code y bytes maxL none).before args s = true) (hy : y.cls ≠ "java/lang/invoke/MethodHandle" ∧ y.cls ≠ "java/lang/invoke/VarHandle")
    {W9 : Nat} {Pre : Pt → Array Value → Prop} {Post : Pt → Array Value → Option Value → Pt → Prop} {PostX : Pt → Array Value → Addr → Pt → Prop} (hK : vx_Back l R p e below s args y 3 W9 Pre Post PostX)
    {g : JFrame} (hg : g.method = m) (hsize : g.locals.size = c.maxLocals) {a : Addr} {argsL rest : List Value} (hlen : ∀ sig, parseMethodDescriptor y.desc = some sig → argsL.length = sig.parameters.length)
    (hstack : g.stack = argsL.reverse ++ .ref a :: rest) (hW : 2 * g.monitorRoom + (rest.map fun v => v.category).sum ≤ W9) (hdg : decode c.code g.pc = .ok (.invokespecial index, 3))
    (hpre : ∀ vm₁, s.WarmedH vm₁ → Pre ⟨T.setVm vm₁, locs, cells, slots⟩ (Value.ref a :: argsL).toArray) :
    (∃ (v : Option Value) (vm₁ : Vm) (B : Pt), s.WarmedH vm₁ ∧ Stand p l e R s m args below meth c B.U B.locs B.cells B.slots ∧ Post ⟨T.setVm vm₁, locs, cells, slots⟩ (Value.ref a :: argsL).toArray v B ∧
      ∀ target, Steps p.tables e below (B.U.setTop { g with pc := g.pc + 3, stack := v.toList ++ rest }) target → Steps p.tables e below (T.setTop g) target) ∨
    (∃ (q : Addr) (vm₁ : Vm) (B : Pt), s.WarmedH vm₁ ∧ Stand p l e R s m args below meth c B.U B.locs B.cells B.slots ∧ PostX ⟨T.setVm vm₁, locs, cells, slots⟩ (Value.ref a :: argsL).toArray q B ∧
      Steps p.tables e below (T.setTop g) ((B.U.setTop { g with stack := rest }).pushFrame (.throwing q))) := by
  subst hg
  have hpl : e.platform.magicAccessors = ({} : Platform).magicAccessors := by rw [X.admits.platform]
  obtain ⟨mk, methM, cM, kP, vm₁, hnamed, hmethM, hcodeM, -, hlocalsM, -, hkP, -, hW₁, hstep₁⟩ := Steps.initColdArgsNest (e := e) X.here hexec X.warmed hpl hown hy1 hy hlink hinst hcode (f := g) rfl hlen hstack hdg
  have X₁ := X.noted hW₁
  rcases hK g.method meth c ⟨T.setVm vm₁, locs, cells, slots⟩ { g with stack := rest } (.invokespecial index) mk (Value.ref a :: argsL).toArray X₁ rfl hsize hdg hW (X₁.named hnamed) (hpre vm₁ X₁.warmed) with ⟨v, B, X', hpost, hsteps⟩ | ⟨q, B, X', hpost, hsteps⟩
  · exact Or.inl ⟨v, vm₁, B, X₁.warmed, X', hpost, fun target h => hstep₁ _ fun acts => by rw [doInvoke_state]; exact hsteps.trans h⟩
  · exact Or.inr ⟨q, vm₁, B, X₁.warmed, X', hpost, hstep₁ _ fun acts => by rw [doInvoke_state]; exact hsteps⟩
end VXIC
section VXID
variable {p : Program} {l : Launch} {e : Env} {R : Room} {s : State} {m : MethodId} {args : Array Value} {below : List Frame} {meth : Method} {c : Code} {H : Heap} {locs : List Loc} {cells slots : Nat}
theorem vx_runIN {y : MethodName} {bytes cc : ByteArray} {maxL nL mc ms n index : Nat} {ws : List Cond} {rm : Room} {Pc : Array Value → State → Prop} {Qc : Array Value → State → Outcome → State → Prop} {XC : String → State → State → Prop} {free : Addr → Prop} {Ts : List Cond} {own host : String} {b : Addr} {As rest : List Value} {g : JFrame}
    (S : CallFix p m c cc nL s args Ts own) (hM : vx_Met l y ws rm Pc Qc XC mc ms free) (cw : va_CN R s args own index y host bytes maxL none ws rm mc ms n ∧ y.name = "<init>" ∧ (Cond.instanceMethod y).before args s = true) (hp : PreS s H Pc (.ref b :: As))
    (hg : g.method = m) (hn : As.length = n) (hsize : g.locals.size = nL) (hstack : g.stack = As.reverse ++ .ref b :: rest) (hW : 2 * g.monitorRoom + (rest.map fun v => v.category).sum ≤ 8) (hdg : decode cc g.pc = .ok (.invokespecial index, 3)) (hf : cells + mc ≤ R.cells ∧ slots + ms ≤ R.slots) :
    vx_Run p l e R s m args below meth c H locs cells slots mc ms g rest (Qc (Value.ref b :: As).toArray) XC free := by
  obtain ⟨⟨⟨hrc, hrs, hfr, hlo, hws, hcw⟩, hcode, hini, hy, hlen, hl⟩, hx1, hx2⟩ := cw
  have hK : vx_Back l R p e below s args y 3 8 (PreOf R mc ms Pc) (PostOf Qc mc ms free) (vx_Post XC mc ms free) := vx_back (bytes := bytes) (maxL := maxL) (ret := none) hM hp.1 hrc hrs hfr hlo hws hcw (fun a' U hW => word_at hW (Or.inl (by first | rfl | simp [Cond.onTables, Cond.keeps, Cond.steady])) hini)
  obtain ⟨hx, hb, hml, ho, -⟩ := S
  have hPc := hp.2
  intro T hT X
  rcases vx_callIN X hx (bytes := bytes) (maxL := maxL) ho hx1 hl hx2 hcode hy hK hg (hsize.trans hml.symm) (a := b) (argsL := As) (rest := rest) (fun sig h => hn.trans (hlen sig h)) hstack hW (by rw [hb]; exact hdg)
    (fun vm₁ hW₁ => ⟨hf.1, hf.2, hPc (T.setVm vm₁) hT hW₁⟩) with ⟨v, vm₁, ⟨U', l2, c2, s2⟩, hW₁, X', ⟨g', mk, t, L, e1, e2, hq, h1, hL, h2, h3⟩, st⟩ | ⟨q, vm₁, ⟨U', l2, c2, s2⟩, hW₁, X', ⟨g', mk, t, L, E, ce, e1, e2, hq, hce, hcv, hcl, h1, hL, h2, h3⟩, st⟩
  · dsimp only [Pt.U, Pt.locs, Pt.cells, Pt.slots] at X' e1 e2 h1 h2 h3 st
    subst h1; subst h2; subst h3
    exact Or.inl ⟨v, (T.setVm vm₁).calling g' mk (Value.ref b :: As).toArray, t, U', L, hT, X', hL, e1, e2, hq, st⟩
  · dsimp only [Pt.U, Pt.locs, Pt.cells, Pt.slots] at X' e1 e2 h1 h2 h3 st hcl
    subst h1; subst h2; subst h3
    exact Or.inr ⟨q, (T.setVm vm₁).calling g' mk (Value.ref b :: As).toArray, t, U', L, E, ce, hT, X', hL, e1, e2, hq, hce, hcv, vx_cls hW₁ hcl, st⟩
end VXID
/-! ===== END ===== -/
/-! ===== BEGIN a method of a class above, found by the receiver, that may throw (follows va_callVU, va_runU of this kit) ===== -/
section
variable {p : Program} {l : Launch} {e : Env} {R : Room} {s : State} {m : MethodId} {args : Array Value} {below : List Frame} {meth : Method} {c : Code} {H : Heap} {locs : List Loc} {cells slots : Nat}
theorem vx_callVU {T : State} {locs : List Loc} {cells slots : Nat} (X : Stand p l e R s m args below meth c T locs cells slots) (hexec : p.tables.exec = Jvm.exec) {own C owner : String} {index : Nat} {x y : MethodName} {bytes : ByteArray} {maxL : Nat} {ret : Option FieldType}
    (hown : s.vm.findClass own = some m.cls) (hlink : (Cond.methodLink own index x).before args s = true) (hsame : (Cond.sameMethod x.cls owner x.name x.desc).before args s = true)
    (hd0 : va_Decl s ⟨owner, x.name, x.desc⟩) (howner : owner ≠ "java/lang/invoke/MethodHandle" ∧ owner ≠ "java/lang/invoke/VarHandle")
    (hsel : (Cond.selects C x y).before args s = true) (hinst : (Cond.instanceMethod y).before args s = true) (hcode : (Cond.code y bytes maxL ret).before args s = true)
    {W : Nat} {Pre : Pt → Array Value → Prop} {Post : Pt → Array Value → Option Value → Pt → Prop} {PostX : Pt → Array Value → Addr → Pt → Prop} (hK : vx_Back l R p e below s args y 3 W Pre Post PostX)
    {b : Addr} {cellB : Cell} (hcell : T.heap[b]? = some cellB) (hobj : cellB.vm.isStatics = false) (hcls : s.vm.findClass C = some cellB.cls)
    {g : JFrame} (hg : g.method = m) (hsize : g.locals.size = c.maxLocals) {argsL rest : List Value} (hlen : ∀ sig, parseMethodDescriptor x.desc = some sig → argsL.length = sig.parameters.length)
    (hstack : g.stack = argsL.reverse ++ .ref b :: rest) (hW : 2 * g.monitorRoom + (rest.map fun v => v.category).sum ≤ W) (hdg : decode c.code g.pc = .ok (.invokevirtual index, 3))
    (hpre : ∀ vm₁, s.WarmedH vm₁ → Pre ⟨T.setVm vm₁, locs, cells, slots⟩ (Value.ref b :: argsL).toArray) :
    (∃ (v : Option Value) (vm₁ : Vm) (B : Pt), s.WarmedH vm₁ ∧ Stand p l e R s m args below meth c B.U B.locs B.cells B.slots ∧ Post ⟨T.setVm vm₁, locs, cells, slots⟩ (Value.ref b :: argsL).toArray v B ∧
      ∀ target, Steps p.tables e below (B.U.setTop { g with pc := g.pc + 3, stack := v.toList ++ rest }) target → Steps p.tables e below (T.setTop g) target) ∨
    (∃ (q : Addr) (vm₁ : Vm) (B : Pt), s.WarmedH vm₁ ∧ Stand p l e R s m args below meth c B.U B.locs B.cells B.slots ∧ PostX ⟨T.setVm vm₁, locs, cells, slots⟩ (Value.ref b :: argsL).toArray q B ∧
      Steps p.tables e below (T.setTop g) ((B.U.setTop { g with stack := rest }).pushFrame (.throwing q))) := by
  obtain ⟨r0, r, hn, hrm, hstR, hsigR⟩ := hd0
  obtain ⟨cn, ck, r1, hcn, hck, hni, hf, hn1⟩ := Cond.sameMethod_found hsame
  cases hn.symm.trans hn1
  obtain ⟨mk, methM, hnamed, hmethM, -, habM⟩ := Cond.instanceMethod_spec hinst
  obtain ⟨c2, r2, m2, q1, q2, q3, q4, kP, hkP, hkPi⟩ := Cond.selects_spec hsel
  cases hcls.symm.trans q1
  cases hf.symm.trans q2
  cases hnamed.symm.trans q3
  have hselP : selectMethod e.platform s.vm cellB.cls r0 = .method mk := by rw [Launch.admits_selectMethod X.admits]; exact q4
  obtain ⟨vm₁, X₁, hstep₁⟩ := X.invokevirtualUp hexec hown hlink hsame howner hn hrm hstR (a := b) (cell := cellB) hcell
    (fun z h => by rw [h] at hobj; cases hobj) hselP hmethM habM hkP hkPi (g := g) hg (argsL := argsL) (rest := rest) (hlen _ hsigR) hstack hdg
  rcases hK m meth c ⟨T.setVm vm₁, locs, cells, slots⟩ { g with stack := rest } (.invokevirtual index) mk (Value.ref b :: argsL).toArray X₁ hg hsize hdg hW (X₁.named hnamed) (hpre vm₁ X₁.warmed) with ⟨v, B, X', hpost, hsteps⟩ | ⟨q, B, X', hpost, hsteps⟩
  · exact Or.inl ⟨v, vm₁, B, X₁.warmed, X', hpost, fun target h => hstep₁ _ fun acts => by rw [doInvoke_state]; exact hsteps.trans h⟩
  · exact Or.inr ⟨q, vm₁, B, X₁.warmed, X', hpost, hstep₁ _ fun acts => by rw [doInvoke_state]; exact hsteps⟩
theorem vx_runU {x y : MethodName} {bytes cc : ByteArray} {maxL nL mc ms n index : Nat} {ret : Option FieldType} {ws : List Cond} {rm : Room} {Pc : Array Value → State → Prop} {Qc : Array Value → State → Outcome → State → Prop} {XC : String → State → State → Prop} {free : Addr → Prop} {Ts : List Cond} {own C owner : String} {b : Addr} {As rest : List Value} {g : JFrame}
    (S : CallFix p m c cc nL s args Ts own) (hM : vx_Met l y ws rm Pc Qc XC mc ms free) (cw : va_CU R s args own C owner index x y bytes maxL ret ws rm mc ms n) (hp : PreV s H C b Pc As)
    (hg : g.method = m) (hn : As.length = n) (hsize : g.locals.size = nL) (hstack : g.stack = As.reverse ++ .ref b :: rest) (hW : 2 * g.monitorRoom + (rest.map fun v => v.category).sum ≤ 8) (hdg : decode cc g.pc = .ok (.invokevirtual index, 3)) (hf : cells + mc ≤ R.cells ∧ slots + ms ≤ R.slots) :
    vx_Run p l e R s m args below meth c H locs cells slots mc ms g rest (Qc (Value.ref b :: As).toArray) XC free := by
  obtain ⟨hrc, hrs, hfr, hlo, hws, hcw⟩ := cw.back
  have hini := cw.init
  have hK : vx_Back l R p e below s args y 3 8 (PreOf R mc ms Pc) (PostOf Qc mc ms free) (vx_Post XC mc ms free) := vx_back (bytes := bytes) (maxL := maxL) (ret := ret) hM hp.1 hrc hrs hfr hlo hws hcw (fun a' U hW => word_at hW (Or.inl (by first | rfl | simp [Cond.onTables, Cond.keeps, Cond.steady])) hini)
  obtain ⟨hx, hb, hml, ho, -⟩ := S
  obtain ⟨-, ⟨cellB, hcB, hoB, hclB⟩, hPc⟩ := hp
  intro T hT X
  rcases vx_callVU X hx (C := C) (owner := owner) (bytes := bytes) (maxL := maxL) (ret := ret) ho cw.link cw.same cw.decl cw.notMH cw.sel cw.inst cw.code hK (by rw [hT]; exact hcB) hoB hclB hg (hsize.trans hml.symm) (argsL := As) (rest := rest) (fun sig h => hn.trans (cw.len sig h)) hstack hW (by rw [hb]; exact hdg)
    (fun vm₁ hW₁ => ⟨hf.1, hf.2, hPc (T.setVm vm₁) hT hW₁⟩) with ⟨v, vm₁, ⟨U', l2, c2, s2⟩, hW₁, X', ⟨g', mk, t, L, e1, e2, hq, h1, hL, h2, h3⟩, st⟩ | ⟨q, vm₁, ⟨U', l2, c2, s2⟩, hW₁, X', ⟨g', mk, t, L, E, ce, e1, e2, hq, hce, hcv, hcl, h1, hL, h2, h3⟩, st⟩
  · dsimp only [Pt.U, Pt.locs, Pt.cells, Pt.slots] at X' e1 e2 h1 h2 h3 st
    subst h1; subst h2; subst h3
    exact Or.inl ⟨v, (T.setVm vm₁).calling g' mk (Value.ref b :: As).toArray, t, U', L, hT, X', hL, e1, e2, hq, st⟩
  · dsimp only [Pt.U, Pt.locs, Pt.cells, Pt.slots] at X' e1 e2 h1 h2 h3 st hcl
    subst h1; subst h2; subst h3
    exact Or.inr ⟨q, (T.setVm vm₁).calling g' mk (Value.ref b :: As).toArray, t, U', L, E, ce, hT, X', hL, e1, e2, hq, hce, hcv, vx_cls hW₁ hcl, st⟩
end
/-! ===== END ===== -/
/-! ===== BEGIN super.m(..) that may throw (follows va_callSU, va_runSU) ===== -/
section
variable {p : Program} {l : Launch} {e : Env} {R : Room} {s : State} {m : MethodId} {args : Array Value} {below : List Frame} {meth : Method} {c : Code} {H : Heap} {locs : List Loc} {cells slots : Nat}
theorem vx_callSU {T : State} {locs : List Loc} {cells slots : Nat} (X : Stand p l e R s m args below meth c T locs cells slots) (hexec : p.tables.exec = Jvm.exec) {own : String} {index : Nat} {y : MethodName} {bytes : ByteArray} {maxL : Nat} {ret : Option FieldType}
    (hown : s.vm.findClass own = some m.cls) (hlink : (Cond.methodLink own index y).before args s = true) (hsame : (Cond.sameMethod y.cls y.cls y.name y.desc).before args s = true) (hsup : (Cond.superclass own y.cls).before args s = true)
    (hinst : (Cond.instanceMethod y).before args s = true) (hcode : (Cond.code y bytes maxL ret).before args s = true) (hno : y.name ≠ "<init>")
    {W : Nat} {Pre : Pt → Array Value → Prop} {Post : Pt → Array Value → Option Value → Pt → Prop} {PostX : Pt → Array Value → Addr → Pt → Prop} (hK : vx_Back l R p e below s args y 3 W Pre Post PostX)
    {b : Addr} {cellB : Cell} {kB : Class} (hcell : T.heap[b]? = some cellB) (hobj : cellB.vm.isStatics = false) (hkB : s.vm.classes[cellB.cls]? = some kB)
    {g : JFrame} (hg : g.method = m) (hsize : g.locals.size = c.maxLocals) {argsL rest : List Value} (hlen : ∀ sig, parseMethodDescriptor y.desc = some sig → argsL.length = sig.parameters.length)
    (hstack : g.stack = argsL.reverse ++ .ref b :: rest) (hW : 2 * g.monitorRoom + (rest.map fun v => v.category).sum ≤ W) (hdg : decode c.code g.pc = .ok (.invokespecial index, 3))
    (hpre : ∀ vm₁, s.WarmedH vm₁ → Pre ⟨T.setVm vm₁, locs, cells, slots⟩ (Value.ref b :: argsL).toArray) :
    (∃ (v : Option Value) (vm₁ : Vm) (B : Pt), s.WarmedH vm₁ ∧ Stand p l e R s m args below meth c B.U B.locs B.cells B.slots ∧ Post ⟨T.setVm vm₁, locs, cells, slots⟩ (Value.ref b :: argsL).toArray v B ∧
      ∀ target, Steps p.tables e below (B.U.setTop { g with pc := g.pc + 3, stack := v.toList ++ rest }) target → Steps p.tables e below (T.setTop g) target) ∨
    (∃ (q : Addr) (vm₁ : Vm) (B : Pt), s.WarmedH vm₁ ∧ Stand p l e R s m args below meth c B.U B.locs B.cells B.slots ∧ PostX ⟨T.setVm vm₁, locs, cells, slots⟩ (Value.ref b :: argsL).toArray q B ∧
      Steps p.tables e below (T.setTop g) ((B.U.setTop { g with stack := rest }).pushFrame (.throwing q))) := by
  obtain ⟨mk, methM, hnamed, hmethM, hstM, habM⟩ := Cond.instanceMethod_spec hinst
  obtain ⟨methM', cM, hmethM', -, -, -, -, -, -, hsigM⟩ := Cond.code_spec hnamed hcode
  cases hmethM.symm.trans hmethM'
  obtain ⟨ps, dk, kp, hps, hdk, hkp, hsuper, -, -, hnid⟩ := Cond.superclass_spec hown hsup
  have hn : s.methodNamed? ⟨y.cls, y.name, y.desc⟩ = some mk := hnamed
  have hpm : ps = mk.cls := Option.some.inj (hps.symm.trans (findClass_of_methodNamed hnamed))
  have hsub : s.vm.isSubclass ps mk.cls = true := by rw [hpm]; simp [Vm.isSubclass, Vm.isSubclassAux]
  obtain ⟨vm₁, X₁, hstep₁⟩ := X.invokespecialUp hexec hown hlink hsame hn hmethM hstM habM hno hdk hnid hps hsuper hsub (a := b) (cell := cellB) hcell
    (fun z h => by rw [h] at hobj; cases hobj) hkB (g := g) hg (argsL := argsL) (rest := rest) (hlen _ hsigM) hstack hdg
  rcases hK m meth c ⟨T.setVm vm₁, locs, cells, slots⟩ { g with stack := rest } (.invokespecial index) mk (Value.ref b :: argsL).toArray X₁ hg hsize hdg hW (X₁.named hnamed) (hpre vm₁ X₁.warmed) with ⟨v, B, X', hpost, hsteps⟩ | ⟨q, B, X', hpost, hsteps⟩
  · exact Or.inl ⟨v, vm₁, B, X₁.warmed, X', hpost, fun target h => hstep₁ _ (by rw [doInvoke_state]; exact hsteps.trans h)⟩
  · exact Or.inr ⟨q, vm₁, B, X₁.warmed, X', hpost, hstep₁ _ (by rw [doInvoke_state]; exact hsteps)⟩
theorem vx_runSU {y : MethodName} {bytes cc : ByteArray} {maxL nL mc ms n index : Nat} {ret : Option FieldType} {ws : List Cond} {rm : Room} {Pc : Array Value → State → Prop} {Qc : Array Value → State → Outcome → State → Prop} {XC : String → State → State → Prop} {free : Addr → Prop} {Ts : List Cond} {own C : String} {cC : ClassId} {b : Addr} {As rest : List Value} {g : JFrame}
    (hat : ClassAt s C cC) (S : CallFix p m c cc nL s args Ts own) (hM : vx_Met l y ws rm Pc Qc XC mc ms free) (cw : va_CS R s args own index y bytes maxL ret ws rm mc ms n) (hp : PreV s H C b Pc As)
    (hg : g.method = m) (hn : As.length = n) (hsize : g.locals.size = nL) (hstack : g.stack = As.reverse ++ .ref b :: rest) (hW : 2 * g.monitorRoom + (rest.map fun v => v.category).sum ≤ 8) (hdg : decode cc g.pc = .ok (.invokespecial index, 3)) (hf : cells + mc ≤ R.cells ∧ slots + ms ≤ R.slots) :
    vx_Run p l e R s m args below meth c H locs cells slots mc ms g rest (Qc (Value.ref b :: As).toArray) XC free := by
  obtain ⟨⟨hrc, hrs, hfr, hlo, hws, hcw⟩, hl1, hl2, hl3, hl4, hini, hcode, hno, hlen⟩ := cw
  have hK : vx_Back l R p e below s args y 3 8 (PreOf R mc ms Pc) (PostOf Qc mc ms free) (vx_Post XC mc ms free) := vx_back (bytes := bytes) (maxL := maxL) (ret := ret) hM hp.1 hrc hrs hfr hlo hws hcw (fun a' U hW => word_at hW (Or.inl (by first | rfl | simp [Cond.onTables, Cond.keeps, Cond.steady])) hini)
  obtain ⟨hx, hb, hml, ho, -⟩ := S
  obtain ⟨-, ⟨cellB, hcB, hoB, hclB⟩, hPc⟩ := hp
  obtain ⟨hfc, kB, hkB, -⟩ := hat
  cases hfc.symm.trans hclB
  intro T hT X
  rcases vx_callSU X hx (bytes := bytes) (maxL := maxL) (ret := ret) ho hl1 hl2 hl3 hl4 hcode hno hK (by rw [hT]; exact hcB) hoB hkB hg (hsize.trans hml.symm) (argsL := As) (rest := rest) (fun sig h => hn.trans (hlen sig h)) hstack hW (by rw [hb]; exact hdg)
    (fun vm₁ hW₁ => ⟨hf.1, hf.2, hPc (T.setVm vm₁) hT hW₁⟩) with ⟨v, vm₁, ⟨U', l2, c2, s2⟩, hW₁, X', ⟨g', mk, t, L, e1, e2, hq, h1, hL, h2, h3⟩, st⟩ | ⟨q, vm₁, ⟨U', l2, c2, s2⟩, hW₁, X', ⟨g', mk, t, L, E, ce, e1, e2, hq, hce, hcv, hcl, h1, hL, h2, h3⟩, st⟩
  · dsimp only [Pt.U, Pt.locs, Pt.cells, Pt.slots] at X' e1 e2 h1 h2 h3 st
    subst h1; subst h2; subst h3
    exact Or.inl ⟨v, (T.setVm vm₁).calling g' mk (Value.ref b :: As).toArray, t, U', L, hT, X', hL, e1, e2, hq, st⟩
  · dsimp only [Pt.U, Pt.locs, Pt.cells, Pt.slots] at X' e1 e2 h1 h2 h3 st hcl
    subst h1; subst h2; subst h3
    exact Or.inr ⟨q, (T.setVm vm₁).calling g' mk (Value.ref b :: As).toArray, t, U', L, E, ce, hT, X', hL, e1, e2, hq, hce, hcv, vx_cls hW₁ hcl, st⟩
end
/-! ===== END ===== -/
/-! ===== BEGIN a private method of a nest mate that may throw (follows va_callVN, va_callSN, va_runVN, va_runSN) ===== -/
section
variable {p : Program} {l : Launch} {e : Env} {R : Room} {s : State} {m : MethodId} {args : Array Value} {below : List Frame} {meth : Method} {c : Code} {H : Heap} {locs : List Loc} {cells slots : Nat}
variable {T : State}
theorem vx_callVN (X : Stand p l e R s m args below meth c T locs cells slots) (hexec : p.tables.exec = Jvm.exec) {own C : String} {index : Nat} {host : String} {y : MethodName} {bytes : ByteArray} {maxL : Nat} {ret : Option FieldType}
    (hown : s.vm.findClass own = some m.cls) (hlink : (Cond.methodLinkNest own index y host).before args s = true) (hinst : (Cond.instanceMethod y).before args s = true) (hsel : (Cond.selects C y y).before args s = true)
    (hcode : (Cond.code y bytes maxL ret).before args s = true) (hy : y.cls ≠ "java/lang/invoke/MethodHandle" ∧ y.cls ≠ "java/lang/invoke/VarHandle")
    {W : Nat} {Pre : Pt → Array Value → Prop} {Post : Pt → Array Value → Option Value → Pt → Prop} {PostX : Pt → Array Value → Addr → Pt → Prop} (hK : vx_Back l R p e below s args y 3 W Pre Post PostX)
    {b : Addr} {cellB : Cell} (hcell : T.heap[b]? = some cellB) (hobj : cellB.vm.isStatics = false) (hcls : s.vm.findClass C = some cellB.cls)
    {g : JFrame} (hg : g.method = m) (hsize : g.locals.size = c.maxLocals) {argsL rest : List Value} (hlen : ∀ sig, parseMethodDescriptor y.desc = some sig → argsL.length = sig.parameters.length)
    (hstack : g.stack = argsL.reverse ++ .ref b :: rest) (hW : 2 * g.monitorRoom + (rest.map fun v => v.category).sum ≤ W) (hdg : decode c.code g.pc = .ok (.invokevirtual index, 3))
    (hpre : ∀ vm₁, s.WarmedH vm₁ → Pre ⟨T.setVm vm₁, locs, cells, slots⟩ (Value.ref b :: argsL).toArray) :
    (∃ (v : Option Value) (vm₁ : Vm) (B : Pt), s.WarmedH vm₁ ∧ Stand p l e R s m args below meth c B.U B.locs B.cells B.slots ∧ Post ⟨T.setVm vm₁, locs, cells, slots⟩ (Value.ref b :: argsL).toArray v B ∧
      ∀ target, Steps p.tables e below (B.U.setTop { g with pc := g.pc + 3, stack := v.toList ++ rest }) target → Steps p.tables e below (T.setTop g) target) ∨
    (∃ (q : Addr) (vm₁ : Vm) (B : Pt), s.WarmedH vm₁ ∧ Stand p l e R s m args below meth c B.U B.locs B.cells B.slots ∧ PostX ⟨T.setVm vm₁, locs, cells, slots⟩ (Value.ref b :: argsL).toArray q B ∧
      Steps p.tables e below (T.setTop g) ((B.U.setTop { g with stack := rest }).pushFrame (.throwing q))) := by
  obtain ⟨mk, methM, hnamed, hmethM, hstM, habM⟩ := Cond.instanceMethod_spec hinst
  obtain ⟨methM', cM, hmethM', -, -, -, -, -, -, hsigM⟩ := Cond.code_spec hnamed hcode
  cases hmethM.symm.trans hmethM'
  obtain ⟨c2, r2, m2, q1, q2, q3, q4, kP, hkP, hkPi⟩ := Cond.selects_spec hsel
  cases hcls.symm.trans q1
  cases (State.methodFound?_of_named hnamed hy).symm.trans q2
  cases hnamed.symm.trans q3
  have hselP : selectMethod e.platform s.vm cellB.cls mk = .method mk := by rw [Launch.admits_selectMethod X.admits]; exact q4
  obtain ⟨vm₁, X₁, hstep₁⟩ := X.invokevirtualNest hexec hown hlink hnamed hmethM hstM hkP hkPi hy (a := b) (cell := cellB) hcell
    (fun z h => by rw [h] at hobj; cases hobj) hselP hmethM habM hkP hkPi (g := g) hg (argsL := argsL) (rest := rest) (hlen _ hsigM) hstack hdg
  rcases hK m meth c ⟨T.setVm vm₁, locs, cells, slots⟩ { g with stack := rest } (.invokevirtual index) mk (Value.ref b :: argsL).toArray X₁ hg hsize hdg hW (X₁.named hnamed) (hpre vm₁ X₁.warmed) with ⟨v, B, X', hpost, hsteps⟩ | ⟨q, B, X', hpost, hsteps⟩
  · exact Or.inl ⟨v, vm₁, B, X₁.warmed, X', hpost, fun target h => hstep₁ _ fun acts => by rw [doInvoke_state]; exact hsteps.trans h⟩
  · exact Or.inr ⟨q, vm₁, B, X₁.warmed, X', hpost, hstep₁ _ fun acts => by rw [doInvoke_state]; exact hsteps⟩
theorem vx_callSN (X : Stand p l e R s m args below meth c T locs cells slots) (hexec : p.tables.exec = Jvm.exec) {own : String} {index : Nat} {host : String} {y : MethodName} {bytes : ByteArray} {maxL : Nat} {ret : Option FieldType}
    (hown : s.vm.findClass own = some m.cls) (hlink : (Cond.methodLinkNest own index y host).before args s = true) (hstat : (Cond.static y).before args s = true) (hinit : (Cond.initialized y.cls).before args s = true)
    (hcode : (Cond.code y bytes maxL ret).before args s = true) (hy : y.cls ≠ "java/lang/invoke/MethodHandle" ∧ y.cls ≠ "java/lang/invoke/VarHandle")
    {W : Nat} {Pre : Pt → Array Value → Prop} {Post : Pt → Array Value → Option Value → Pt → Prop} {PostX : Pt → Array Value → Addr → Pt → Prop} (hK : vx_Back l R p e below s args y 3 W Pre Post PostX)
    {g : JFrame} (hg : g.method = m) (hsize : g.locals.size = c.maxLocals) {argsL rest : List Value} (hlen : ∀ sig, parseMethodDescriptor y.desc = some sig → argsL.length = sig.parameters.length)
    (hstack : g.stack = argsL.reverse ++ rest) (hW : 2 * g.monitorRoom + (rest.map fun v => v.category).sum ≤ W) (hdg : decode c.code g.pc = .ok (.invokestatic index, 3))
    (hpre : ∀ vm₁, s.WarmedH vm₁ → Pre ⟨T.setVm vm₁, locs, cells, slots⟩ argsL.toArray) :
    (∃ (v : Option Value) (vm₁ : Vm) (B : Pt), s.WarmedH vm₁ ∧ Stand p l e R s m args below meth c B.U B.locs B.cells B.slots ∧ Post ⟨T.setVm vm₁, locs, cells, slots⟩ argsL.toArray v B ∧
      ∀ target, Steps p.tables e below (B.U.setTop { g with pc := g.pc + 3, stack := v.toList ++ rest }) target → Steps p.tables e below (T.setTop g) target) ∨
    (∃ (q : Addr) (vm₁ : Vm) (B : Pt), s.WarmedH vm₁ ∧ Stand p l e R s m args below meth c B.U B.locs B.cells B.slots ∧ PostX ⟨T.setVm vm₁, locs, cells, slots⟩ argsL.toArray q B ∧
      Steps p.tables e below (T.setTop g) ((B.U.setTop { g with stack := rest }).pushFrame (.throwing q))) := by
  obtain ⟨mk, hnamed⟩ := Cond.code_named hcode
  obtain ⟨methM, cM, hmethM, -, -, -, -, -, -, hsigM⟩ := Cond.code_spec hnamed hcode
  have hstatic : methM.isStatic = true := Cond.static_spec hnamed hmethM hstat
  obtain ⟨kP, hkP, -⟩ := className_of_methodNamed hnamed
  have hinitP : kP.init = .initialized := Cond.initialized_spec (findClass_of_methodNamed hnamed) hkP hinit
  obtain ⟨vm₁, X₁, hstep₁⟩ := X.invokestaticNest hexec hown hlink hnamed hmethM hstatic hkP hinitP hy (g := g) hg (argsL := argsL) (rest := rest) (hlen _ hsigM) hstack hdg
  rcases hK m meth c ⟨T.setVm vm₁, locs, cells, slots⟩ { g with stack := rest } (.invokestatic index) mk argsL.toArray X₁ hg hsize hdg hW (X₁.named hnamed) (hpre vm₁ X₁.warmed) with ⟨v, B, X', hpost, hsteps⟩ | ⟨q, B, X', hpost, hsteps⟩
  · exact Or.inl ⟨v, vm₁, B, X₁.warmed, X', hpost, fun target h => hstep₁ _ fun acts => by rw [doInvoke_state]; exact hsteps.trans h⟩
  · exact Or.inr ⟨q, vm₁, B, X₁.warmed, X', hpost, hstep₁ _ fun acts => by rw [doInvoke_state]; exact hsteps⟩
theorem vx_runVN {y : MethodName} {bytes cc : ByteArray} {maxL nL mc ms n index : Nat} {ret : Option FieldType} {ws : List Cond} {rm : Room} {Pc : Array Value → State → Prop} {Qc : Array Value → State → Outcome → State → Prop} {XC : String → State → State → Prop} {free : Addr → Prop} {Ts : List Cond} {own C host : String} {b : Addr} {As rest : List Value} {g : JFrame}
    (S : CallFix p m c cc nL s args Ts own) (hM : vx_Met l y ws rm Pc Qc XC mc ms free) (cw : va_CN R s args own index y host bytes maxL ret ws rm mc ms n ∧ (Cond.instanceMethod y).before args s = true ∧ (Cond.selects C y y).before args s = true) (hp : PreV s H C b Pc As)
    (hg : g.method = m) (hn : As.length = n) (hsize : g.locals.size = nL) (hstack : g.stack = As.reverse ++ .ref b :: rest) (hW : 2 * g.monitorRoom + (rest.map fun v => v.category).sum ≤ 8) (hdg : decode cc g.pc = .ok (.invokevirtual index, 3)) (hf : cells + mc ≤ R.cells ∧ slots + ms ≤ R.slots) :
    vx_Run p l e R s m args below meth c H locs cells slots mc ms g rest (Qc (Value.ref b :: As).toArray) XC free := by
  obtain ⟨⟨⟨hrc, hrs, hfr, hlo, hws, hcw⟩, hcode, hini, hy, hlen, hl⟩, hx1, hx2⟩ := cw
  have hK : vx_Back l R p e below s args y 3 8 (PreOf R mc ms Pc) (PostOf Qc mc ms free) (vx_Post XC mc ms free) := vx_back (bytes := bytes) (maxL := maxL) (ret := ret) hM hp.1 hrc hrs hfr hlo hws hcw (fun a' U hW => word_at hW (Or.inl (by first | rfl | simp [Cond.onTables, Cond.keeps, Cond.steady])) hini)
  obtain ⟨hx, hb, hml, ho, -⟩ := S
  obtain ⟨-, ⟨cellB, hcB, hoB, hclB⟩, hPc⟩ := hp
  intro T hT X
  rcases vx_callVN X hx (C := C) (bytes := bytes) (maxL := maxL) (ret := ret) ho hl hx1 hx2 hcode hy hK (by rw [hT]; exact hcB) hoB hclB hg (hsize.trans hml.symm) (argsL := As) (rest := rest) (fun sig h => hn.trans (hlen sig h)) hstack hW (by rw [hb]; exact hdg)
    (fun vm₁ hW₁ => ⟨hf.1, hf.2, hPc (T.setVm vm₁) hT hW₁⟩) with ⟨v, vm₁, ⟨U', l2, c2, s2⟩, hW₁, X', ⟨g', mk, t, L, e1, e2, hq, h1, hL, h2, h3⟩, st⟩ | ⟨q, vm₁, ⟨U', l2, c2, s2⟩, hW₁, X', ⟨g', mk, t, L, E, ce, e1, e2, hq, hce, hcv, hcl, h1, hL, h2, h3⟩, st⟩
  · dsimp only [Pt.U, Pt.locs, Pt.cells, Pt.slots] at X' e1 e2 h1 h2 h3 st
    subst h1; subst h2; subst h3
    exact Or.inl ⟨v, (T.setVm vm₁).calling g' mk (Value.ref b :: As).toArray, t, U', L, hT, X', hL, e1, e2, hq, st⟩
  · dsimp only [Pt.U, Pt.locs, Pt.cells, Pt.slots] at X' e1 e2 h1 h2 h3 st hcl
    subst h1; subst h2; subst h3
    exact Or.inr ⟨q, (T.setVm vm₁).calling g' mk (Value.ref b :: As).toArray, t, U', L, E, ce, hT, X', hL, e1, e2, hq, hce, hcv, vx_cls hW₁ hcl, st⟩
theorem vx_runSN {y : MethodName} {bytes cc : ByteArray} {maxL nL mc ms n index : Nat} {ret : Option FieldType} {ws : List Cond} {rm : Room} {Pc : Array Value → State → Prop} {Qc : Array Value → State → Outcome → State → Prop} {XC : String → State → State → Prop} {free : Addr → Prop} {Ts : List Cond} {own host : String} {As rest : List Value} {g : JFrame}
    (S : CallFix p m c cc nL s args Ts own) (hM : vx_Met l y ws rm Pc Qc XC mc ms free) (cw : va_CN R s args own index y host bytes maxL ret ws rm mc ms n ∧ (Cond.static y).before args s = true ∧ True) (hp : PreS s H Pc As)
    (hg : g.method = m) (hn : As.length = n) (hsize : g.locals.size = nL) (hstack : g.stack = As.reverse ++ rest) (hW : 2 * g.monitorRoom + (rest.map fun v => v.category).sum ≤ 8) (hdg : decode cc g.pc = .ok (.invokestatic index, 3)) (hf : cells + mc ≤ R.cells ∧ slots + ms ≤ R.slots) :
    vx_Run p l e R s m args below meth c H locs cells slots mc ms g rest (Qc As.toArray) XC free := by
  obtain ⟨⟨⟨hrc, hrs, hfr, hlo, hws, hcw⟩, hcode, hini, hy, hlen, hl⟩, hx1, hx2⟩ := cw
  have hK : vx_Back l R p e below s args y 3 8 (PreOf R mc ms Pc) (PostOf Qc mc ms free) (vx_Post XC mc ms free) := vx_back (bytes := bytes) (maxL := maxL) (ret := ret) hM hp.1 hrc hrs hfr hlo hws hcw (fun a' U hW => word_at hW (Or.inl (by first | rfl | simp [Cond.onTables, Cond.keeps, Cond.steady])) hini)
  obtain ⟨hx, hb, hml, ho, -⟩ := S
  have hPc := hp.2
  intro T hT X
  rcases vx_callSN X hx (bytes := bytes) (maxL := maxL) (ret := ret) ho hl hx1 hini hcode hy hK hg (hsize.trans hml.symm) (argsL := As) (rest := rest) (fun sig h => hn.trans (hlen sig h)) hstack hW (by rw [hb]; exact hdg)
    (fun vm₁ hW₁ => ⟨hf.1, hf.2, hPc (T.setVm vm₁) hT hW₁⟩) with ⟨v, vm₁, ⟨U', l2, c2, s2⟩, hW₁, X', ⟨g', mk, t, L, e1, e2, hq, h1, hL, h2, h3⟩, st⟩ | ⟨q, vm₁, ⟨U', l2, c2, s2⟩, hW₁, X', ⟨g', mk, t, L, E, ce, e1, e2, hq, hce, hcv, hcl, h1, hL, h2, h3⟩, st⟩
  · dsimp only [Pt.U, Pt.locs, Pt.cells, Pt.slots] at X' e1 e2 h1 h2 h3 st
    subst h1; subst h2; subst h3
    exact Or.inl ⟨v, (T.setVm vm₁).calling g' mk As.toArray, t, U', L, hT, X', hL, e1, e2, hq, st⟩
  · dsimp only [Pt.U, Pt.locs, Pt.cells, Pt.slots] at X' e1 e2 h1 h2 h3 st hcl
    subst h1; subst h2; subst h3
    exact Or.inr ⟨q, (T.setVm vm₁).calling g' mk As.toArray, t, U', L, E, ce, hT, X', hL, e1, e2, hq, hce, hcv, vx_cls hW₁ hcl, st⟩
end
/-! ===== END ===== -/
/-! ===== BEGIN calls by an interface of methods that may throw (vx_callIF, vx_runF follow va_callIF, va_runF of this kit) ===== -/
section
variable {p : Program} {l : Launch} {e : Env} {R : Room} {s : State} {m : MethodId} {args : Array Value} {below : List Frame} {meth : Method} {c : Code} {H : Heap} {locs : List Loc} {cells slots : Nat} {Q : State → Prop}
variable {mc ms : Nat} {free : Addr → Prop} {A0 A1 : Nat → Prop} {H0 : Heap} {a : Array Value} {pc : Nat} {ls : Array Slot} {st0 rest : List Value}
def vx_Run5 (p : Program) (l : Launch) (e : Env) (R : Room) (s : State) (m : MethodId) (args : Array Value) (below : List Frame) (meth : Method) (c : Code) (H : Heap) (locs : List Loc) (cells slots mc ms : Nat) (g : JFrame) (rest : List Value) (Qa : State → Outcome → State → Prop) (XC : String → State → State → Prop) (free : Addr → Prop) : Prop :=
  ∀ T : State, T.heap = H → Stand p l e R s m args below meth c T locs cells slots →
    (∃ (v : Option Value) (st₀ t T' : State) (L : List Loc), st₀.heap = H ∧ Stand p l e R s m args below meth c T' (locs ++ L) (cells + mc) (slots + ms) ∧ (∀ q ∈ L, free q.base) ∧ T'.heap = t.heap ∧ T'.vm = t.vm ∧ Qa st₀ (.returned v) t ∧
      Goes p e below T g T' { g with pc := g.pc + 5, stack := v.toList ++ rest }) ∨
    (∃ (q : Addr) (st₀ t T' : State) (L : List Loc) (E : String) (ce : Cell), st₀.heap = H ∧ Stand p l e R s m args below meth c T' (locs ++ L) (cells + mc) (slots + ms) ∧ (∀ z ∈ L, free z.base) ∧ T'.heap = t.heap ∧ T'.vm = t.vm ∧ XC E st₀ t ∧ t.heap[q]? = some ce ∧ ce.vm = .none ∧ s.vm.findClass E = some ce.cls ∧
      Steps p.tables e below (T.setTop g) ((T'.setTop { g with stack := rest }).pushFrame (.throwing q)))
theorem vx_callIF {T : State} (X : Stand p l e R s m args below meth c T locs cells slots) (hexec : p.tables.exec = Jvm.exec) {own C : String} {index count : Nat} {x y : MethodName} {bytes : ByteArray} {maxL : Nat} {ret : Option FieldType}
    (hown : s.vm.findClass own = some m.cls) (hlink : (Cond.methodLink own index x).before args s = true) (hdecl : (Cond.declares x).before args s = true) (hface : (Cond.interfaceMethod x.cls x.cls x.name x.desc).before args s = true)
    (hsel : (Cond.selects C x y).before args s = true) (hinst : (Cond.instanceMethod y).before args s = true) (hpub : (Cond.publicMethod y).before args s = true) (hunh : (Cond.unhidden C x.name x.desc).before args s = true)
    (hcast : (Cond.castable C x.cls).before args s = true) (hcode : (Cond.code y bytes maxL ret).before args s = true) (hx : x.cls ≠ "java/lang/invoke/MethodHandle" ∧ x.cls ≠ "java/lang/invoke/VarHandle")
    {W9 : Nat} {Pre : Pt → Array Value → Prop} {Post : Pt → Array Value → Option Value → Pt → Prop} {PostX : Pt → Array Value → Addr → Pt → Prop} (hK : vx_Back l R p e below s args y 5 W9 Pre Post PostX)
    {b : Addr} {cellB : Cell} {kB : Class} (hcell : T.heap[b]? = some cellB) (hobj : cellB.vm.isStatics = false) (hcls : s.vm.findClass C = some cellB.cls) (hkB : s.vm.classes[cellB.cls]? = some kB)
    {g : JFrame} (hg : g.method = m) (hsize : g.locals.size = c.maxLocals) {argsL rest : List Value} (hlen : ∀ sig, parseMethodDescriptor x.desc = some sig → argsL.length = sig.parameters.length)
    (hstack : g.stack = argsL.reverse ++ .ref b :: rest) (hW : 2 * g.monitorRoom + (rest.map fun v => v.category).sum ≤ W9) (hdg : decode c.code g.pc = .ok (.invokeinterface index count, 5))
    (hpre : ∀ vm₁, s.WarmedH vm₁ → Pre ⟨T.setVm vm₁, locs, cells, slots⟩ (Value.ref b :: argsL).toArray) :
    (∃ (v : Option Value) (vm₁ : Vm) (B : Pt), s.WarmedH vm₁ ∧ Stand p l e R s m args below meth c B.U B.locs B.cells B.slots ∧ Post ⟨T.setVm vm₁, locs, cells, slots⟩ (Value.ref b :: argsL).toArray v B ∧
      ∀ target, Steps p.tables e below (B.U.setTop { g with pc := g.pc + 5, stack := v.toList ++ rest }) target → Steps p.tables e below (T.setTop g) target) ∨
    (∃ (q : Addr) (vm₁ : Vm) (B : Pt), s.WarmedH vm₁ ∧ Stand p l e R s m args below meth c B.U B.locs B.cells B.slots ∧ PostX ⟨T.setVm vm₁, locs, cells, slots⟩ (Value.ref b :: argsL).toArray q B ∧
      Steps p.tables e below (T.setTop g) ((B.U.setTop { g with stack := rest }).pushFrame (.throwing q))) := by
  obtain ⟨r0, r, hn, hrm, hstR, hsigR⟩ := Cond.declares_spec hdecl
  obtain ⟨cL, kL, r1, hcL, hkL, hiL, hfoundL, hn1⟩ := Cond.interfaceMethod_spec hface
  cases hn.symm.trans hn1
  have hr0cls : r0.cls = cL := Option.some.inj ((findClass_of_methodNamed hn).symm.trans hcL)
  obtain ⟨hnameR, hdescR⟩ := name_of_methodNamed hn hrm
  obtain ⟨mk, methM, hnamed, hmethM, -, habM⟩ := Cond.instanceMethod_spec hinst
  obtain ⟨c2, r2, m2, q1, q2, q3, q4, -⟩ := Cond.selects_spec hsel
  cases hcls.symm.trans q1
  cases hfoundL.symm.trans q2
  cases hnamed.symm.trans q3
  have hselP : selectMethod e.platform s.vm cellB.cls r0 = .method mk := by rw [Launch.admits_selectMethod X.admits]; exact q4
  have hpubM : hasFlag methM.accessFlags Acc.public_ = true := Cond.publicMethod_spec hnamed hmethM hpub
  have hway : ((cellB.cls :: s.vm.superclasses cellB.cls).any fun k => (declaredIn s.vm r.name r.desc k).any fun (_, z) => z.isPrivate || z.isStatic) = false := by
    rw [hnameR, hdescR]; exact Cond.unhidden_spec hcls hunh
  obtain ⟨c3, t3, w1, w2, w3⟩ := Cond.castable_spec hcast
  cases hcls.symm.trans w1
  cases hcL.symm.trans w2
  obtain ⟨vm₁, X₁, hstep₁⟩ := X.invokeinterface hexec hown hlink hn hrm hstR (by rw [hr0cls]; exact hkL) hiL hx (a := b) (cell := cellB) (kcell := kB) hcell
    (fun z h => by rw [h] at hobj; cases hobj) hkB (by rw [hr0cls]; exact w3) hselP hmethM hway hpubM habM (g := g) hg (argsL := argsL) (rest := rest) (hlen _ hsigR) hstack hdg
  rcases hK m meth c ⟨T.setVm vm₁, locs, cells, slots⟩ { g with stack := rest } (.invokeinterface index count) mk (Value.ref b :: argsL).toArray X₁ hg hsize hdg hW (X₁.named hnamed) (hpre vm₁ X₁.warmed) with ⟨v, B, X', hpost, hsteps⟩ | ⟨q, B, X', hpost, hsteps⟩
  · exact Or.inl ⟨v, vm₁, B, X₁.warmed, X', hpost, fun target h => hstep₁ _ fun acts => by rw [doInvoke_state]; exact hsteps.trans h⟩
  · exact Or.inr ⟨q, vm₁, B, X₁.warmed, X', hpost, hstep₁ _ fun acts => by rw [doInvoke_state]; exact hsteps⟩
theorem vx_runF {x y : MethodName} {bytes cc : ByteArray} {maxL nL mc ms n index count : Nat} {ret : Option FieldType} {ws : List Cond} {rm : Room} {Pc : Array Value → State → Prop} {Qc : Array Value → State → Outcome → State → Prop} {XC : String → State → State → Prop} {free : Addr → Prop} {Ts : List Cond} {own C : String} {cC : ClassId} {b : Addr} {As rest : List Value} {g : JFrame}
    (hat : ClassAt s C cC) (S : CallFix p m c cc nL s args Ts own) (hM : vx_Met l y ws rm Pc Qc XC mc ms free) (cw : va_CI R s args own C index x y bytes maxL ret ws rm mc ms n) (hp : PreV s H C b Pc As)
    (hg : g.method = m) (hn : As.length = n) (hsize : g.locals.size = nL) (hstack : g.stack = As.reverse ++ .ref b :: rest) (hW : 2 * g.monitorRoom + (rest.map fun v => v.category).sum ≤ 8) (hdg : decode cc g.pc = .ok (.invokeinterface index count, 5)) (hf : cells + mc ≤ R.cells ∧ slots + ms ≤ R.slots) :
    vx_Run5 p l e R s m args below meth c H locs cells slots mc ms g rest (Qc (Value.ref b :: As).toArray) XC free := by
  obtain ⟨hrc, hrs, hfr, hlo, hws, hcw⟩ := cw.back
  have hini := cw.init
  have hK : vx_Back l R p e below s args y 5 8 (PreOf R mc ms Pc) (PostOf Qc mc ms free) (vx_Post XC mc ms free) := vx_back (bytes := bytes) (maxL := maxL) (ret := ret) hM hp.1 hrc hrs hfr hlo hws hcw (fun a' U hW => word_at hW (Or.inl (by first | rfl | simp [Cond.onTables, Cond.keeps, Cond.steady])) hini)
  obtain ⟨hx, hb, hml, ho, -⟩ := S
  obtain ⟨-, ⟨cellB, hcB, hoB, hclB⟩, hPc⟩ := hp
  obtain ⟨hfc, kB, hkB, -⟩ := hat
  cases hfc.symm.trans hclB
  intro T hT X
  rcases vx_callIF X hx (C := C) (bytes := bytes) (maxL := maxL) (ret := ret) ho cw.link cw.decl cw.face cw.sel cw.inst cw.pub cw.unh cw.cast cw.code cw.notMH hK (by rw [hT]; exact hcB) hoB hclB hkB hg (hsize.trans hml.symm) (argsL := As) (rest := rest) (fun sig h => hn.trans (cw.len sig h)) hstack hW (by rw [hb]; exact hdg)
    (fun vm₁ hW₁ => ⟨hf.1, hf.2, hPc (T.setVm vm₁) hT hW₁⟩) with ⟨v, vm₁, ⟨U', l2, c2, s2⟩, hW₁, X', ⟨g', mk, t, L, e1, e2, hq, h1, hL, h2, h3⟩, st⟩ | ⟨q, vm₁, ⟨U', l2, c2, s2⟩, hW₁, X', ⟨g', mk, t, L, E, ce, e1, e2, hq, hce, hcv, hcl, h1, hL, h2, h3⟩, st⟩
  · dsimp only [Pt.U, Pt.locs, Pt.cells, Pt.slots] at X' e1 e2 h1 h2 h3 st
    subst h1; subst h2; subst h3
    exact Or.inl ⟨v, (T.setVm vm₁).calling g' mk (Value.ref b :: As).toArray, t, U', L, hT, X', hL, e1, e2, hq, st⟩
  · dsimp only [Pt.U, Pt.locs, Pt.cells, Pt.slots] at X' e1 e2 h1 h2 h3 st hcl
    subst h1; subst h2; subst h3
    exact Or.inr ⟨q, (T.setVm vm₁).calling g' mk (Value.ref b :: As).toArray, t, U', L, E, ce, hT, X', hL, e1, e2, hq, hce, hcv, vx_cls hW₁ hcl, st⟩
theorem vx_callFv {S SX : Type} {post : S → Prop} {px : SX → Prop} {B : S → State → Prop} {BX : String → SX → State → Prop} {AX : Nat → Prop} (hr : vx_Run5 p l e R s m args below meth c H locs cells slots mc ms (F0 m pc ls st0) rest (va_Qv post B A1 a) (vx_X px BX AX) free) (hS : va_S A0 H0 H locs) (hA : ∀ q, q < H.size → A1 q → A0 q) (hf : ∀ q, free q → A0 q) (hAX : ∀ q, q < H.size → AX q → A0 q)
    (kx : ∀ (E : String) (ce : Cell) (q9 : Addr) (u : SX) (t : State) (H1 : Heap) (locs1 : List Loc), t.heap = H1 → s.vm.Alike t.vm → px u → BX E u t → H.size ≤ H1.size → (∀ q : Nat, q < H.size → ¬ AX q → H1[q]? = H[q]?) → va_S A0 H0 H1 locs1 → H1[q9]? = some ce → ce.vm = .none → s.vm.findClass E = some ce.cls → vx_W p l e R s m args below meth c H1 locs1 (cells + mc) (slots + ms) Q (F0 m pc ls rest) q9)
    (kk : ∀ (u : S) (t : State) (H1 : Heap) (locs1 : List Loc), t.heap = H1 → s.vm.Alike t.vm → post u → B u t → H.size ≤ H1.size → (∀ q : Nat, q < H.size → ¬ A1 q → H1[q]? = H[q]?) → va_S A0 H0 H1 locs1 → W p l e R s m args below meth c H1 locs1 (cells + mc) (slots + ms) Q (F0 m (pc + 5) ls (rest))) : W p l e R s m args below meth c H locs cells slots Q (F0 m pc ls st0) := by
  intro T hT X
  rcases hr T hT X with ⟨v, st₀, t, T', L, h0, X', hL, e1, e2, ⟨⟨u, hv, hp, hb⟩, hF⟩, st⟩ | ⟨q, st₀, t, T', L, E, ce, h0, X', hL, e1, e2, ⟨u, hp, hb, hF⟩, hce, hcv, hcl, st⟩
  · cases hv
    obtain ⟨k1, k2, k3⟩ := vx_keep h0 e1 hS hA hf hL hF
    obtain ⟨t2, a1, b1⟩ := kk u t T'.heap (locs ++ L) e1.symm (by rw [← e2]; exact X'.warmed.alike) hp hb k1 k2 k3 T' rfl X'
    exact ⟨t2, st t2 a1, b1⟩
  · obtain ⟨k1, k2, k3⟩ := vx_keep h0 e1 hS hAX hf hL hF
    obtain ⟨t2, a1, b1⟩ := kx E ce q u t T'.heap (locs ++ L) e1.symm (by rw [← e2]; exact X'.warmed.alike) hp hb k1 k2 k3 (by rw [e1]; exact hce) hcv hcl T' rfl X'
    exact ⟨t2, st.trans a1, b1⟩
theorem vx_callFi {S SX : Type} {post : Int32 → S → Prop} {px : SX → Prop} {B : S → State → Prop} {BX : String → SX → State → Prop} {AX : Nat → Prop} (hr : vx_Run5 p l e R s m args below meth c H locs cells slots mc ms (F0 m pc ls st0) rest (va_Qi post B A1 a) (vx_X px BX AX) free) (hS : va_S A0 H0 H locs) (hA : ∀ q, q < H.size → A1 q → A0 q) (hf : ∀ q, free q → A0 q) (hAX : ∀ q, q < H.size → AX q → A0 q)
    (kx : ∀ (E : String) (ce : Cell) (q9 : Addr) (u : SX) (t : State) (H1 : Heap) (locs1 : List Loc), t.heap = H1 → s.vm.Alike t.vm → px u → BX E u t → H.size ≤ H1.size → (∀ q : Nat, q < H.size → ¬ AX q → H1[q]? = H[q]?) → va_S A0 H0 H1 locs1 → H1[q9]? = some ce → ce.vm = .none → s.vm.findClass E = some ce.cls → vx_W p l e R s m args below meth c H1 locs1 (cells + mc) (slots + ms) Q (F0 m pc ls rest) q9)
    (kk : ∀ (r : Int32) (u : S) (t : State) (H1 : Heap) (locs1 : List Loc), t.heap = H1 → s.vm.Alike t.vm → post r u → B u t → H.size ≤ H1.size → (∀ q : Nat, q < H.size → ¬ A1 q → H1[q]? = H[q]?) → va_S A0 H0 H1 locs1 → W p l e R s m args below meth c H1 locs1 (cells + mc) (slots + ms) Q (F0 m (pc + 5) ls (.int r :: rest))) : W p l e R s m args below meth c H locs cells slots Q (F0 m pc ls st0) := by
  intro T hT X
  rcases hr T hT X with ⟨v, st₀, t, T', L, h0, X', hL, e1, e2, ⟨⟨r, u, hv, hp, hb⟩, hF⟩, st⟩ | ⟨q, st₀, t, T', L, E, ce, h0, X', hL, e1, e2, ⟨u, hp, hb, hF⟩, hce, hcv, hcl, st⟩
  · cases hv
    obtain ⟨k1, k2, k3⟩ := vx_keep h0 e1 hS hA hf hL hF
    obtain ⟨t2, a1, b1⟩ := kk r u t T'.heap (locs ++ L) e1.symm (by rw [← e2]; exact X'.warmed.alike) hp hb k1 k2 k3 T' rfl X'
    exact ⟨t2, st t2 a1, b1⟩
  · obtain ⟨k1, k2, k3⟩ := vx_keep h0 e1 hS hAX hf hL hF
    obtain ⟨t2, a1, b1⟩ := kx E ce q u t T'.heap (locs ++ L) e1.symm (by rw [← e2]; exact X'.warmed.alike) hp hb k1 k2 k3 (by rw [e1]; exact hce) hcv hcl T' rfl X'
    exact ⟨t2, st.trans a1, b1⟩
theorem vx_callFl {S SX : Type} {post : Int64 → S → Prop} {px : SX → Prop} {B : S → State → Prop} {BX : String → SX → State → Prop} {AX : Nat → Prop} (hr : vx_Run5 p l e R s m args below meth c H locs cells slots mc ms (F0 m pc ls st0) rest (va_Ql post B A1 a) (vx_X px BX AX) free) (hS : va_S A0 H0 H locs) (hA : ∀ q, q < H.size → A1 q → A0 q) (hf : ∀ q, free q → A0 q) (hAX : ∀ q, q < H.size → AX q → A0 q)
    (kx : ∀ (E : String) (ce : Cell) (q9 : Addr) (u : SX) (t : State) (H1 : Heap) (locs1 : List Loc), t.heap = H1 → s.vm.Alike t.vm → px u → BX E u t → H.size ≤ H1.size → (∀ q : Nat, q < H.size → ¬ AX q → H1[q]? = H[q]?) → va_S A0 H0 H1 locs1 → H1[q9]? = some ce → ce.vm = .none → s.vm.findClass E = some ce.cls → vx_W p l e R s m args below meth c H1 locs1 (cells + mc) (slots + ms) Q (F0 m pc ls rest) q9)
    (kk : ∀ (r : Int64) (u : S) (t : State) (H1 : Heap) (locs1 : List Loc), t.heap = H1 → s.vm.Alike t.vm → post r u → B u t → H.size ≤ H1.size → (∀ q : Nat, q < H.size → ¬ A1 q → H1[q]? = H[q]?) → va_S A0 H0 H1 locs1 → W p l e R s m args below meth c H1 locs1 (cells + mc) (slots + ms) Q (F0 m (pc + 5) ls (.long r :: rest))) : W p l e R s m args below meth c H locs cells slots Q (F0 m pc ls st0) := by
  intro T hT X
  rcases hr T hT X with ⟨v, st₀, t, T', L, h0, X', hL, e1, e2, ⟨⟨r, u, hv, hp, hb⟩, hF⟩, st⟩ | ⟨q, st₀, t, T', L, E, ce, h0, X', hL, e1, e2, ⟨u, hp, hb, hF⟩, hce, hcv, hcl, st⟩
  · cases hv
    obtain ⟨k1, k2, k3⟩ := vx_keep h0 e1 hS hA hf hL hF
    obtain ⟨t2, a1, b1⟩ := kk r u t T'.heap (locs ++ L) e1.symm (by rw [← e2]; exact X'.warmed.alike) hp hb k1 k2 k3 T' rfl X'
    exact ⟨t2, st t2 a1, b1⟩
  · obtain ⟨k1, k2, k3⟩ := vx_keep h0 e1 hS hAX hf hL hF
    obtain ⟨t2, a1, b1⟩ := kx E ce q u t T'.heap (locs ++ L) e1.symm (by rw [← e2]; exact X'.warmed.alike) hp hb k1 k2 k3 (by rw [e1]; exact hce) hcv hcl T' rfl X'
    exact ⟨t2, st.trans a1, b1⟩
theorem vx_callFf {S SX : Type} {post : UInt32 → S → Prop} {px : SX → Prop} {B : S → State → Prop} {BX : String → SX → State → Prop} {AX : Nat → Prop} (hr : vx_Run5 p l e R s m args below meth c H locs cells slots mc ms (F0 m pc ls st0) rest (va_Qf post B A1 a) (vx_X px BX AX) free) (hS : va_S A0 H0 H locs) (hA : ∀ q, q < H.size → A1 q → A0 q) (hf : ∀ q, free q → A0 q) (hAX : ∀ q, q < H.size → AX q → A0 q)
    (kx : ∀ (E : String) (ce : Cell) (q9 : Addr) (u : SX) (t : State) (H1 : Heap) (locs1 : List Loc), t.heap = H1 → s.vm.Alike t.vm → px u → BX E u t → H.size ≤ H1.size → (∀ q : Nat, q < H.size → ¬ AX q → H1[q]? = H[q]?) → va_S A0 H0 H1 locs1 → H1[q9]? = some ce → ce.vm = .none → s.vm.findClass E = some ce.cls → vx_W p l e R s m args below meth c H1 locs1 (cells + mc) (slots + ms) Q (F0 m pc ls rest) q9)
    (kk : ∀ (r : UInt32) (u : S) (t : State) (H1 : Heap) (locs1 : List Loc), t.heap = H1 → s.vm.Alike t.vm → post r u → B u t → H.size ≤ H1.size → (∀ q : Nat, q < H.size → ¬ A1 q → H1[q]? = H[q]?) → va_S A0 H0 H1 locs1 → W p l e R s m args below meth c H1 locs1 (cells + mc) (slots + ms) Q (F0 m (pc + 5) ls (.float r :: rest))) : W p l e R s m args below meth c H locs cells slots Q (F0 m pc ls st0) := by
  intro T hT X
  rcases hr T hT X with ⟨v, st₀, t, T', L, h0, X', hL, e1, e2, ⟨⟨r, u, hv, hp, hb⟩, hF⟩, st⟩ | ⟨q, st₀, t, T', L, E, ce, h0, X', hL, e1, e2, ⟨u, hp, hb, hF⟩, hce, hcv, hcl, st⟩
  · cases hv
    obtain ⟨k1, k2, k3⟩ := vx_keep h0 e1 hS hA hf hL hF
    obtain ⟨t2, a1, b1⟩ := kk r u t T'.heap (locs ++ L) e1.symm (by rw [← e2]; exact X'.warmed.alike) hp hb k1 k2 k3 T' rfl X'
    exact ⟨t2, st t2 a1, b1⟩
  · obtain ⟨k1, k2, k3⟩ := vx_keep h0 e1 hS hAX hf hL hF
    obtain ⟨t2, a1, b1⟩ := kx E ce q u t T'.heap (locs ++ L) e1.symm (by rw [← e2]; exact X'.warmed.alike) hp hb k1 k2 k3 (by rw [e1]; exact hce) hcv hcl T' rfl X'
    exact ⟨t2, st.trans a1, b1⟩
theorem vx_callFd {S SX : Type} {post : UInt64 → S → Prop} {px : SX → Prop} {B : S → State → Prop} {BX : String → SX → State → Prop} {AX : Nat → Prop} (hr : vx_Run5 p l e R s m args below meth c H locs cells slots mc ms (F0 m pc ls st0) rest (va_Qd post B A1 a) (vx_X px BX AX) free) (hS : va_S A0 H0 H locs) (hA : ∀ q, q < H.size → A1 q → A0 q) (hf : ∀ q, free q → A0 q) (hAX : ∀ q, q < H.size → AX q → A0 q)
    (kx : ∀ (E : String) (ce : Cell) (q9 : Addr) (u : SX) (t : State) (H1 : Heap) (locs1 : List Loc), t.heap = H1 → s.vm.Alike t.vm → px u → BX E u t → H.size ≤ H1.size → (∀ q : Nat, q < H.size → ¬ AX q → H1[q]? = H[q]?) → va_S A0 H0 H1 locs1 → H1[q9]? = some ce → ce.vm = .none → s.vm.findClass E = some ce.cls → vx_W p l e R s m args below meth c H1 locs1 (cells + mc) (slots + ms) Q (F0 m pc ls rest) q9)
    (kk : ∀ (r : UInt64) (u : S) (t : State) (H1 : Heap) (locs1 : List Loc), t.heap = H1 → s.vm.Alike t.vm → post r u → B u t → H.size ≤ H1.size → (∀ q : Nat, q < H.size → ¬ A1 q → H1[q]? = H[q]?) → va_S A0 H0 H1 locs1 → W p l e R s m args below meth c H1 locs1 (cells + mc) (slots + ms) Q (F0 m (pc + 5) ls (.double r :: rest))) : W p l e R s m args below meth c H locs cells slots Q (F0 m pc ls st0) := by
  intro T hT X
  rcases hr T hT X with ⟨v, st₀, t, T', L, h0, X', hL, e1, e2, ⟨⟨r, u, hv, hp, hb⟩, hF⟩, st⟩ | ⟨q, st₀, t, T', L, E, ce, h0, X', hL, e1, e2, ⟨u, hp, hb, hF⟩, hce, hcv, hcl, st⟩
  · cases hv
    obtain ⟨k1, k2, k3⟩ := vx_keep h0 e1 hS hA hf hL hF
    obtain ⟨t2, a1, b1⟩ := kk r u t T'.heap (locs ++ L) e1.symm (by rw [← e2]; exact X'.warmed.alike) hp hb k1 k2 k3 T' rfl X'
    exact ⟨t2, st t2 a1, b1⟩
  · obtain ⟨k1, k2, k3⟩ := vx_keep h0 e1 hS hAX hf hL hF
    obtain ⟨t2, a1, b1⟩ := kx E ce q u t T'.heap (locs ++ L) e1.symm (by rw [← e2]; exact X'.warmed.alike) hp hb k1 k2 k3 (by rw [e1]; exact hce) hcv hcl T' rfl X'
    exact ⟨t2, st.trans a1, b1⟩
end
/-! ===== END ===== -/
/-! ===== BEGIN by an interface, a method with a table of its own that may throw (follows va_callIFW, va_runFW) ===== -/
section
variable {p : Program} {l : Launch} {e : Env} {R : Room} {s : State} {m : MethodId} {args : Array Value} {below : List Frame} {meth : Method} {c : Code} {H : Heap} {locs : List Loc} {cells slots : Nat}
theorem vx_callIFW {T : State} (X : Stand p l e R s m args below meth c T locs cells slots) (hexec : p.tables.exec = Jvm.exec) {own C : String} {index count : Nat} {x y : MethodName} {bytes : ByteArray} {maxL : Nat} {ret : Option FieldType} {hh : List (Nat × Nat × Nat × Nat)}
    (hown : s.vm.findClass own = some m.cls) (hlink : (Cond.methodLink own index x).before args s = true) (hdecl : (Cond.declares x).before args s = true) (hface : (Cond.interfaceMethod x.cls x.cls x.name x.desc).before args s = true)
    (hsel : (Cond.selects C x y).before args s = true) (hinst : (Cond.instanceMethod y).before args s = true) (hpub : (Cond.publicMethod y).before args s = true) (hunh : (Cond.unhidden C x.name x.desc).before args s = true)
    (hcast : (Cond.castable C x.cls).before args s = true) (hcode : (Cond.codeWith y bytes maxL ret hh).before args s = true) (hx : x.cls ≠ "java/lang/invoke/MethodHandle" ∧ x.cls ≠ "java/lang/invoke/VarHandle")
    {W : Nat} {Pre : Pt → Array Value → Prop} {Post : Pt → Array Value → Option Value → Pt → Prop} {PostX : Pt → Array Value → Addr → Pt → Prop} (hK : vx_Back l R p e below s args y 5 W Pre Post PostX)
    {b : Addr} {cellB : Cell} {kB : Class} (hcell : T.heap[b]? = some cellB) (hobj : cellB.vm.isStatics = false) (hcls : s.vm.findClass C = some cellB.cls) (hkB : s.vm.classes[cellB.cls]? = some kB)
    {g : JFrame} (hg : g.method = m) (hsize : g.locals.size = c.maxLocals) {argsL rest : List Value} (hlen : ∀ sig, parseMethodDescriptor x.desc = some sig → argsL.length = sig.parameters.length)
    (hstack : g.stack = argsL.reverse ++ .ref b :: rest) (hW : 2 * g.monitorRoom + (rest.map fun v => v.category).sum ≤ W) (hdg : decode c.code g.pc = .ok (.invokeinterface index count, 5))
    (hpre : ∀ vm₁, s.WarmedH vm₁ → Pre ⟨T.setVm vm₁, locs, cells, slots⟩ (Value.ref b :: argsL).toArray) :
    (∃ (v : Option Value) (vm₁ : Vm) (B : Pt), s.WarmedH vm₁ ∧ Stand p l e R s m args below meth c B.U B.locs B.cells B.slots ∧ Post ⟨T.setVm vm₁, locs, cells, slots⟩ (Value.ref b :: argsL).toArray v B ∧
      ∀ target, Steps p.tables e below (B.U.setTop { g with pc := g.pc + 5, stack := v.toList ++ rest }) target → Steps p.tables e below (T.setTop g) target) ∨
    (∃ (q : Addr) (vm₁ : Vm) (B : Pt), s.WarmedH vm₁ ∧ Stand p l e R s m args below meth c B.U B.locs B.cells B.slots ∧ PostX ⟨T.setVm vm₁, locs, cells, slots⟩ (Value.ref b :: argsL).toArray q B ∧
      Steps p.tables e below (T.setTop g) ((B.U.setTop { g with stack := rest }).pushFrame (.throwing q))) := by
  obtain ⟨r0, r, hn, hrm, hstR, hsigR⟩ := Cond.declares_spec hdecl
  obtain ⟨cL, kL, r1, hcL, hkL, hiL, hfoundL, hn1⟩ := Cond.interfaceMethod_spec hface
  cases hn.symm.trans hn1
  have hr0cls : r0.cls = cL := Option.some.inj ((findClass_of_methodNamed hn).symm.trans hcL)
  obtain ⟨hnameR, hdescR⟩ := name_of_methodNamed hn hrm
  obtain ⟨mk, methM, hnamed, hmethM, -, habM⟩ := Cond.instanceMethod_spec hinst
  obtain ⟨c2, r2, m2, q1, q2, q3, q4, -⟩ := Cond.selects_spec hsel
  cases hcls.symm.trans q1
  cases hfoundL.symm.trans q2
  cases hnamed.symm.trans q3
  have hselP : selectMethod e.platform s.vm cellB.cls r0 = .method mk := by rw [Launch.admits_selectMethod X.admits]; exact q4
  have hpubM : hasFlag methM.accessFlags Acc.public_ = true := Cond.publicMethod_spec hnamed hmethM hpub
  have hway : ((cellB.cls :: s.vm.superclasses cellB.cls).any fun k => (declaredIn s.vm r.name r.desc k).any fun (_, z) => z.isPrivate || z.isStatic) = false := by
    rw [hnameR, hdescR]; exact Cond.unhidden_spec hcls hunh
  obtain ⟨c3, t3, w1, w2, w3⟩ := Cond.castable_spec hcast
  cases hcls.symm.trans w1
  cases hcL.symm.trans w2
  obtain ⟨vm₁, X₁, hstep₁⟩ := X.invokeinterface hexec hown hlink hn hrm hstR (by rw [hr0cls]; exact hkL) hiL hx (a := b) (cell := cellB) (kcell := kB) hcell
    (fun z h => by rw [h] at hobj; cases hobj) hkB (by rw [hr0cls]; exact w3) hselP hmethM hway hpubM habM (g := g) hg (argsL := argsL) (rest := rest) (hlen _ hsigR) hstack hdg
  rcases hK m meth c ⟨T.setVm vm₁, locs, cells, slots⟩ { g with stack := rest } (.invokeinterface index count) mk (Value.ref b :: argsL).toArray X₁ hg hsize hdg hW (X₁.named hnamed) (hpre vm₁ X₁.warmed) with ⟨v, B, X', hpost, hsteps⟩ | ⟨q, B, X', hpost, hsteps⟩
  · exact Or.inl ⟨v, vm₁, B, X₁.warmed, X', hpost, fun target h => hstep₁ _ fun acts => by rw [doInvoke_state]; exact hsteps.trans h⟩
  · exact Or.inr ⟨q, vm₁, B, X₁.warmed, X', hpost, hstep₁ _ fun acts => by rw [doInvoke_state]; exact hsteps⟩
theorem vx_runFW {x y : MethodName} {bytes cc : ByteArray} {maxL nL mc ms n index count : Nat} {ret : Option FieldType} {hh : List (Nat × Nat × Nat × Nat)} {ws : List Cond} {rm : Room} {Pc : Array Value → State → Prop} {Qc : Array Value → State → Outcome → State → Prop} {XC : String → State → State → Prop} {free : Addr → Prop} {Ts : List Cond} {own C : String} {cC : ClassId} {b : Addr} {As rest : List Value} {g : JFrame}
    (hat : ClassAt s C cC) (S : CallFix p m c cc nL s args Ts own) (hM : vx_Met l y ws rm Pc Qc XC mc ms free) (cw : va_CIW R s args own C index x y bytes maxL ret hh ws rm mc ms n) (hp : PreV s H C b Pc As)
    (hg : g.method = m) (hn : As.length = n) (hsize : g.locals.size = nL) (hstack : g.stack = As.reverse ++ .ref b :: rest) (hW : 2 * g.monitorRoom + (rest.map fun v => v.category).sum ≤ 8) (hdg : decode cc g.pc = .ok (.invokeinterface index count, 5)) (hf : cells + mc ≤ R.cells ∧ slots + ms ≤ R.slots) :
    vx_Run5 p l e R s m args below meth c H locs cells slots mc ms g rest (Qc (Value.ref b :: As).toArray) XC free := by
  obtain ⟨hrc, hrs, hfr, hlo, hws, hcw⟩ := cw.back
  have hini := cw.init
  have hK : vx_Back l R p e below s args y 5 8 (PreOf R mc ms Pc) (PostOf Qc mc ms free) (vx_Post XC mc ms free) := vx_backW (hh := hh) (bytes := bytes) (maxL := maxL) (ret := ret) hM hp.1 hrc hrs hfr hlo hws hcw (fun a' U hW => word_at hW (Or.inl (by first | rfl | simp [Cond.onTables, Cond.keeps, Cond.steady])) hini)
  obtain ⟨hx, hb, hml, ho, -⟩ := S
  obtain ⟨-, ⟨cellB, hcB, hoB, hclB⟩, hPc⟩ := hp
  obtain ⟨hfc, kB, hkB, -⟩ := hat
  cases hfc.symm.trans hclB
  intro T hT X
  rcases vx_callIFW X hx (C := C) (hh := hh) (bytes := bytes) (maxL := maxL) (ret := ret) ho cw.link cw.decl cw.face cw.sel cw.inst cw.pub cw.unh cw.cast cw.code cw.notMH hK (by rw [hT]; exact hcB) hoB hclB hkB hg (hsize.trans hml.symm) (argsL := As) (rest := rest) (fun sig h => hn.trans (cw.len sig h)) hstack hW (by rw [hb]; exact hdg)
    (fun vm₁ hW₁ => ⟨hf.1, hf.2, hPc (T.setVm vm₁) hT hW₁⟩) with ⟨v, vm₁, ⟨U', l2, c2, s2⟩, hW₁, X', ⟨g', mk, t, L, e1, e2, hq, h1, hL, h2, h3⟩, st⟩ | ⟨q, vm₁, ⟨U', l2, c2, s2⟩, hW₁, X', ⟨g', mk, t, L, E, ce, e1, e2, hq, hce, hcv, hcl, h1, hL, h2, h3⟩, st⟩
  · dsimp only [Pt.U, Pt.locs, Pt.cells, Pt.slots] at X' e1 e2 h1 h2 h3 st
    subst h1; subst h2; subst h3
    exact Or.inl ⟨v, (T.setVm vm₁).calling g' mk (Value.ref b :: As).toArray, t, U', L, hT, X', hL, e1, e2, hq, st⟩
  · dsimp only [Pt.U, Pt.locs, Pt.cells, Pt.slots] at X' e1 e2 h1 h2 h3 st hcl
    subst h1; subst h2; subst h3
    exact Or.inr ⟨q, (T.setVm vm₁).calling g' mk (Value.ref b :: As).toArray, t, U', L, E, ce, hT, X', hL, e1, e2, hq, hce, hcv, vx_cls hW₁ hcl, st⟩
end
/-! ===== END ===== -/
/-! ===== BEGIN .. of methods that hand back an object of the pool ===== -/
section
variable {p : Program} {l : Launch} {e : Env} {R : Room} {s : State} {m : MethodId} {args : Array Value} {below : List Frame} {meth : Method} {c : Code} {H : Heap} {locs : List Loc} {cells slots : Nat} {Q : State → Prop}
variable {mc ms : Nat} {free : Addr → Prop} {A0 A1 : Nat → Prop} {H0 : Heap} {a : Array Value} {pc : Nat} {ls : Array Slot} {st0 rest : List Value}
theorem vx_callq {S SX : Type} {post : Option Nat → S → Prop} {px : SX → Prop} {B : S → State → Prop} {BX : String → SX → State → Prop} {AX : Nat → Prop} (hr : vx_Run p l e R s m args below meth c H locs cells slots mc ms (F0 m pc ls st0) rest (va_Qq post B A1 a) (vx_X px BX AX) free) (hS : va_S A0 H0 H locs) (hA : ∀ q, q < H.size → A1 q → A0 q) (hf : ∀ q, free q → A0 q) (hAX : ∀ q, q < H.size → AX q → A0 q)
    (kx : ∀ (E : String) (ce : Cell) (q9 : Addr) (u : SX) (t : State) (H1 : Heap) (locs1 : List Loc), t.heap = H1 → s.vm.Alike t.vm → px u → BX E u t → H.size ≤ H1.size → (∀ q : Nat, q < H.size → ¬ AX q → H1[q]? = H[q]?) → va_S A0 H0 H1 locs1 → H1[q9]? = some ce → ce.vm = .none → s.vm.findClass E = some ce.cls → vx_W p l e R s m args below meth c H1 locs1 (cells + mc) (slots + ms) Q (F0 m pc ls rest) q9)
    (kk : ∀ (r : Option Nat) (u : S) (t : State) (H1 : Heap) (locs1 : List Loc), t.heap = H1 → s.vm.Alike t.vm → post r u → B u t → H.size ≤ H1.size → (∀ q : Nat, q < H.size → ¬ A1 q → H1[q]? = H[q]?) → va_S A0 H0 H1 locs1 → W p l e R s m args below meth c H1 locs1 (cells + mc) (slots + ms) Q (F0 m (pc + 3) ls (va_rf r :: rest))) : W p l e R s m args below meth c H locs cells slots Q (F0 m pc ls st0) := by
  intro T hT X
  rcases hr T hT X with ⟨v, st₀, t, T', L, h0, X', hL, e1, e2, ⟨⟨r, u, hv, hp, hb⟩, hF⟩, st⟩ | ⟨q, st₀, t, T', L, E, ce, h0, X', hL, e1, e2, ⟨u, hp, hb, hF⟩, hce, hcv, hcl, st⟩
  · cases hv
    obtain ⟨k1, k2, k3⟩ := vx_keep h0 e1 hS hA hf hL hF
    obtain ⟨t2, a1, b1⟩ := kk r u t T'.heap (locs ++ L) e1.symm (by rw [← e2]; exact X'.warmed.alike) hp hb k1 k2 k3 T' rfl X'
    exact ⟨t2, st t2 a1, b1⟩
  · obtain ⟨k1, k2, k3⟩ := vx_keep h0 e1 hS hAX hf hL hF
    obtain ⟨t2, a1, b1⟩ := kx E ce q u t T'.heap (locs ++ L) e1.symm (by rw [← e2]; exact X'.warmed.alike) hp hb k1 k2 k3 (by rw [e1]; exact hce) hcv hcl T' rfl X'
    exact ⟨t2, st.trans a1, b1⟩
end
/-! ===== END ===== -/
/-! ===== BEGIN .. a constant ===== -/
section
variable {p : Program} {l : Launch} {e : Env} {R : Room} {s : State} {m : MethodId} {args : Array Value} {below : List Frame} {meth : Method} {c : Code} {H : Heap} {locs : List Loc} {cells slots : Nat} {Q : State → Prop}
variable {mc ms : Nat} {free : Addr → Prop} {A0 A1 : Nat → Prop} {H0 : Heap} {a : Array Value} {pc : Nat} {ls : Array Slot} {st0 rest : List Value}
theorem vx_calle {ad : Nat → Nat} {S SX : Type} {post : Option Nat → S → Prop} {px : SX → Prop} {B : S → State → Prop} {BX : String → SX → State → Prop} {AX : Nat → Prop} (hr : vx_Run p l e R s m args below meth c H locs cells slots mc ms (F0 m pc ls st0) rest (va_Qe ad post B A1 a) (vx_X px BX AX) free) (hS : va_S A0 H0 H locs) (hA : ∀ q, q < H.size → A1 q → A0 q) (hf : ∀ q, free q → A0 q) (hAX : ∀ q, q < H.size → AX q → A0 q)
    (kx : ∀ (E : String) (ce : Cell) (q9 : Addr) (u : SX) (t : State) (H1 : Heap) (locs1 : List Loc), t.heap = H1 → s.vm.Alike t.vm → px u → BX E u t → H.size ≤ H1.size → (∀ q : Nat, q < H.size → ¬ AX q → H1[q]? = H[q]?) → va_S A0 H0 H1 locs1 → H1[q9]? = some ce → ce.vm = .none → s.vm.findClass E = some ce.cls → vx_W p l e R s m args below meth c H1 locs1 (cells + mc) (slots + ms) Q (F0 m pc ls rest) q9)
    (kk : ∀ (r : Option Nat) (u : S) (t : State) (H1 : Heap) (locs1 : List Loc), t.heap = H1 → s.vm.Alike t.vm → post r u → B u t → H.size ≤ H1.size → (∀ q : Nat, q < H.size → ¬ A1 q → H1[q]? = H[q]?) → va_S A0 H0 H1 locs1 → W p l e R s m args below meth c H1 locs1 (cells + mc) (slots + ms) Q (F0 m (pc + 3) ls (va_re ad r :: rest))) : W p l e R s m args below meth c H locs cells slots Q (F0 m pc ls st0) := by
  intro T hT X
  rcases hr T hT X with ⟨v, st₀, t, T', L, h0, X', hL, e1, e2, ⟨⟨r, u, hv, hp, hb⟩, hF⟩, st⟩ | ⟨q, st₀, t, T', L, E, ce, h0, X', hL, e1, e2, ⟨u, hp, hb, hF⟩, hce, hcv, hcl, st⟩
  · cases hv
    obtain ⟨k1, k2, k3⟩ := vx_keep h0 e1 hS hA hf hL hF
    obtain ⟨t2, a1, b1⟩ := kk r u t T'.heap (locs ++ L) e1.symm (by rw [← e2]; exact X'.warmed.alike) hp hb k1 k2 k3 T' rfl X'
    exact ⟨t2, st t2 a1, b1⟩
  · obtain ⟨k1, k2, k3⟩ := vx_keep h0 e1 hS hAX hf hL hF
    obtain ⟨t2, a1, b1⟩ := kx E ce q u t T'.heap (locs ++ L) e1.symm (by rw [← e2]; exact X'.warmed.alike) hp hb k1 k2 k3 (by rw [e1]; exact hce) hcv hcl T' rfl X'
    exact ⟨t2, st.trans a1, b1⟩
end
/-! ===== END ===== -/
/-! ===== BEGIN .. by an interface, an object ===== -/
section
variable {p : Program} {l : Launch} {e : Env} {R : Room} {s : State} {m : MethodId} {args : Array Value} {below : List Frame} {meth : Method} {c : Code} {H : Heap} {locs : List Loc} {cells slots : Nat} {Q : State → Prop}
variable {mc ms : Nat} {free : Addr → Prop} {A0 A1 : Nat → Prop} {H0 : Heap} {a : Array Value} {pc : Nat} {ls : Array Slot} {st0 rest : List Value}
theorem vx_callFq {S SX : Type} {post : Option Nat → S → Prop} {px : SX → Prop} {B : S → State → Prop} {BX : String → SX → State → Prop} {AX : Nat → Prop} (hr : vx_Run5 p l e R s m args below meth c H locs cells slots mc ms (F0 m pc ls st0) rest (va_Qq post B A1 a) (vx_X px BX AX) free) (hS : va_S A0 H0 H locs) (hA : ∀ q, q < H.size → A1 q → A0 q) (hf : ∀ q, free q → A0 q) (hAX : ∀ q, q < H.size → AX q → A0 q)
    (kx : ∀ (E : String) (ce : Cell) (q9 : Addr) (u : SX) (t : State) (H1 : Heap) (locs1 : List Loc), t.heap = H1 → s.vm.Alike t.vm → px u → BX E u t → H.size ≤ H1.size → (∀ q : Nat, q < H.size → ¬ AX q → H1[q]? = H[q]?) → va_S A0 H0 H1 locs1 → H1[q9]? = some ce → ce.vm = .none → s.vm.findClass E = some ce.cls → vx_W p l e R s m args below meth c H1 locs1 (cells + mc) (slots + ms) Q (F0 m pc ls rest) q9)
    (kk : ∀ (r : Option Nat) (u : S) (t : State) (H1 : Heap) (locs1 : List Loc), t.heap = H1 → s.vm.Alike t.vm → post r u → B u t → H.size ≤ H1.size → (∀ q : Nat, q < H.size → ¬ A1 q → H1[q]? = H[q]?) → va_S A0 H0 H1 locs1 → W p l e R s m args below meth c H1 locs1 (cells + mc) (slots + ms) Q (F0 m (pc + 5) ls (va_rf r :: rest))) : W p l e R s m args below meth c H locs cells slots Q (F0 m pc ls st0) := by
  intro T hT X
  rcases hr T hT X with ⟨v, st₀, t, T', L, h0, X', hL, e1, e2, ⟨⟨r, u, hv, hp, hb⟩, hF⟩, st⟩ | ⟨q, st₀, t, T', L, E, ce, h0, X', hL, e1, e2, ⟨u, hp, hb, hF⟩, hce, hcv, hcl, st⟩
  · cases hv
    obtain ⟨k1, k2, k3⟩ := vx_keep h0 e1 hS hA hf hL hF
    obtain ⟨t2, a1, b1⟩ := kk r u t T'.heap (locs ++ L) e1.symm (by rw [← e2]; exact X'.warmed.alike) hp hb k1 k2 k3 T' rfl X'
    exact ⟨t2, st t2 a1, b1⟩
  · obtain ⟨k1, k2, k3⟩ := vx_keep h0 e1 hS hAX hf hL hF
    obtain ⟨t2, a1, b1⟩ := kx E ce q u t T'.heap (locs ++ L) e1.symm (by rw [← e2]; exact X'.warmed.alike) hp hb k1 k2 k3 (by rw [e1]; exact hce) hcv hcl T' rfl X'
    exact ⟨t2, st.trans a1, b1⟩
end
/-! ===== END ===== -/
/-! ===== BEGIN .. by an interface, a constant ===== -/
section
variable {p : Program} {l : Launch} {e : Env} {R : Room} {s : State} {m : MethodId} {args : Array Value} {below : List Frame} {meth : Method} {c : Code} {H : Heap} {locs : List Loc} {cells slots : Nat} {Q : State → Prop}
variable {mc ms : Nat} {free : Addr → Prop} {A0 A1 : Nat → Prop} {H0 : Heap} {a : Array Value} {pc : Nat} {ls : Array Slot} {st0 rest : List Value}
theorem vx_callFe {ad : Nat → Nat} {S SX : Type} {post : Option Nat → S → Prop} {px : SX → Prop} {B : S → State → Prop} {BX : String → SX → State → Prop} {AX : Nat → Prop} (hr : vx_Run5 p l e R s m args below meth c H locs cells slots mc ms (F0 m pc ls st0) rest (va_Qe ad post B A1 a) (vx_X px BX AX) free) (hS : va_S A0 H0 H locs) (hA : ∀ q, q < H.size → A1 q → A0 q) (hf : ∀ q, free q → A0 q) (hAX : ∀ q, q < H.size → AX q → A0 q)
    (kx : ∀ (E : String) (ce : Cell) (q9 : Addr) (u : SX) (t : State) (H1 : Heap) (locs1 : List Loc), t.heap = H1 → s.vm.Alike t.vm → px u → BX E u t → H.size ≤ H1.size → (∀ q : Nat, q < H.size → ¬ AX q → H1[q]? = H[q]?) → va_S A0 H0 H1 locs1 → H1[q9]? = some ce → ce.vm = .none → s.vm.findClass E = some ce.cls → vx_W p l e R s m args below meth c H1 locs1 (cells + mc) (slots + ms) Q (F0 m pc ls rest) q9)
    (kk : ∀ (r : Option Nat) (u : S) (t : State) (H1 : Heap) (locs1 : List Loc), t.heap = H1 → s.vm.Alike t.vm → post r u → B u t → H.size ≤ H1.size → (∀ q : Nat, q < H.size → ¬ A1 q → H1[q]? = H[q]?) → va_S A0 H0 H1 locs1 → W p l e R s m args below meth c H1 locs1 (cells + mc) (slots + ms) Q (F0 m (pc + 5) ls (va_re ad r :: rest))) : W p l e R s m args below meth c H locs cells slots Q (F0 m pc ls st0) := by
  intro T hT X
  rcases hr T hT X with ⟨v, st₀, t, T', L, h0, X', hL, e1, e2, ⟨⟨r, u, hv, hp, hb⟩, hF⟩, st⟩ | ⟨q, st₀, t, T', L, E, ce, h0, X', hL, e1, e2, ⟨u, hp, hb, hF⟩, hce, hcv, hcl, st⟩
  · cases hv
    obtain ⟨k1, k2, k3⟩ := vx_keep h0 e1 hS hA hf hL hF
    obtain ⟨t2, a1, b1⟩ := kk r u t T'.heap (locs ++ L) e1.symm (by rw [← e2]; exact X'.warmed.alike) hp hb k1 k2 k3 T' rfl X'
    exact ⟨t2, st t2 a1, b1⟩
  · obtain ⟨k1, k2, k3⟩ := vx_keep h0 e1 hS hAX hf hL hF
    obtain ⟨t2, a1, b1⟩ := kx E ce q u t T'.heap (locs ++ L) e1.symm (by rw [← e2]; exact X'.warmed.alike) hp hb k1 k2 k3 (by rw [e1]; exact hce) hcv hcl T' rfl X'
    exact ⟨t2, st.trans a1, b1⟩
end
/-! ===== END ===== -/
/-! ===== BEGIN what the machine throws by itself: null at a field, at athrow ===== -/
section VXM2
variable {p : Program} {l : Launch} {e : Env} {R : Room} {s : State} {m : MethodId} {args : Array Value} {below : List Frame} {meth : Method} {c : Code} {H : Heap} {locs : List Loc} {cells slots : Nat}
variable {Q : State → Prop} {cc : ByteArray} {pc : Nat} {ls : Array Slot} {rest : List Value}
theorem vx_getfN {D cl tys} {own ref C : String} {T : u_T} {N ci index : Nat} {Ts : List Cond} (hexec : p.tables.exec = Jvm.exec) (hb : c.code = cc) (hts : ∀ w ∈ Ts, w.before args s = true) (hin : ∀ w ∈ u_ws C T N, w ∈ Ts) (hown : s.vm.findClass own = some m.cls) (hK : va_K D cl tys s) (hc : cl[ci]? = some (C, T, N)) (k : Nat) (hk : k < N) (hlink : (Cond.fieldLink own index ref (T k).2.1 (T k).2.2.1).before args s = true) (hsame : ∀ x, s.fieldFound? (T k).1 (T k).2.1 (T k).2.2.1 = some x → s.fieldFound? ref (T k).2.1 (T k).2.2.1 = some x) (hdg : decode cc pc = .ok (.getfield index, 3)) (kk : vx_NoteN p l e R s m args below meth c H locs cells slots Q (F0 m pc ls rest)) : W p l e R s m args below meth c H locs cells slots Q (F0 m pc ls (.null :: rest)) := by
  obtain ⟨hS, hfc, kC, hkC, -⟩ := hK.1 ci _ hc
  obtain ⟨cf, kf, fi, f, hi, -⟩ := hS k hk
  intro U hU X
  obtain ⟨vm', X1, st1⟩ := X.getfieldNull hexec hown hlink (hsame _ hi) (u_facts hfc hkC (u_lays hts hin hk) hi).1 (g := F0 m pc ls (.null :: rest)) rfl (rest := rest) rfl (by rw [hb]; exact hdg)
  obtain ⟨t, st, q⟩ := kk (U.setVm vm') hU X1
  exact ⟨t, st1 t st, q⟩
theorem vx_getfNN {D cl tys} {own ref C host : String} {T : u_T} {N ci index : Nat} {Ts : List Cond} (hexec : p.tables.exec = Jvm.exec) (hb : c.code = cc) (hts : ∀ w ∈ Ts, w.before args s = true) (hin : ∀ w ∈ u_ws C T N, w ∈ Ts) (hown : s.vm.findClass own = some m.cls) (hK : va_K D cl tys s) (hc : cl[ci]? = some (C, T, N)) (k : Nat) (hk : k < N) (hlink : (Cond.fieldLinkNest own index ref (T k).2.1 (T k).2.2.1 host).before args s = true) (hsame : ∀ x, s.fieldFound? (T k).1 (T k).2.1 (T k).2.2.1 = some x → s.fieldFound? ref (T k).2.1 (T k).2.2.1 = some x) (hdg : decode cc pc = .ok (.getfield index, 3)) (kk : vx_NoteN p l e R s m args below meth c H locs cells slots Q (F0 m pc ls rest)) : W p l e R s m args below meth c H locs cells slots Q (F0 m pc ls (.null :: rest)) := by
  obtain ⟨hS, hfc, kC, hkC, -⟩ := hK.1 ci _ hc
  obtain ⟨cf, kf, fi, f, hi, -⟩ := hS k hk
  intro U hU X
  obtain ⟨vm', X1, st1⟩ := X.getfieldNullNest hexec hown hlink (hsame _ hi) (u_facts hfc hkC (u_lays hts hin hk) hi).1 (g := F0 m pc ls (.null :: rest)) rfl (rest := rest) rfl (by rw [hb]; exact hdg)
  obtain ⟨t, st, q⟩ := kk (U.setVm vm') hU X1
  exact ⟨t, st1 t st, q⟩
theorem vx_putfN {D cl tys} {own ref C : String} {T : u_T} {N ci index : Nat} {Ts : List Cond} (hexec : p.tables.exec = Jvm.exec) (hb : c.code = cc) (hts : ∀ w ∈ Ts, w.before args s = true) (hin : ∀ w ∈ u_ws C T N, w ∈ Ts) (hown : s.vm.findClass own = some m.cls) (hK : va_K D cl tys s) (hc : cl[ci]? = some (C, T, N)) (k : Nat) (hk : k < N) (hlink : (Cond.fieldLink own index ref (T k).2.1 (T k).2.2.1).before args s = true) (hsame : ∀ x, s.fieldFound? (T k).1 (T k).2.1 (T k).2.2.1 = some x → s.fieldFound? ref (T k).2.1 (T k).2.2.1 = some x) (hfin : (T k).2.2.2 = false) {v : Value} (hdg : decode cc pc = .ok (.putfield index, 3)) (kk : vx_NoteN p l e R s m args below meth c H locs cells slots Q (F0 m pc ls rest)) : W p l e R s m args below meth c H locs cells slots Q (F0 m pc ls (v :: .null :: rest)) := by
  obtain ⟨hS, hfc, kC, hkC, -⟩ := hK.1 ci _ hc
  obtain ⟨cf, kf, fi, f, hi, -⟩ := hS k hk
  have hlay := hts _ (hin _ (u_in_lay hk))
  unfold u_lay at hlay
  rw [if_neg (by rw [hfin]; decide)] at hlay
  obtain ⟨c9, k9, cf9, kf9, fi9, f9, -, -, hi9, hst9, hnf9, -⟩ := Cond.lays_spec hlay
  cases hi.symm.trans hi9
  intro U hU X
  obtain ⟨vm', X1, st1⟩ := X.putfieldNull hexec hown hlink (hsame _ hi) hst9 hnf9 (g := F0 m pc ls (v :: .null :: rest)) rfl (v := v) (rest := rest) rfl (by rw [hb]; exact hdg)
  obtain ⟨t, st, q⟩ := kk (U.setVm vm') hU X1
  exact ⟨t, st1 t st, q⟩
theorem vx_putfNN {D cl tys} {own ref C host : String} {T : u_T} {N ci index : Nat} {Ts : List Cond} (hexec : p.tables.exec = Jvm.exec) (hb : c.code = cc) (hts : ∀ w ∈ Ts, w.before args s = true) (hin : ∀ w ∈ u_ws C T N, w ∈ Ts) (hown : s.vm.findClass own = some m.cls) (hK : va_K D cl tys s) (hc : cl[ci]? = some (C, T, N)) (k : Nat) (hk : k < N) (hlink : (Cond.fieldLinkNest own index ref (T k).2.1 (T k).2.2.1 host).before args s = true) (hsame : ∀ x, s.fieldFound? (T k).1 (T k).2.1 (T k).2.2.1 = some x → s.fieldFound? ref (T k).2.1 (T k).2.2.1 = some x) (hfin : (T k).2.2.2 = false) {v : Value} (hdg : decode cc pc = .ok (.putfield index, 3)) (kk : vx_NoteN p l e R s m args below meth c H locs cells slots Q (F0 m pc ls rest)) : W p l e R s m args below meth c H locs cells slots Q (F0 m pc ls (v :: .null :: rest)) := by
  obtain ⟨hS, hfc, kC, hkC, -⟩ := hK.1 ci _ hc
  obtain ⟨cf, kf, fi, f, hi, -⟩ := hS k hk
  have hlay := hts _ (hin _ (u_in_lay hk))
  unfold u_lay at hlay
  rw [if_neg (by rw [hfin]; decide)] at hlay
  obtain ⟨c9, k9, cf9, kf9, fi9, f9, -, -, hi9, hst9, hnf9, -⟩ := Cond.lays_spec hlay
  cases hi.symm.trans hi9
  intro U hU X
  obtain ⟨vm', X1, st1⟩ := X.putfieldNullNest hexec hown hlink (hsame _ hi) hst9 hnf9 (g := F0 m pc ls (v :: .null :: rest)) rfl (v := v) (rest := rest) rfl (by rw [hb]; exact hdg)
  obtain ⟨t, st, q⟩ := kk (U.setVm vm') hU X1
  exact ⟨t, st1 t st, q⟩
theorem vx_athrowN (hexec : p.tables.exec = Jvm.exec) (hb : c.code = cc) (hdg : decode cc pc = .ok (.athrow, 1)) (k : vx_NoteN p l e R s m args below meth c H locs cells slots Q (F0 m pc ls rest)) : W p l e R s m args below meth c H locs cells slots Q (F0 m pc ls (.null :: rest)) := by
  intro T hT X
  obtain ⟨t, st, q⟩ := k T hT X
  exact ⟨t, X.athrowNull hexec (g := F0 m pc ls (.null :: rest)) rfl (rest := rest) rfl (by rw [hb]; exact hdg) t st, q⟩
end VXM2
/-! ===== END ===== -/
end
section
/-! ===== THE SMALL MACHINE: values, worlds, operations as functions; what it means that one is right ===== -/
/-- the component types of the arrays, by their tags -/
def kTy : Nat → FieldType := fun k => match k with
  | 100 => .int
  | 101 => .long
  | 102 => .double
  | 103 => .boolean
  | 104 => .array .int
  | 105 => .object "Bijectory$Chart"
  | 106 => .object "Bijectory$Walker"
  | 107 => .object "Bijectory$Claim"
  | 108 => .object "Bijectory$Realm"
  | _ => .object "java/lang/Object"
abbrev kCel : Type := Nat × List Value
abbrev kHS : Type := List kCel × Nat × Nat
abbrev kFS : Type := List (Nat × Value) × List Value × kHS
abbrev kRes : Type := (Option Value ⊕ Nat) × kHS
abbrev kOp : Type := kFS → Option ((Nat × kFS) ⊕ kRes)
abbrev kE : Type := List vw_C × (Nat → ClassId) × (Nat → Nat → Nat) × Nat × List (List Int32)
/-- a value by the addresses α -/
def kv (α : List Nat) : Value → Option Value
  | .ref k => (α[k]?).map Value.ref
  | v => some v
theorem kv_ref {α : List Nat} {k a : Nat} (h : α[k]? = some a) : kv α (.ref k) = some (.ref a) := by simp [kv, h]
theorem kv_refI {α : List Nat} {k : Nat} {w : Value} (h : kv α (.ref k) = some w) : ∃ a, α[k]? = some a ∧ w = .ref a := by
  simp only [kv, Option.map_eq_some_iff] at h
  obtain ⟨a, h1, h2⟩ := h
  exact ⟨a, h1, h2.symm⟩
theorem k_pre {α β : List Nat} {k a : Nat} (h : α[k]? = some a) (hp : α <+: β) : β[k]? = some a := by
  obtain ⟨t, rfl⟩ := hp
  rw [List.getElem?_append_left (List.getElem?_eq_some_iff.mp h).1]
  exact h
theorem kv_mono {α β : List Nat} {v w : Value} (h : kv α v = some w) (hp : α <+: β) : kv β v = some w := by
  cases v with
  | ref k =>
    obtain ⟨a, h1, rfl⟩ := kv_refI h
    exact kv_ref (k_pre h1 hp)
  | _ => exact h
theorem kv_cat {α : List Nat} {v w : Value} (h : kv α v = some w) : w.category = v.category := by
  cases v with
  | ref k =>
    obtain ⟨a, h1, rfl⟩ := kv_refI h
    rfl
  | _ => cases h; rfl
def kvS (α : List Nat) : List Value → Option (List Value)
  | [] => some []
  | v :: vs => match kv α v, kvS α vs with
    | some w, some ws => some (w :: ws)
    | _, _ => none
theorem kvS_cons {α : List Nat} {v : Value} {vs ws : List Value} (h : kvS α (v :: vs) = some ws) : ∃ w ws', ws = w :: ws' ∧ kv α v = some w ∧ kvS α vs = some ws' := by
  unfold kvS at h
  split at h
  · rename_i w ws' h1 h2
    cases h
    exact ⟨w, ws', rfl, h1, h2⟩
  · cases h
theorem kvS_mk {α : List Nat} {v w : Value} {vs ws : List Value} (h1 : kv α v = some w) (h2 : kvS α vs = some ws) : kvS α (v :: vs) = some (w :: ws) := by
  unfold kvS
  rw [h1, h2]
theorem kvS_mono {α β : List Nat} (hp : α <+: β) : ∀ {vs ws : List Value}, kvS α vs = some ws → kvS β vs = some ws
  | [], ws, h => h
  | v :: vs, ws, h => by
    obtain ⟨w, ws', rfl, h1, h2⟩ := kvS_cons h
    exact kvS_mk (kv_mono h1 hp) (kvS_mono hp h2)
theorem kvS_app {α : List Nat} : ∀ {a b ws : List Value}, kvS α (a ++ b) = some ws → ∃ x y, ws = x ++ y ∧ kvS α a = some x ∧ kvS α b = some y ∧ x.length = a.length
  | [], b, ws, h => ⟨[], ws, rfl, rfl, h, rfl⟩
  | v :: a, b, ws, h => by
    obtain ⟨w, ws', rfl, h1, h2⟩ := kvS_cons (by simpa using h)
    obtain ⟨x, y, rfl, h3, h4, h5⟩ := kvS_app h2
    exact ⟨w :: x, y, rfl, kvS_mk h1 h3, h4, by simp [h5]⟩
theorem kvS_appM {α : List Nat} : ∀ {a b x y : List Value}, kvS α a = some x → kvS α b = some y → kvS α (a ++ b) = some (x ++ y)
  | [], b, x, y, h1, h2 => by cases h1; exact h2
  | v :: a, b, x, y, h1, h2 => by
    obtain ⟨w, ws', rfl, h3, h4⟩ := kvS_cons h1
    exact kvS_mk h3 (kvS_appM h4 h2)
theorem kvS_rev {α : List Nat} : ∀ {a x : List Value}, kvS α a = some x → kvS α a.reverse = some x.reverse
  | [], x, h => by cases h; rfl
  | v :: a, x, h => by
    obtain ⟨w, ws', rfl, h3, h4⟩ := kvS_cons h
    rw [List.reverse_cons, List.reverse_cons]
    exact kvS_appM (kvS_rev h4) (kvS_mk h3 rfl)
theorem kvS_len {α : List Nat} : ∀ {a x : List Value}, kvS α a = some x → x.length = a.length
  | [], x, h => by cases h; rfl
  | v :: a, x, h => by
    obtain ⟨w, ws', rfl, h3, h4⟩ := kvS_cons h
    simp [kvS_len h4]
theorem kvS_cats {α : List Nat} : ∀ {a x : List Value}, kvS α a = some x → (x.map fun v => v.category).sum ≤ 2 * a.length
  | [], x, h => by cases h; simp
  | v :: a, x, h => by
    obtain ⟨w, ws', rfl, h3, h4⟩ := kvS_cons h
    have h5 := kvS_cats h4
    have h6 := lv_cat w
    simp only [List.map_cons, List.sum_cons, List.length_cons]
    omega
theorem kvS_int {α : List Nat} {x : Int32} {vs ws : List Value} (h : kvS α (.int x :: vs) = some ws) : ∃ ws', ws = .int x :: ws' ∧ kvS α vs = some ws' := by
  obtain ⟨w, ws', rfl, h1, h2⟩ := kvS_cons h
  cases h1
  exact ⟨ws', rfl, h2⟩
theorem kvS_long {α : List Nat} {x : Int64} {vs ws : List Value} (h : kvS α (.long x :: vs) = some ws) : ∃ ws', ws = .long x :: ws' ∧ kvS α vs = some ws' := by
  obtain ⟨w, ws', rfl, h1, h2⟩ := kvS_cons h
  cases h1
  exact ⟨ws', rfl, h2⟩
theorem kvS_double {α : List Nat} {x : UInt64} {vs ws : List Value} (h : kvS α (.double x :: vs) = some ws) : ∃ ws', ws = .double x :: ws' ∧ kvS α vs = some ws' := by
  obtain ⟨w, ws', rfl, h1, h2⟩ := kvS_cons h
  cases h1
  exact ⟨ws', rfl, h2⟩
theorem kvS_null {α : List Nat} {vs ws : List Value} (h : kvS α (.null :: vs) = some ws) : ∃ ws', ws = .null :: ws' ∧ kvS α vs = some ws' := by
  obtain ⟨w, ws', rfl, h1, h2⟩ := kvS_cons h
  cases h1
  exact ⟨ws', rfl, h2⟩
theorem kvS_ref {α : List Nat} {k : Nat} {vs ws : List Value} (h : kvS α (.ref k :: vs) = some ws) : ∃ a ws', ws = .ref a :: ws' ∧ α[k]? = some a ∧ kvS α vs = some ws' := by
  obtain ⟨w, ws', rfl, h1, h2⟩ := kvS_cons h
  obtain ⟨a, h3, rfl⟩ := kv_refI h1
  exact ⟨a, ws', rfl, h3, h2⟩
/-- the locals -/
def kvL (α : List Nat) : List (Nat × Value) → Option (List (Nat × Value))
  | [] => some []
  | q :: vs => match kv α q.2, kvL α vs with
    | some w, some ws => some ((q.1, w) :: ws)
    | _, _ => none
theorem kvL_cons {α : List Nat} {q : Nat × Value} {vs ws : List (Nat × Value)} (h : kvL α (q :: vs) = some ws) : ∃ w ws', ws = (q.1, w) :: ws' ∧ kv α q.2 = some w ∧ kvL α vs = some ws' := by
  unfold kvL at h
  split at h
  · rename_i w ws' h1 h2
    cases h
    exact ⟨w, ws', rfl, h1, h2⟩
  · cases h
theorem kvL_mk {α : List Nat} {i : Nat} {v w : Value} {vs ws : List (Nat × Value)} (h1 : kv α v = some w) (h2 : kvL α vs = some ws) : kvL α ((i, v) :: vs) = some ((i, w) :: ws) := by
  unfold kvL
  rw [h1, h2]
theorem kvL_mono {α β : List Nat} (hp : α <+: β) : ∀ {vs ws : List (Nat × Value)}, kvL α vs = some ws → kvL β vs = some ws
  | [], ws, h => h
  | v :: vs, ws, h => by
    obtain ⟨w, ws', rfl, h1, h2⟩ := kvL_cons h
    exact kvL_mk (kv_mono h1 hp) (kvL_mono hp h2)
/-- a filter that looks at places and categories alone -/
theorem kvL_filter {α : List Nat} (g : Nat × Value → Bool) (hg : ∀ i v w, w.category = v.category → g (i, w) = g (i, v)) : ∀ {vs ws : List (Nat × Value)}, kvL α vs = some ws → kvL α (vs.filter g) = some (ws.filter g)
  | [], ws, h => by cases h; rfl
  | q :: vs, ws, h => by
    obtain ⟨w, ws', rfl, h1, h2⟩ := kvL_cons h
    have h3 := kvL_filter g hg h2
    have h4 : g (q.1, w) = g q := hg q.1 q.2 w (kv_cat h1)
    rw [List.filter_cons, List.filter_cons, h4]
    by_cases hq : g q = true
    · rw [if_pos hq, if_pos hq]
      exact kvL_mk h1 h3
    · rw [if_neg hq, if_neg hq]
      exact h3
def kget : List (Nat × Value) → Nat → Option Value
  | [], _ => none
  | q :: l, i => bif q.1 == i then some q.2 else kget l i
theorem kget_spec {α : List Nat} : ∀ {L lv : List (Nat × Value)} {i : Nat} {v : Value}, kget L i = some v → kvL α L = some lv → ∃ w, kv α v = some w ∧ (i, w) ∈ lv
  | [], _, _, _, h, _ => by cases h
  | q :: L, lv, i, v, h, hl => by
    obtain ⟨w, ws', rfl, h1, h2⟩ := kvL_cons hl
    unfold kget at h
    cases hq : (q.1 == i) with
    | true =>
      rw [hq] at h
      cases h
      have : q.1 = i := by simpa using hq
      subst this
      exact ⟨w, h1, List.mem_cons_self⟩
    | false =>
      rw [hq] at h
      obtain ⟨w2, h3, h4⟩ := kget_spec h h2
      exact ⟨w2, h3, List.mem_cons_of_mem _ h4⟩
def kf1 (i : Nat) : Nat × Value → Bool := fun q => !(q.1 == i) && !(q.1 + 1 == i && q.2.category == 2)
def kf2 (i : Nat) : Nat × Value → Bool := fun q => !(q.1 == i) && (!(q.1 == i + 1) && !(q.1 + 1 == i && q.2.category == 2))
theorem kf1_cat (i : Nat) : ∀ (j : Nat) (v w : Value), w.category = v.category → kf1 i (j, w) = kf1 i (j, v) := by
  intro j v w h
  simp [kf1, h]
theorem kf2_cat (i : Nat) : ∀ (j : Nat) (v w : Value), w.category = v.category → kf2 i (j, w) = kf2 i (j, v) := by
  intro j v w h
  simp [kf2, h]
/-! worlds -/
def kcl (E : kE) : List vw_C := E.1
def kdC (E : kE) : Nat → ClassId := E.2.1
def kdI (E : kE) : Nat → Nat → Nat := E.2.2.1
def kb (E : kE) : Nat := E.2.2.2.1
def ktb (E : kE) : List (List Int32) := E.2.2.2.2
def kn (E : kE) : Nat := (ktb E).length
/-- an array's class, as the tables have it -/
def kAr (U : State) (cell : Cell) (ty : FieldType) : Prop := ∃ (kA : Class) (comp : ClassId), U.vm.classes[cell.cls]? = some kA ∧ kA.kind = .array comp ty ∧ ∀ C, ty = .object C → U.vm.findClass C = some comp
theorem kAr.moved {u U : State} {cell : Cell} {ty : FieldType} (hvm : u.vm.Alike U.vm) (h : kAr u cell ty) : kAr U cell ty := by
  obtain ⟨kA, comp, h1, h2, h3⟩ := h
  obtain ⟨k', hk', he⟩ := hvm.2.2 _ _ h1
  exact ⟨k', comp, hk', by rw [he]; exact h2, fun C hC => by rw [hvm.findClass]; exact h3 C hC⟩
theorem kAr.is {U : State} {cell : Cell} {ty : FieldType} (h : kAr U cell ty) (hv : cell.vm = .none) : U.isArrayOf cell ty := by
  obtain ⟨kA, comp, h1, h2, h3⟩ := h
  exact ⟨fun k h => (by rw [hv] at h; cases h), kA, h1, comp, h2⟩
/-- one cell -/
def kAt (E : kE) (U : State) (α : List Nat) (H : Heap) (a : Nat) (c : kCel) : Prop :=
  ∃ cell : Cell, H[a]? = some cell ∧ cell.vm = .none ∧
    ((∃ r : vw_C, (kcl E)[c.1]? = some r ∧ cell.cls = kdC E c.1 ∧ c.2.length = r.2.2 ∧ ∀ (j : Nat) (v : Value), c.2[j]? = some v → ∃ w, kv α v = some w ∧ cell.slots[kdI E c.1 j]? = some w) ∨
     (100 ≤ c.1 ∧ kAr U cell (kTy c.1) ∧ cell.slots.size = c.2.length ∧ ∀ (j : Nat) (v : Value), c.2[j]? = some v → ∃ w, kv α v = some w ∧ cell.slots[j]? = some w))
theorem kAt.moved {E : kE} {u U : State} {α : List Nat} {H : Heap} {a : Nat} {c : kCel} (hvm : u.vm.Alike U.vm) (h : kAt E u α H a c) : kAt E U α H a c := by
  obtain ⟨cell, h1, h2, h3⟩ := h
  refine ⟨cell, h1, h2, ?_⟩
  rcases h3 with h3 | ⟨g1, g2, g3⟩
  · exact Or.inl h3
  · exact Or.inr ⟨g1, g2.moved hvm, g3⟩
theorem kAt.kept {E : kE} {U : State} {α β : List Nat} {H H1 : Heap} {a : Nat} {c : kCel} (h : kAt E U α H a c) (hp : α <+: β) (hq : H1[a]? = H[a]?) : kAt E U β H1 a c := by
  obtain ⟨cell, h1, h2, h3⟩ := h
  refine ⟨cell, by rw [hq]; exact h1, h2, ?_⟩
  rcases h3 with ⟨r, g1, g2, g3, g4⟩ | ⟨g1, g2, g3, g4⟩
  · refine Or.inl ⟨r, g1, g2, g3, fun j v hv => ?_⟩
    obtain ⟨w, w1, w2⟩ := g4 j v hv
    exact ⟨w, kv_mono w1 hp, w2⟩
  · refine Or.inr ⟨g1, g2, g3, fun j v hv => ?_⟩
    obtain ⟨w, w1, w2⟩ := g4 j v hv
    exact ⟨w, kv_mono w1 hp, w2⟩
theorem kAt.lt {E : kE} {U : State} {α : List Nat} {H : Heap} {a : Nat} {c : kCel} (h : kAt E U α H a c) : a < H.size := by
  obtain ⟨cell, h1, h2⟩ := h
  exact (Array.getElem?_eq_some_iff.mp h1).1
/-- the heap -/
def kRep (E : kE) (U : State) (α : List Nat) (h : List kCel) (H : Heap) : Prop :=
  α.length = kn E + h.length ∧ (∀ i j a, kn E ≤ i → kn E ≤ j → α[i]? = some a → α[j]? = some a → i = j) ∧ ∀ (k : Nat) (c : kCel), h[k]? = some c → ∃ a, α[kn E + k]? = some a ∧ kb E ≤ a ∧ kAt E U α H a c
theorem kRep.moved {E : kE} {u U : State} {α : List Nat} {h : List kCel} {H : Heap} (hvm : u.vm.Alike U.vm) (hr : kRep E u α h H) : kRep E U α h H :=
  ⟨hr.1, hr.2.1, fun k c hk => by obtain ⟨a, h1, h2, h3⟩ := hr.2.2 k c hk; exact ⟨a, h1, h2, h3.moved hvm⟩⟩
/-- a reference to a cell of the heap -/
theorem kRep.at {E : kE} {U : State} {α : List Nat} {h : List kCel} {H : Heap} (hr : kRep E U α h H) {k a : Nat} {c : kCel} (hk : kn E ≤ k) (hc : h[k - kn E]? = some c) (ha : α[k]? = some a) : kb E ≤ a ∧ kAt E U α H a c := by
  obtain ⟨a', h1, h2, h3⟩ := hr.2.2 _ c hc
  rw [show kn E + (k - kn E) = k by omega, ha] at h1
  cases h1
  exact ⟨h2, h3⟩
/-- one cell changed in place -/
theorem kRep.put {E : kE} {U : State} {α : List Nat} {h : List kCel} {H H1 : Heap} (hr : kRep E U α h H) {k a : Nat} {c c' : kCel} (hk : kn E ≤ k) (hc : h[k - kn E]? = some c) (ha : α[k]? = some a) (hn : kAt E U α H1 a c') (oq : ∀ q, q ≠ a → H1[q]? = H[q]?) : kRep E U α (h.set (k - kn E) c') H1 := by
  have hl := (List.getElem?_eq_some_iff.mp hc).1
  refine ⟨by simpa using hr.1, hr.2.1, fun j d hj => ?_⟩
  by_cases e : j = k - kn E
  · subst e
    rw [List.getElem?_set_self hl] at hj
    cases hj
    exact ⟨a, by rw [show kn E + (k - kn E) = k by omega]; exact ha, (hr.at hk hc ha).1, hn⟩
  · rw [List.getElem?_set_ne (Ne.symm e)] at hj
    obtain ⟨x, h1, h2, h3⟩ := hr.2.2 j d hj
    refine ⟨x, h1, h2, h3.kept (List.prefix_refl _) (oq x fun z => e ?_)⟩
    subst z
    have := hr.2.1 (kn E + j) k x (by omega) hk h1 ha
    omega
/-- one cell more -/
theorem kRep.push {E : kE} {U : State} {α : List Nat} {h : List kCel} {H H1 : Heap} (hr : kRep E U α h H) {a : Nat} {c : kCel} (ha : H.size ≤ a) (hb : kb E ≤ H.size) (hn : kAt E U (α ++ [a]) H1 a c) (oq : ∀ q, q < H.size → H1[q]? = H[q]?) (hlt : ∀ i x, kn E ≤ i → α[i]? = some x → x < H.size) : kRep E U (α ++ [a]) (h ++ [c]) H1 := by
  refine ⟨by simp [hr.1]; omega, fun i j x hi hj h1 h2 => ?_, fun k d hk => ?_⟩
  · have key : ∀ i x, kn E ≤ i → (α ++ [a])[i]? = some x → (α[i]? = some x ∧ x < H.size) ∨ (i = α.length ∧ x = a) := by
      intro i x hi h1
      by_cases l : i < α.length
      · rw [List.getElem?_append_left l] at h1
        exact Or.inl ⟨h1, hlt i x hi h1⟩
      · rw [List.getElem?_append_right (by omega)] at h1
        have z : i - α.length < 1 := (List.getElem?_eq_some_iff.mp h1).1
        rw [show i - α.length = 0 by omega] at h1
        cases h1
        exact Or.inr ⟨by omega, rfl⟩
    rcases key i x hi h1 with ⟨g1, g2⟩ | ⟨g1, g2⟩ <;> rcases key j x hj h2 with ⟨f1, f2⟩ | ⟨f1, f2⟩
    · exact hr.2.1 i j x hi hj g1 f1
    · omega
    · omega
    · omega
  · by_cases l : k < h.length
    · rw [List.getElem?_append_left l] at hk
      obtain ⟨x, h1, h2, h3⟩ := hr.2.2 k d hk
      exact ⟨x, k_pre h1 (List.prefix_append _ _), h2, h3.kept (List.prefix_append _ _) (oq x h3.lt)⟩
    · rw [List.getElem?_append_right (by omega)] at hk
      have z : k - h.length < 1 := (List.getElem?_eq_some_iff.mp hk).1
      rw [show k - h.length = 0 by omega] at hk
      cases hk
      exact ⟨a, by rw [show kn E + k = α.length by have := hr.1; omega, List.getElem?_append_right (Nat.le_refl _), Nat.sub_self]; rfl, by omega, hn⟩
theorem kRep.lt {E : kE} {U : State} {α : List Nat} {h : List kCel} {H : Heap} (hr : kRep E U α h H) : ∀ i x, kn E ≤ i → α[i]? = some x → x < H.size := by
  intro i x hi hx
  have hl := (List.getElem?_eq_some_iff.mp hx).1
  have h1 := hr.1
  have h2 : i - kn E < h.length := by omega
  obtain ⟨-, h3⟩ := hr.at hi (List.getElem?_eq_getElem h2) hx
  exact h3.lt
end
section
/-! ===== what is given of the start; the judgement kW; what it means that an operation is right ===== -/
/-- what of the start stays: the classes, the tables that nobody writes -/
def kKK (E : kE) (XX : State → Prop) (σ : List Nat) (zs : List (String × String × Nat)) (U : State) : Prop :=
  ((kcl E).length ≤ 100 ∧ σ.length = kn E ∧ kb E ≤ U.heap.size) ∧ (∀ (c : Nat) (q : vw_C), (kcl E)[c]? = some q → u_Kn U q.1 q.2.1 q.2.2 (kdC E c) (kdI E c)) ∧
  (∀ (k a : Nat) (t : List Int32), σ[k]? = some a → (ktb E)[k]? = some t → va_T .int a t.length (fun j => .int (t.getD j 0)) (fun q => kb E ≤ q) U U.heap) ∧
  (∀ z ∈ zs, ∃ a, σ[z.2.2]? = some a ∧ va_Z z.1 z.2.1 "[I" (.ref a) (fun q => kb E ≤ q) U U.heap) ∧ XX U
/-- further facts of the start stay where the tables are alike and the cells below b are the same -/
def kStab (b : Nat) (XX : State → Prop) : Prop := ∀ u U : State, XX u → u.WarmedH U.vm → u.heap.size ≤ U.heap.size → b ≤ u.heap.size → (∀ q, q < b → U.heap[q]? = u.heap[q]?) → XX U
theorem kKK.moved {E : kE} {XX : State → Prop} {σ : List Nat} {zs : List (String × String × Nat)} {u U : State} (hst : kStab (kb E) XX) (h : kKK E XX σ zs u) (hW : u.WarmedH U.vm) (hz : u.heap.size ≤ U.heap.size) (hq : ∀ q, q < kb E → U.heap[q]? = u.heap[q]?) : kKK E XX σ zs U := by
  have hvm := hW.alike
  obtain ⟨⟨h1, h2, h3⟩, h4, h5, h6, h7⟩ := h
  have hk : ∀ a : Nat, a < u.heap.size → ¬ (kb E ≤ a) → U.heap[a]? = u.heap[a]? := fun a _ h => hq a (by omega)
  refine ⟨⟨h1, h2, by omega⟩, fun c q hc => u_Kn_moved hvm (h4 c q hc), fun k a t ha ht => ((h5 k a t ha ht).moved hvm).kept hk, fun z hz => ?_, hst u U h7 hW hz h3 hq⟩
  obtain ⟨a, h8, h9⟩ := h6 z hz
  exact ⟨a, h8, (h9.moved hvm).kept hk⟩
/-- the names of what may be thrown -/
def kEx : Nat → String := fun k => match k with
  | 0 => "java/lang/IllegalArgumentException"
  | 1 => "java/lang/IllegalStateException"
  | _ => "java/lang/IndexOutOfBoundsException"
def kvO (α : List Nat) : Option Value → Option (Option Value)
  | none => some none
  | some v => (kv α v).map some
def kQc (E : kE) (α0 : List Nat) (res : kRes) : Array Value → State → Outcome → State → Prop := fun _ st o t =>
  (∃ (α : List Nat) (vo wo : Option Value), α0 <+: α ∧ res.1 = .inl vo ∧ o = .returned wo ∧ kvO α vo = some wo ∧ kRep E t α res.2.1 t.heap) ∧ va_F (fun q => kb E ≤ q) st t
def kXc (E : kE) (α0 : List Nat) (res : kRes) : String → State → State → Prop := fun Ex st t =>
  (∃ (α : List Nat) (k : Nat), α0 <+: α ∧ res.1 = .inr k ∧ kEx k = Ex ∧ kRep E t α res.2.1 t.heap) ∧ va_F (fun q => kb E ≤ q) st t
/-- from this place of the method, with these locals, this stack and this heap, the machine comes to the result -/
def kW (E : kE) (p : Program) (l : Launch) (e : Env) (R : Room) (s : State) (m : MethodId) (args : Array Value) (below : List Frame) (meth : Method) (c : Code) (α0 : List Nat) (nL nc0 ns0 : Nat) (Q : State → Prop) (pc : Nat) (fs : kFS) : Prop :=
  ∀ (α : List Nat) (H : Heap) (locs : List Loc) (ls : Array Slot) (lv : List (Nat × Value)) (st : List Value), α0 <+: α → kRep E s α fs.2.2.1 H → va_S (fun q => kb E ≤ q) s.heap H locs → kvL α fs.1 = some lv → lv_has ls nL lv → kvS α fs.2.1 = some st → nc0 ≤ fs.2.2.2.1 → ns0 ≤ fs.2.2.2.2 →
    W p l e R s m args below meth c H locs (fs.2.2.2.1 - nc0) (fs.2.2.2.2 - ns0) Q (F0 m pc ls st)
abbrev kQ (E : kE) (below : List Frame) (args : Array Value) (s : State) (α0 : List Nat) (nc0 ns0 : Nat) (res : kRes) : State → Prop :=
  vx_MQ below (kQc E α0 res) (kXc E α0 res) args s (res.2.2.1 - nc0) (res.2.2.2 - ns0) (fun q => kb E ≤ q)
/-- what a method's walk stands on -/
def kCx (E : kE) (XX : State → Prop) (σ : List Nat) (zs : List (String × String × Nat)) (p : Program) (l : Launch) (e : Env) (R : Room) (s : State) (m : MethodId) (args : Array Value) (below : List Frame) (meth : Method) (c : Code) (α0 : List Nat) (cc : ByteArray) (nL nc0 ns0 : Nat) (res : kRes) (own : String) (ws : List Cond) : Prop :=
  p.tables.exec = Jvm.exec ∧ c.code = cc ∧ c.maxLocals = nL ∧ s.vm.findClass own = some m.cls ∧ (∀ w ∈ ws, w.before args s = true) ∧ meth.locks = false ∧ kKK E XX σ zs s ∧ kStab (kb E) XX ∧ σ <+: α0 ∧ l.stackTraces = false ∧ R.cells = res.2.2.1 - nc0 ∧ R.slots = res.2.2.2 - ns0 ∧ 8 ≤ R.frames ∧ 150 ≤ R.locals
/-- an operation, or the end of a block: from pc; behind it the block b begins at pcs b -/
def kOK (E : kE) (p : Program) (l : Launch) (e : Env) (R : Room) (s : State) (m : MethodId) (args : Array Value) (below : List Frame) (meth : Method) (c : Code) (α0 : List Nat) (nL nc0 ns0 : Nat) (res : kRes) (pc : Nat) (pcs : Nat → Nat) (o : kOp) : Prop :=
  ∀ (fs : kFS) (r : (Nat × kFS) ⊕ kRes), o fs = some r → match r with
    | .inl q => fs.2.2.2.1 ≤ q.2.2.2.2.1 ∧ fs.2.2.2.2 ≤ q.2.2.2.2.2 ∧ (q.2.2.2.2.1 ≤ res.2.2.1 → q.2.2.2.2.2 ≤ res.2.2.2 → kW E p l e R s m args below meth c α0 nL nc0 ns0 (kQ E below args s α0 nc0 ns0 res) (pcs q.1) q.2 → kW E p l e R s m args below meth c α0 nL nc0 ns0 (kQ E below args s α0 nc0 ns0 res) pc fs)
    | .inr q => fs.2.2.2.1 ≤ q.2.2.1 ∧ fs.2.2.2.2 ≤ q.2.2.2 ∧ (q = res → kW E p l e R s m args below meth c α0 nL nc0 ns0 (kQ E below args s α0 nc0 ns0 res) pc fs)
/-- the one that goes on at pc' -/
abbrev kTo (pc' : Nat) : Nat → Nat := fun _ => pc'
section KOPS
variable {p : Program} {l : Launch} {e : Env} {R : Room} {s : State} {m : MethodId} {args : Array Value} {below : List Frame} {meth : Method} {c : Code}
variable {E : kE} {XX : State → Prop} {σ α0 : List Nat} {cc : ByteArray} {nL nc0 ns0 : Nat} {res : kRes} {pc pc' : Nat} {own : String} {ws : List Cond} {zs : List (String × String × Nat)}
/-- an operation on the stack alone -/
def oS (g : List Value → Option (List Value)) : kOp := fun fs => match g fs.2.1 with
  | some S => some (.inl (0, (fs.1, S, fs.2.2)))
  | none => none
theorem ok_S {g : List Value → Option (List Value)} (hg : ∀ S S', g S = some S' → ∀ (α : List Nat) (st : List Value), kvS α S = some st → ∃ st', kvS α S' = some st' ∧ ∀ (H : Heap) (locs : List Loc) (ce sl : Nat) (ls : Array Slot) (Q : State → Prop), W p l e R s m args below meth c H locs ce sl Q (F0 m pc' ls st') → W p l e R s m args below meth c H locs ce sl Q (F0 m pc ls st)) : kOK E p l e R s m args below meth c α0 nL nc0 ns0 res pc (kTo pc') (oS g) := by
  intro fs r h
  unfold oS at h
  split at h
  · rename_i S' hS
    cases h
    refine ⟨Nat.le_refl _, Nat.le_refl _, fun _ _ k => ?_⟩
    intro α H locs ls lv st hp hR hV hL hl hs h1 h2
    obtain ⟨st', h3, h4⟩ := hg _ _ hS α st hs
    exact h4 H locs _ _ ls _ (k α H locs ls lv st' hp hR hV hL hl h3 h1 h2)
  · cases h
def gBin (f : Int32 → Int32 → Int32) : List Value → Option (List Value) := fun S => match S with
  | .int y :: .int x :: r => some (.int (f x y) :: r)
  | _ => none
def oBin (f : Int32 → Int32 → Int32) : kOp := oS (gBin f)
theorem ok_bin {f : Int32 → Int32 → Int32} (hrow : ∀ (x y : Int32) (rest : List Value) (H : Heap) (locs : List Loc) (ce sl : Nat) (ls : Array Slot) (Q : State → Prop), W p l e R s m args below meth c H locs ce sl Q (F0 m pc' ls (.int (f x y) :: rest)) → W p l e R s m args below meth c H locs ce sl Q (F0 m pc ls (.int y :: .int x :: rest))) : kOK E p l e R s m args below meth c α0 nL nc0 ns0 res pc (kTo pc') (oBin f) := by
  refine ok_S fun S S' h α st hs => ?_
  unfold gBin at h
  split at h
  · rename_i y x r
    cases h
    obtain ⟨a, rfl, h2⟩ := kvS_int hs
    obtain ⟨b, rfl, h3⟩ := kvS_int h2
    exact ⟨.int (f x y) :: b, kvS_mk rfl h3, fun H locs ce sl ls Q k => hrow x y b H locs ce sl ls Q k⟩
  · cases h
theorem ok_iadd (C : kCx E XX σ zs p l e R s m args below meth c α0 cc nL nc0 ns0 res own ws) (hd : decode cc pc = .ok (.iadd, 1)) : kOK E p l e R s m args below meth c α0 nL nc0 ns0 res pc (kTo (pc + 1)) (oBin fun x y => x + y) := ok_bin fun x y rest H locs ce sl ls Q k => lv_iadd C.1 C.2.1 hd k
theorem ok_isub (C : kCx E XX σ zs p l e R s m args below meth c α0 cc nL nc0 ns0 res own ws) (hd : decode cc pc = .ok (.isub, 1)) : kOK E p l e R s m args below meth c α0 nL nc0 ns0 res pc (kTo (pc + 1)) (oBin fun x y => x - y) := ok_bin fun x y rest H locs ce sl ls Q k => lv_isub C.1 C.2.1 hd k
theorem ok_imul (C : kCx E XX σ zs p l e R s m args below meth c α0 cc nL nc0 ns0 res own ws) (hd : decode cc pc = .ok (.imul, 1)) : kOK E p l e R s m args below meth c α0 nL nc0 ns0 res pc (kTo (pc + 1)) (oBin fun x y => x * y) := ok_bin fun x y rest H locs ce sl ls Q k => lv_imul C.1 C.2.1 hd k
theorem ok_iand (C : kCx E XX σ zs p l e R s m args below meth c α0 cc nL nc0 ns0 res own ws) (hd : decode cc pc = .ok (.iand, 1)) : kOK E p l e R s m args below meth c α0 nL nc0 ns0 res pc (kTo (pc + 1)) (oBin fun x y => x &&& y) := ok_bin fun x y rest H locs ce sl ls Q k => lv_iand C.1 C.2.1 hd k
theorem ok_ior (C : kCx E XX σ zs p l e R s m args below meth c α0 cc nL nc0 ns0 res own ws) (hd : decode cc pc = .ok (.ior, 1)) : kOK E p l e R s m args below meth c α0 nL nc0 ns0 res pc (kTo (pc + 1)) (oBin fun x y => x ||| y) := ok_bin fun x y rest H locs ce sl ls Q k => lv_ior C.1 C.2.1 hd k
theorem ok_ishl (C : kCx E XX σ zs p l e R s m args below meth c α0 cc nL nc0 ns0 res own ws) (hd : decode cc pc = .ok (.ishl, 1)) : kOK E p l e R s m args below meth c α0 nL nc0 ns0 res pc (kTo (pc + 1)) (oBin fun x y => x <<< (y &&& 31)) := ok_bin fun x y rest H locs ce sl ls Q k => lv_ishl C.1 C.2.1 hd k
theorem ok_ishr (C : kCx E XX σ zs p l e R s m args below meth c α0 cc nL nc0 ns0 res own ws) (hd : decode cc pc = .ok (.ishr, 1)) : kOK E p l e R s m args below meth c α0 nL nc0 ns0 res pc (kTo (pc + 1)) (oBin fun x y => x >>> (y &&& 31)) := ok_bin fun x y rest H locs ce sl ls Q k => lv_ishr C.1 C.2.1 hd k
def gBin0 (f : Int32 → Int32 → Int32) : List Value → Option (List Value) := fun S => match S with
  | .int y :: .int x :: r => bif decide (y = 0) then none else some (.int (f x y) :: r)
  | _ => none
def oBin0 (f : Int32 → Int32 → Int32) : kOp := oS (gBin0 f)
theorem ok_bin0 {f : Int32 → Int32 → Int32} (hrow : ∀ (x y : Int32) (rest : List Value) (H : Heap) (locs : List Loc) (ce sl : Nat) (ls : Array Slot) (Q : State → Prop), ¬ y = 0 → W p l e R s m args below meth c H locs ce sl Q (F0 m pc' ls (.int (f x y) :: rest)) → W p l e R s m args below meth c H locs ce sl Q (F0 m pc ls (.int y :: .int x :: rest))) : kOK E p l e R s m args below meth c α0 nL nc0 ns0 res pc (kTo pc') (oBin0 f) := by
  refine ok_S fun S S' h α st hs => ?_
  unfold gBin0 at h
  split at h
  · rename_i y x r
    by_cases hy : y = 0
    · simp [hy] at h
    · simp only [hy, decide_false, cond_false] at h
      cases h
      obtain ⟨a, rfl, h2⟩ := kvS_int hs
      obtain ⟨b, rfl, h3⟩ := kvS_int h2
      exact ⟨.int (f x y) :: b, kvS_mk rfl h3, fun H locs ce sl ls Q k => hrow x y b H locs ce sl ls Q hy k⟩
  · cases h
theorem ok_idiv (C : kCx E XX σ zs p l e R s m args below meth c α0 cc nL nc0 ns0 res own ws) (hd : decode cc pc = .ok (.idiv, 1)) : kOK E p l e R s m args below meth c α0 nL nc0 ns0 res pc (kTo (pc + 1)) (oBin0 fun x y => x / y) := ok_bin0 fun x y rest H locs ce sl ls Q hy k => lv_idiv C.1 C.2.1 hd hy k
theorem ok_irem (C : kCx E XX σ zs p l e R s m args below meth c α0 cc nL nc0 ns0 res own ws) (hd : decode cc pc = .ok (.irem, 1)) : kOK E p l e R s m args below meth c α0 nL nc0 ns0 res pc (kTo (pc + 1)) (oBin0 fun x y => x - x / y * y) := ok_bin0 fun x y rest H locs ce sl ls Q hy k => lv_irem C.1 C.2.1 hd hy k
def gBinL (f : Int64 → Int64 → Int64) : List Value → Option (List Value) := fun S => match S with
  | .long y :: .long x :: r => some (.long (f x y) :: r)
  | _ => none
def oBinL (f : Int64 → Int64 → Int64) : kOp := oS (gBinL f)
theorem ok_binL {f : Int64 → Int64 → Int64} (hrow : ∀ (x y : Int64) (rest : List Value) (H : Heap) (locs : List Loc) (ce sl : Nat) (ls : Array Slot) (Q : State → Prop), W p l e R s m args below meth c H locs ce sl Q (F0 m pc' ls (.long (f x y) :: rest)) → W p l e R s m args below meth c H locs ce sl Q (F0 m pc ls (.long y :: .long x :: rest))) : kOK E p l e R s m args below meth c α0 nL nc0 ns0 res pc (kTo pc') (oBinL f) := by
  refine ok_S fun S S' h α st hs => ?_
  unfold gBinL at h
  split at h
  · rename_i y x r
    cases h
    obtain ⟨a, rfl, h2⟩ := kvS_long hs
    obtain ⟨b, rfl, h3⟩ := kvS_long h2
    exact ⟨.long (f x y) :: b, kvS_mk rfl h3, fun H locs ce sl ls Q k => hrow x y b H locs ce sl ls Q k⟩
  · cases h
theorem ok_ladd (C : kCx E XX σ zs p l e R s m args below meth c α0 cc nL nc0 ns0 res own ws) (hd : decode cc pc = .ok (.ladd, 1)) : kOK E p l e R s m args below meth c α0 nL nc0 ns0 res pc (kTo (pc + 1)) (oBinL fun x y => x + y) := ok_binL fun x y rest H locs ce sl ls Q k => lv_ladd C.1 C.2.1 hd k
theorem ok_lmul (C : kCx E XX σ zs p l e R s m args below meth c α0 cc nL nc0 ns0 res own ws) (hd : decode cc pc = .ok (.lmul, 1)) : kOK E p l e R s m args below meth c α0 nL nc0 ns0 res pc (kTo (pc + 1)) (oBinL fun x y => x * y) := ok_binL fun x y rest H locs ce sl ls Q k => lv_lmul C.1 C.2.1 hd k
theorem ok_lsub (C : kCx E XX σ zs p l e R s m args below meth c α0 cc nL nc0 ns0 res own ws) (hd : decode cc pc = .ok (.lsub, 1)) : kOK E p l e R s m args below meth c α0 nL nc0 ns0 res pc (kTo (pc + 1)) (oBinL fun x y => x - y) := ok_binL fun x y rest H locs ce sl ls Q k => lv_lsub C.1 C.2.1 hd k
def gBinL0 (f : Int64 → Int64 → Int64) : List Value → Option (List Value) := fun S => match S with
  | .long y :: .long x :: r => bif decide (y = 0) then none else some (.long (f x y) :: r)
  | _ => none
def oBinL0 (f : Int64 → Int64 → Int64) : kOp := oS (gBinL0 f)
theorem ok_binL0 {f : Int64 → Int64 → Int64} (hrow : ∀ (x y : Int64) (rest : List Value) (H : Heap) (locs : List Loc) (ce sl : Nat) (ls : Array Slot) (Q : State → Prop), ¬ y = 0 → W p l e R s m args below meth c H locs ce sl Q (F0 m pc' ls (.long (f x y) :: rest)) → W p l e R s m args below meth c H locs ce sl Q (F0 m pc ls (.long y :: .long x :: rest))) : kOK E p l e R s m args below meth c α0 nL nc0 ns0 res pc (kTo pc') (oBinL0 f) := by
  refine ok_S fun S S' h α st hs => ?_
  unfold gBinL0 at h
  split at h
  · rename_i y x r
    by_cases hy : y = 0
    · simp [hy] at h
    · simp only [hy, decide_false, cond_false] at h
      cases h
      obtain ⟨a, rfl, h2⟩ := kvS_long hs
      obtain ⟨b, rfl, h3⟩ := kvS_long h2
      exact ⟨.long (f x y) :: b, kvS_mk rfl h3, fun H locs ce sl ls Q k => hrow x y b H locs ce sl ls Q hy k⟩
  · cases h
theorem ok_ldiv (C : kCx E XX σ zs p l e R s m args below meth c α0 cc nL nc0 ns0 res own ws) (hd : decode cc pc = .ok (.ldiv, 1)) : kOK E p l e R s m args below meth c α0 nL nc0 ns0 res pc (kTo (pc + 1)) (oBinL0 fun x y => x / y) := ok_binL0 fun x y rest H locs ce sl ls Q hy k => lv_ldiv C.1 C.2.1 hd hy k
theorem ok_lrem (C : kCx E XX σ zs p l e R s m args below meth c α0 cc nL nc0 ns0 res own ws) (hd : decode cc pc = .ok (.lrem, 1)) : kOK E p l e R s m args below meth c α0 nL nc0 ns0 res pc (kTo (pc + 1)) (oBinL0 fun x y => x - x / y * y) := ok_binL0 fun x y rest H locs ce sl ls Q hy k => lv_lrem C.1 C.2.1 hd hy k
def gLcmp : List Value → Option (List Value) := fun S => match S with
  | .long y :: .long x :: r => some (.int (lg_cmp x y) :: r)
  | _ => none
theorem ok_lcmp (C : kCx E XX σ zs p l e R s m args below meth c α0 cc nL nc0 ns0 res own ws) (hd : decode cc pc = .ok (.lcmp, 1)) : kOK E p l e R s m args below meth c α0 nL nc0 ns0 res pc (kTo (pc + 1)) (oS gLcmp) := by
  refine ok_S fun S S' h α st hs => ?_
  unfold gLcmp at h
  split at h
  · cases h
    obtain ⟨a, rfl, h2⟩ := kvS_long hs
    obtain ⟨b, rfl, h3⟩ := kvS_long h2
    exact ⟨_, kvS_mk rfl h3, fun H locs ce sl ls Q k => W.lcmp C.1 C.2.1 hd k⟩
  · cases h
def gI2l : List Value → Option (List Value) := fun S => match S with
  | .int x :: r => some (.long x.toInt64 :: r)
  | _ => none
theorem ok_i2l (C : kCx E XX σ zs p l e R s m args below meth c α0 cc nL nc0 ns0 res own ws) (hd : decode cc pc = .ok (.i2l, 1)) : kOK E p l e R s m args below meth c α0 nL nc0 ns0 res pc (kTo (pc + 1)) (oS gI2l) := by
  refine ok_S fun S S' h α st hs => ?_
  unfold gI2l at h
  split at h
  · cases h
    obtain ⟨b, rfl, h3⟩ := kvS_int hs
    exact ⟨_, kvS_mk rfl h3, fun H locs ce sl ls Q k => lv_i2l C.1 C.2.1 hd rfl k⟩
  · cases h
def gL2i : List Value → Option (List Value) := fun S => match S with
  | .long x :: r => some (.int x.toInt32 :: r)
  | _ => none
theorem ok_l2i (C : kCx E XX σ zs p l e R s m args below meth c α0 cc nL nc0 ns0 res own ws) (hd : decode cc pc = .ok (.l2i, 1)) : kOK E p l e R s m args below meth c α0 nL nc0 ns0 res pc (kTo (pc + 1)) (oS gL2i) := by
  refine ok_S fun S S' h α st hs => ?_
  unfold gL2i at h
  split at h
  · cases h
    obtain ⟨b, rfl, h3⟩ := kvS_long hs
    exact ⟨_, kvS_mk rfl h3, fun H locs ce sl ls Q k => lv_l2i C.1 C.2.1 hd rfl k⟩
  · cases h
def gI2d : List Value → Option (List Value) := fun S => match S with
  | .int x :: r => some (.double (FP.i2d x) :: r)
  | _ => none
theorem ok_i2d (C : kCx E XX σ zs p l e R s m args below meth c α0 cc nL nc0 ns0 res own ws) (hd : decode cc pc = .ok (.i2d, 1)) : kOK E p l e R s m args below meth c α0 nL nc0 ns0 res pc (kTo (pc + 1)) (oS gI2d) := by
  refine ok_S fun S S' h α st hs => ?_
  unfold gI2d at h
  split at h
  · cases h
    obtain ⟨b, rfl, h3⟩ := kvS_int hs
    exact ⟨_, kvS_mk rfl h3, fun H locs ce sl ls Q k => lv_i2d C.1 C.2.1 hd k⟩
  · cases h
def gIneg : List Value → Option (List Value) := fun S => match S with
  | .int x :: r => some (.int (-x) :: r)
  | _ => none
theorem ok_ineg (C : kCx E XX σ zs p l e R s m args below meth c α0 cc nL nc0 ns0 res own ws) (hd : decode cc pc = .ok (.ineg, 1)) : kOK E p l e R s m args below meth c α0 nL nc0 ns0 res pc (kTo (pc + 1)) (oS gIneg) := by
  refine ok_S fun S S' h α st hs => ?_
  unfold gIneg at h
  split at h
  · cases h
    obtain ⟨b, rfl, h3⟩ := kvS_int hs
    exact ⟨_, kvS_mk rfl h3, fun H locs ce sl ls Q k => lv_ineg C.1 C.2.1 hd k⟩
  · cases h
def gDcmp (op : CmpOp) : List Value → Option (List Value) := fun S => match S with
  | .double y :: .double x :: r => some (.int (Op.cmpValue (FP.dcmp x y) op) :: r)
  | _ => none
theorem ok_dcmp {op : CmpOp} (C : kCx E XX σ zs p l e R s m args below meth c α0 cc nL nc0 ns0 res own ws) (hd : decode cc pc = .ok (.dcmp op, 1)) : kOK E p l e R s m args below meth c α0 nL nc0 ns0 res pc (kTo (pc + 1)) (oS (gDcmp op)) := by
  refine ok_S fun S S' h α st hs => ?_
  unfold gDcmp at h
  split at h
  · cases h
    obtain ⟨a, rfl, h2⟩ := kvS_double hs
    obtain ⟨b, rfl, h3⟩ := kvS_double h2
    exact ⟨_, kvS_mk rfl h3, fun H locs ce sl ls Q k => lv_dcmp C.1 C.2.1 hd k⟩
  · cases h
def gDdiv : List Value → Option (List Value) := fun S => match S with
  | .double y :: .double x :: r => bif decide (FP.ddiv x y &&& 0x7fffffffffffffff ≤ 0x7ff0000000000000) then some (.double (FP.ddiv x y) :: r) else none
  | _ => none
theorem ok_ddiv (C : kCx E XX σ zs p l e R s m args below meth c α0 cc nL nc0 ns0 res own ws) (hd : decode cc pc = .ok (.ddiv, 1)) : kOK E p l e R s m args below meth c α0 nL nc0 ns0 res pc (kTo (pc + 1)) (oS gDdiv) := by
  refine ok_S fun S S' h α st hs => ?_
  unfold gDdiv at h
  split at h
  · rename_i y x r
    by_cases hy : FP.ddiv x y &&& 0x7fffffffffffffff ≤ 0x7ff0000000000000
    · simp only [hy, decide_true, cond_true] at h
      cases h
      obtain ⟨a, rfl, h2⟩ := kvS_double hs
      obtain ⟨b, rfl, h3⟩ := kvS_double h2
      exact ⟨_, kvS_mk rfl h3, fun H locs ce sl ls Q k => lv_ddiv C.1 C.2.1 hd hy k⟩
    · simp [hy] at h
  · cases h
def gPush (v : Value) : List Value → Option (List Value) := fun S => some (v :: S)
theorem ok_push {v : Value} (hv : ∀ α, kv α v = some v) (hrow : ∀ (rest : List Value) (H : Heap) (locs : List Loc) (ce sl : Nat) (ls : Array Slot) (Q : State → Prop), W p l e R s m args below meth c H locs ce sl Q (F0 m pc' ls (v :: rest)) → W p l e R s m args below meth c H locs ce sl Q (F0 m pc ls rest)) : kOK E p l e R s m args below meth c α0 nL nc0 ns0 res pc (kTo pc') (oS (gPush v)) := by
  refine ok_S fun S S' h α st hs => ?_
  cases h
  exact ⟨_, kvS_mk (hv α) hs, fun H locs ce sl ls Q k => hrow st H locs ce sl ls Q k⟩
theorem ok_iconst {n : Int} {v : Int32} (C : kCx E XX σ zs p l e R s m args below meth c α0 cc nL nc0 ns0 res own ws) (hd : decode cc pc = .ok (.iconst n, 1)) (hv : Int32.ofInt n = v) : kOK E p l e R s m args below meth c α0 nL nc0 ns0 res pc (kTo (pc + 1)) (oS (gPush (.int v))) := ok_push (fun _ => rfl) fun rest H locs ce sl ls Q k => lv_iconst C.1 C.2.1 hd hv k
theorem ok_bipush {n : Int} {v : Int32} (C : kCx E XX σ zs p l e R s m args below meth c α0 cc nL nc0 ns0 res own ws) (hd : decode cc pc = .ok (.bipush n, 2)) (hv : (Int8.ofInt n).toInt32 = v) : kOK E p l e R s m args below meth c α0 nL nc0 ns0 res pc (kTo (pc + 2)) (oS (gPush (.int v))) := ok_push (fun _ => rfl) fun rest H locs ce sl ls Q k => lv_bipush C.1 C.2.1 hd hv k
theorem ok_sipush {n : Int} {v : Int32} (C : kCx E XX σ zs p l e R s m args below meth c α0 cc nL nc0 ns0 res own ws) (hd : decode cc pc = .ok (.sipush n, 3)) (hv : (Int16.ofInt n).toInt32 = v) : kOK E p l e R s m args below meth c α0 nL nc0 ns0 res pc (kTo (pc + 3)) (oS (gPush (.int v))) := ok_push (fun _ => rfl) fun rest H locs ce sl ls Q k => lv_sipush C.1 C.2.1 hd hv k
theorem ok_lconst {n : Fin 2} {v : Int64} (C : kCx E XX σ zs p l e R s m args below meth c α0 cc nL nc0 ns0 res own ws) (hd : decode cc pc = .ok (.lconst n, 1)) (hv : Int64.ofNat (n : Nat) = v) : kOK E p l e R s m args below meth c α0 nL nc0 ns0 res pc (kTo (pc + 1)) (oS (gPush (.long v))) := ok_push (fun _ => rfl) fun rest H locs ce sl ls Q k => lv_lconst C.1 C.2.1 hd hv k
theorem ok_dconst0 (C : kCx E XX σ zs p l e R s m args below meth c α0 cc nL nc0 ns0 res own ws) (hd : decode cc pc = .ok (.dconst 0, 1)) : kOK E p l e R s m args below meth c α0 nL nc0 ns0 res pc (kTo (pc + 1)) (oS (gPush (.double FP.dconst0))) := ok_push (fun _ => rfl) fun rest H locs ce sl ls Q k => lv_dconst0 C.1 C.2.1 hd k
theorem ok_null (C : kCx E XX σ zs p l e R s m args below meth c α0 cc nL nc0 ns0 res own ws) (hd : decode cc pc = .ok (.aconst_null, 1)) : kOK E p l e R s m args below meth c α0 nL nc0 ns0 res pc (kTo (pc + 1)) (oS (gPush .null)) := ok_push (fun _ => rfl) fun rest H locs ce sl ls Q k => lv_null C.1 C.2.1 hd k
theorem ok_ldc {v : Int32} {ix : Nat} (C : kCx E XX σ zs p l e R s m args below meth c α0 cc nL nc0 ns0 res own ws) (hd : decode cc pc = .ok (.ldc ix, 2)) (hw : Jvm.Cond.constant own ix v ∈ ws) : kOK E p l e R s m args below meth c α0 nL nc0 ns0 res pc (kTo (pc + 2)) (oS (gPush (.int v))) := ok_push (fun _ => rfl) fun rest H locs ce sl ls Q k => lv_ldc C.1 C.2.1 C.2.2.2.1 (C.2.2.2.2.1 _ hw) hd k
theorem ok_ldc2 {v : Int64} {ix : Nat} (C : kCx E XX σ zs p l e R s m args below meth c α0 cc nL nc0 ns0 res own ws) (hd : decode cc pc = .ok (.ldc2_w ix, 3)) (hw : Jvm.Cond.constantLong own ix v ∈ ws) : kOK E p l e R s m args below meth c α0 nL nc0 ns0 res pc (kTo (pc + 3)) (oS (gPush (.long v))) := ok_push (fun _ => rfl) fun rest H locs ce sl ls Q k => lv_ldc2 C.1 C.2.1 C.2.2.2.1 (C.2.2.2.2.1 _ hw) hd k
def gDup : List Value → Option (List Value) := fun S => match S with
  | v :: r => bif v.category == 1 then some (v :: v :: r) else none
  | _ => none
theorem ok_dup (C : kCx E XX σ zs p l e R s m args below meth c α0 cc nL nc0 ns0 res own ws) (hd : decode cc pc = .ok (.dup, 1)) : kOK E p l e R s m args below meth c α0 nL nc0 ns0 res pc (kTo (pc + 1)) (oS gDup) := by
  refine ok_S fun S S' h α st hs => ?_
  unfold gDup at h
  split at h
  · rename_i v r
    cases hq : (v.category == 1) with
    | false => rw [hq] at h; cases h
    | true =>
      rw [hq] at h
      cases h
      obtain ⟨w, b, rfl, h1, h2⟩ := kvS_cons hs
      exact ⟨_, kvS_mk h1 (kvS_mk h1 h2), fun H locs ce sl ls Q k => lv_dup C.1 C.2.1 hd (by rw [kv_cat h1]; simpa using hq) k⟩
  · cases h
def gPop : List Value → Option (List Value) := fun S => match S with
  | v :: r => bif v.category == 1 then some r else none
  | _ => none
theorem ok_pop (C : kCx E XX σ zs p l e R s m args below meth c α0 cc nL nc0 ns0 res own ws) (hd : decode cc pc = .ok (.pop, 1)) : kOK E p l e R s m args below meth c α0 nL nc0 ns0 res pc (kTo (pc + 1)) (oS gPop) := by
  refine ok_S fun S S' h α st hs => ?_
  unfold gPop at h
  split at h
  · rename_i v r
    cases hq : (v.category == 1) with
    | false => rw [hq] at h; cases h
    | true =>
      rw [hq] at h
      cases h
      obtain ⟨w, b, rfl, h1, h2⟩ := kvS_cons hs
      exact ⟨_, h2, fun H locs ce sl ls Q k => lv_pop C.1 C.2.1 hd (by rw [kv_cat h1]; simpa using hq) k⟩
  · cases h
def gDup2 : List Value → Option (List Value) := fun S => match S with
  | v :: u :: r => bif v.category == 1 && u.category == 1 then some (v :: u :: v :: u :: r) else none
  | _ => none
theorem ok_dup2 (C : kCx E XX σ zs p l e R s m args below meth c α0 cc nL nc0 ns0 res own ws) (hd : decode cc pc = .ok (.dup2, 1)) : kOK E p l e R s m args below meth c α0 nL nc0 ns0 res pc (kTo (pc + 1)) (oS gDup2) := by
  refine ok_S fun S S' h α st hs => ?_
  unfold gDup2 at h
  split at h
  · rename_i v u r
    cases hq : (v.category == 1 && u.category == 1) with
    | false => rw [hq] at h; cases h
    | true =>
      rw [hq] at h
      cases h
      simp only [Bool.and_eq_true, beq_iff_eq] at hq
      obtain ⟨w, b, rfl, h1, h2⟩ := kvS_cons hs
      obtain ⟨w2, b, rfl, h3, h4⟩ := kvS_cons h2
      exact ⟨_, kvS_mk h1 (kvS_mk h3 (kvS_mk h1 (kvS_mk h3 h4))), fun H locs ce sl ls Q k => lv_dup2_11 C.1 C.2.1 hd (by rw [kv_cat h1]; exact hq.1) (by rw [kv_cat h3]; exact hq.2) k⟩
  · cases h
def gDupX1 : List Value → Option (List Value) := fun S => match S with
  | v :: u :: r => bif v.category == 1 && u.category == 1 then some (v :: u :: v :: r) else none
  | _ => none
theorem ok_dupx1 (C : kCx E XX σ zs p l e R s m args below meth c α0 cc nL nc0 ns0 res own ws) (hd : decode cc pc = .ok (.dup_x1, 1)) : kOK E p l e R s m args below meth c α0 nL nc0 ns0 res pc (kTo (pc + 1)) (oS gDupX1) := by
  refine ok_S fun S S' h α st hs => ?_
  unfold gDupX1 at h
  split at h
  · rename_i v u r
    cases hq : (v.category == 1 && u.category == 1) with
    | false => rw [hq] at h; cases h
    | true =>
      rw [hq] at h
      cases h
      simp only [Bool.and_eq_true, beq_iff_eq] at hq
      obtain ⟨w, b, rfl, h1, h2⟩ := kvS_cons hs
      obtain ⟨w2, b, rfl, h3, h4⟩ := kvS_cons h2
      exact ⟨_, kvS_mk h1 (kvS_mk h3 (kvS_mk h1 h4)), fun H locs ce sl ls Q k => lv_dup_x1 C.1 C.2.1 hd (by rw [kv_cat h1]; exact hq.1) (by rw [kv_cat h3]; exact hq.2) k⟩
  · cases h
def gDupX2 : List Value → Option (List Value) := fun S => match S with
  | v :: u :: t :: r => bif v.category == 1 && (u.category == 1 && t.category == 1) then some (v :: u :: t :: v :: r) else none
  | _ => none
theorem ok_dupx2 (C : kCx E XX σ zs p l e R s m args below meth c α0 cc nL nc0 ns0 res own ws) (hd : decode cc pc = .ok (.dup_x2, 1)) : kOK E p l e R s m args below meth c α0 nL nc0 ns0 res pc (kTo (pc + 1)) (oS gDupX2) := by
  refine ok_S fun S S' h α st hs => ?_
  unfold gDupX2 at h
  split at h
  · rename_i v u t r
    cases hq : (v.category == 1 && (u.category == 1 && t.category == 1)) with
    | false => rw [hq] at h; cases h
    | true =>
      rw [hq] at h
      cases h
      simp only [Bool.and_eq_true, beq_iff_eq] at hq
      obtain ⟨w, b, rfl, h1, h2⟩ := kvS_cons hs
      obtain ⟨w2, b, rfl, h3, h4⟩ := kvS_cons h2
      obtain ⟨w3, b, rfl, h5, h6⟩ := kvS_cons h4
      exact ⟨_, kvS_mk h1 (kvS_mk h3 (kvS_mk h5 (kvS_mk h1 h6))), fun H locs ce sl ls Q k => lv_dup_x2 C.1 C.2.1 hd (by rw [kv_cat h1]; exact hq.1) (by rw [kv_cat h3]; exact hq.2.1) (by rw [kv_cat h5]; exact hq.2.2) k⟩
  · cases h
end KOPS
end
section
/-! ===== locals, branches, returns ===== -/
section KLOC
variable {p : Program} {l : Launch} {e : Env} {R : Room} {s : State} {m : MethodId} {args : Array Value} {below : List Frame} {meth : Method} {c : Code}
variable {E : kE} {XX : State → Prop} {σ α0 : List Nat} {cc : ByteArray} {nL nc0 ns0 : Nat} {res : kRes} {pc pc' : Nat} {own : String} {ws : List Cond} {zs : List (String × String × Nat)}
def oLoadI (i : Nat) : kOp := fun fs => match kget fs.1 i with
  | some (.int x) => some (.inl (0, (fs.1, .int x :: fs.2.1, fs.2.2)))
  | _ => none
theorem ok_iloadn {k : Fin 4} {i : Nat} (C : kCx E XX σ zs p l e R s m args below meth c α0 cc nL nc0 ns0 res own ws) (hd : decode cc pc = .ok (.iload_n k, 1)) (hk : (k : Nat) = i) : kOK E p l e R s m args below meth c α0 nL nc0 ns0 res pc (kTo (pc + 1)) (oLoadI i) := by
  intro fs r h
  unfold oLoadI at h
  split at h
  · rename_i x hx
    cases h
    refine ⟨Nat.le_refl _, Nat.le_refl _, fun _ _ k2 => ?_⟩
    intro α H locs ls lv st hp hR hV hL hl hs h1 h2
    obtain ⟨w, hw, hmem⟩ := kget_spec hx hL
    have hw0 := hw
    cases hw
    exact lv_iload_n C.1 C.2.1 hd hk (hl.2.2 _ hmem) (k2 α H locs ls lv _ hp hR hV hL hl (kvS_mk hw0 hs) h1 h2)
  · cases h
theorem ok_iload {i : Nat} (C : kCx E XX σ zs p l e R s m args below meth c α0 cc nL nc0 ns0 res own ws) (hd : decode cc pc = .ok (.iload i, 2)) : kOK E p l e R s m args below meth c α0 nL nc0 ns0 res pc (kTo (pc + 2)) (oLoadI i) := by
  intro fs r h
  unfold oLoadI at h
  split at h
  · rename_i x hx
    cases h
    refine ⟨Nat.le_refl _, Nat.le_refl _, fun _ _ k2 => ?_⟩
    intro α H locs ls lv st hp hR hV hL hl hs h1 h2
    obtain ⟨w, hw, hmem⟩ := kget_spec hx hL
    have hw0 := hw
    cases hw
    exact lv_iload C.1 C.2.1 hd (hl.2.2 _ hmem) (k2 α H locs ls lv _ hp hR hV hL hl (kvS_mk hw0 hs) h1 h2)
  · cases h
def oLoadL (i : Nat) : kOp := fun fs => match kget fs.1 i with
  | some (.long x) => some (.inl (0, (fs.1, .long x :: fs.2.1, fs.2.2)))
  | _ => none
theorem ok_lloadn {k : Fin 4} {i : Nat} (C : kCx E XX σ zs p l e R s m args below meth c α0 cc nL nc0 ns0 res own ws) (hd : decode cc pc = .ok (.lload_n k, 1)) (hk : (k : Nat) = i) : kOK E p l e R s m args below meth c α0 nL nc0 ns0 res pc (kTo (pc + 1)) (oLoadL i) := by
  intro fs r h
  unfold oLoadL at h
  split at h
  · rename_i x hx
    cases h
    refine ⟨Nat.le_refl _, Nat.le_refl _, fun _ _ k2 => ?_⟩
    intro α H locs ls lv st hp hR hV hL hl hs h1 h2
    obtain ⟨w, hw, hmem⟩ := kget_spec hx hL
    have hw0 := hw
    cases hw
    exact lv_lload_n C.1 C.2.1 hd hk (hl.2.2 _ hmem) (k2 α H locs ls lv _ hp hR hV hL hl (kvS_mk hw0 hs) h1 h2)
  · cases h
theorem ok_lload {i : Nat} (C : kCx E XX σ zs p l e R s m args below meth c α0 cc nL nc0 ns0 res own ws) (hd : decode cc pc = .ok (.lload i, 2)) : kOK E p l e R s m args below meth c α0 nL nc0 ns0 res pc (kTo (pc + 2)) (oLoadL i) := by
  intro fs r h
  unfold oLoadL at h
  split at h
  · rename_i x hx
    cases h
    refine ⟨Nat.le_refl _, Nat.le_refl _, fun _ _ k2 => ?_⟩
    intro α H locs ls lv st hp hR hV hL hl hs h1 h2
    obtain ⟨w, hw, hmem⟩ := kget_spec hx hL
    have hw0 := hw
    cases hw
    exact lv_lload C.1 C.2.1 hd (hl.2.2 _ hmem) (k2 α H locs ls lv _ hp hR hV hL hl (kvS_mk hw0 hs) h1 h2)
  · cases h
def oLoadD (i : Nat) : kOp := fun fs => match kget fs.1 i with
  | some (.double x) => some (.inl (0, (fs.1, .double x :: fs.2.1, fs.2.2)))
  | _ => none
theorem ok_dloadn {k : Fin 4} {i : Nat} (C : kCx E XX σ zs p l e R s m args below meth c α0 cc nL nc0 ns0 res own ws) (hd : decode cc pc = .ok (.dload_n k, 1)) (hk : (k : Nat) = i) : kOK E p l e R s m args below meth c α0 nL nc0 ns0 res pc (kTo (pc + 1)) (oLoadD i) := by
  intro fs r h
  unfold oLoadD at h
  split at h
  · rename_i x hx
    cases h
    refine ⟨Nat.le_refl _, Nat.le_refl _, fun _ _ k2 => ?_⟩
    intro α H locs ls lv st hp hR hV hL hl hs h1 h2
    obtain ⟨w, hw, hmem⟩ := kget_spec hx hL
    have hw0 := hw
    cases hw
    exact lv_dload_n C.1 C.2.1 hd hk (hl.2.2 _ hmem) (k2 α H locs ls lv _ hp hR hV hL hl (kvS_mk hw0 hs) h1 h2)
  · cases h
theorem ok_dload {i : Nat} (C : kCx E XX σ zs p l e R s m args below meth c α0 cc nL nc0 ns0 res own ws) (hd : decode cc pc = .ok (.dload i, 2)) : kOK E p l e R s m args below meth c α0 nL nc0 ns0 res pc (kTo (pc + 2)) (oLoadD i) := by
  intro fs r h
  unfold oLoadD at h
  split at h
  · rename_i x hx
    cases h
    refine ⟨Nat.le_refl _, Nat.le_refl _, fun _ _ k2 => ?_⟩
    intro α H locs ls lv st hp hR hV hL hl hs h1 h2
    obtain ⟨w, hw, hmem⟩ := kget_spec hx hL
    have hw0 := hw
    cases hw
    exact lv_dload C.1 C.2.1 hd (hl.2.2 _ hmem) (k2 α H locs ls lv _ hp hR hV hL hl (kvS_mk hw0 hs) h1 h2)
  · cases h
def oLoadA (i : Nat) : kOp := fun fs => match kget fs.1 i with
  | some (.ref x) => some (.inl (0, (fs.1, .ref x :: fs.2.1, fs.2.2)))
  | _ => none
theorem ok_aloadn {k : Fin 4} {i : Nat} (C : kCx E XX σ zs p l e R s m args below meth c α0 cc nL nc0 ns0 res own ws) (hd : decode cc pc = .ok (.aload_n k, 1)) (hk : (k : Nat) = i) : kOK E p l e R s m args below meth c α0 nL nc0 ns0 res pc (kTo (pc + 1)) (oLoadA i) := by
  intro fs r h
  unfold oLoadA at h
  split at h
  · rename_i x hx
    cases h
    refine ⟨Nat.le_refl _, Nat.le_refl _, fun _ _ k2 => ?_⟩
    intro α H locs ls lv st hp hR hV hL hl hs h1 h2
    obtain ⟨w, hw, hmem⟩ := kget_spec hx hL
    have hw0 := hw
    obtain ⟨a, ha, rfl⟩ := kv_refI hw
    exact lv_aload_n C.1 C.2.1 hd hk (hl.2.2 _ hmem) (k2 α H locs ls lv _ hp hR hV hL hl (kvS_mk hw0 hs) h1 h2)
  · cases h
theorem ok_aload {i : Nat} (C : kCx E XX σ zs p l e R s m args below meth c α0 cc nL nc0 ns0 res own ws) (hd : decode cc pc = .ok (.aload i, 2)) : kOK E p l e R s m args below meth c α0 nL nc0 ns0 res pc (kTo (pc + 2)) (oLoadA i) := by
  intro fs r h
  unfold oLoadA at h
  split at h
  · rename_i x hx
    cases h
    refine ⟨Nat.le_refl _, Nat.le_refl _, fun _ _ k2 => ?_⟩
    intro α H locs ls lv st hp hR hV hL hl hs h1 h2
    obtain ⟨w, hw, hmem⟩ := kget_spec hx hL
    have hw0 := hw
    obtain ⟨a, ha, rfl⟩ := kv_refI hw
    exact lv_aload C.1 C.2.1 hd (hl.2.2 _ hmem) (k2 α H locs ls lv _ hp hR hV hL hl (kvS_mk hw0 hs) h1 h2)
  · cases h
def oLoadN (i : Nat) : kOp := fun fs => match kget fs.1 i with
  | some .null => some (.inl (0, (fs.1, .null :: fs.2.1, fs.2.2)))
  | _ => none
theorem ok_aloadNn {k : Fin 4} {i : Nat} (C : kCx E XX σ zs p l e R s m args below meth c α0 cc nL nc0 ns0 res own ws) (hd : decode cc pc = .ok (.aload_n k, 1)) (hk : (k : Nat) = i) : kOK E p l e R s m args below meth c α0 nL nc0 ns0 res pc (kTo (pc + 1)) (oLoadN i) := by
  intro fs r h
  unfold oLoadN at h
  split at h
  · rename_i hx
    cases h
    refine ⟨Nat.le_refl _, Nat.le_refl _, fun _ _ k2 => ?_⟩
    intro α H locs ls lv st hp hR hV hL hl hs h1 h2
    obtain ⟨w, hw, hmem⟩ := kget_spec hx hL
    have hw0 := hw
    cases hw
    exact lv_aload_nN C.1 C.2.1 hd hk (hl.2.2 _ hmem) (k2 α H locs ls lv _ hp hR hV hL hl (kvS_mk hw0 hs) h1 h2)
  · cases h
theorem ok_aloadN {i : Nat} (C : kCx E XX σ zs p l e R s m args below meth c α0 cc nL nc0 ns0 res own ws) (hd : decode cc pc = .ok (.aload i, 2)) : kOK E p l e R s m args below meth c α0 nL nc0 ns0 res pc (kTo (pc + 2)) (oLoadN i) := by
  intro fs r h
  unfold oLoadN at h
  split at h
  · rename_i hx
    cases h
    refine ⟨Nat.le_refl _, Nat.le_refl _, fun _ _ k2 => ?_⟩
    intro α H locs ls lv st hp hR hV hL hl hs h1 h2
    obtain ⟨w, hw, hmem⟩ := kget_spec hx hL
    have hw0 := hw
    cases hw
    exact lv_aloadN C.1 C.2.1 hd (hl.2.2 _ hmem) (k2 α H locs ls lv _ hp hR hV hL hl (kvS_mk hw0 hs) h1 h2)
  · cases h
def oLoadR (i : Nat) : kOp := fun fs => match kget fs.1 i with
  | some (.ref x) => some (.inl (0, (fs.1, .ref x :: fs.2.1, fs.2.2)))
  | some .null => some (.inl (0, (fs.1, .null :: fs.2.1, fs.2.2)))
  | _ => none
theorem oLoadR_or {i : Nat} {fs : kFS} {r : (Nat × kFS) ⊕ kRes} (h : oLoadR i fs = some r) : oLoadA i fs = some r ∨ oLoadN i fs = some r := by
  unfold oLoadR at h
  split at h
  · rename_i x hx
    exact Or.inl (by unfold oLoadA; rw [hx]; exact h)
  · rename_i hx
    exact Or.inr (by unfold oLoadN; rw [hx]; exact h)
  · cases h
theorem ok_aloadRn {k : Fin 4} {i : Nat} (C : kCx E XX σ zs p l e R s m args below meth c α0 cc nL nc0 ns0 res own ws) (hd : decode cc pc = .ok (.aload_n k, 1)) (hk : (k : Nat) = i) : kOK E p l e R s m args below meth c α0 nL nc0 ns0 res pc (kTo (pc + 1)) (oLoadR i) := by
  intro fs r h
  rcases oLoadR_or h with h1 | h1
  · exact ok_aloadn C hd hk fs r h1
  · exact ok_aloadNn C hd hk fs r h1
theorem ok_aloadR {i : Nat} (C : kCx E XX σ zs p l e R s m args below meth c α0 cc nL nc0 ns0 res own ws) (hd : decode cc pc = .ok (.aload i, 2)) : kOK E p l e R s m args below meth c α0 nL nc0 ns0 res pc (kTo (pc + 2)) (oLoadR i) := by
  intro fs r h
  rcases oLoadR_or h with h1 | h1
  · exact ok_aload C hd fs r h1
  · exact ok_aloadN C hd fs r h1
def oStoreI (i : Nat) : kOp := fun fs => match fs.2.1 with
  | .int x :: S => some (.inl (0, ((i, .int x) :: fs.1.filter (kf1 i), S, fs.2.2)))
  | _ => none
theorem ok_istoren {k : Fin 4} {i : Nat} (C : kCx E XX σ zs p l e R s m args below meth c α0 cc nL nc0 ns0 res own ws) (hd : decode cc pc = .ok (.istore_n k, 1)) (hk : (k : Nat) = i) (hn : i < nL) : kOK E p l e R s m args below meth c α0 nL nc0 ns0 res pc (kTo (pc + 1)) (oStoreI i) := by
  intro fs r h
  obtain ⟨L, S, hsx⟩ := fs
  unfold oStoreI at h
  split at h
  · rename_i hS
    cases h
    simp only at hS
    subst hS
    refine ⟨Nat.le_refl _, Nat.le_refl _, fun _ _ k2 => ?_⟩
    intro α H locs ls lv st hp hR hV hL hl hs h1 h2
    obtain ⟨st, rfl, h3⟩ := kvS_int hs
    exact lv_istore_n C.1 C.2.1 hd hk hl hn rfl fun ls' hl' => k2 α H locs ls' _ _ hp hR hV (kvL_mk (rfl) (kvL_filter _ (kf1_cat i) hL)) hl' h3 h1 h2
  · cases h
theorem ok_istore {i : Nat} (C : kCx E XX σ zs p l e R s m args below meth c α0 cc nL nc0 ns0 res own ws) (hd : decode cc pc = .ok (.istore i, 2)) (hn : i < nL) : kOK E p l e R s m args below meth c α0 nL nc0 ns0 res pc (kTo (pc + 2)) (oStoreI i) := by
  intro fs r h
  obtain ⟨L, S, hsx⟩ := fs
  unfold oStoreI at h
  split at h
  · rename_i hS
    cases h
    simp only at hS
    subst hS
    refine ⟨Nat.le_refl _, Nat.le_refl _, fun _ _ k2 => ?_⟩
    intro α H locs ls lv st hp hR hV hL hl hs h1 h2
    obtain ⟨st, rfl, h3⟩ := kvS_int hs
    exact lv_istore C.1 C.2.1 hd hl hn rfl fun ls' hl' => k2 α H locs ls' _ _ hp hR hV (kvL_mk (rfl) (kvL_filter _ (kf1_cat i) hL)) hl' h3 h1 h2
  · cases h
def oStoreL (i : Nat) : kOp := fun fs => match fs.2.1 with
  | .long x :: S => some (.inl (0, ((i, .long x) :: fs.1.filter (kf2 i), S, fs.2.2)))
  | _ => none
theorem ok_lstoren {k : Fin 4} {i : Nat} (C : kCx E XX σ zs p l e R s m args below meth c α0 cc nL nc0 ns0 res own ws) (hd : decode cc pc = .ok (.lstore_n k, 1)) (hk : (k : Nat) = i) (hn : i + 1 < nL) : kOK E p l e R s m args below meth c α0 nL nc0 ns0 res pc (kTo (pc + 1)) (oStoreL i) := by
  intro fs r h
  obtain ⟨L, S, hsx⟩ := fs
  unfold oStoreL at h
  split at h
  · rename_i hS
    cases h
    simp only at hS
    subst hS
    refine ⟨Nat.le_refl _, Nat.le_refl _, fun _ _ k2 => ?_⟩
    intro α H locs ls lv st hp hR hV hL hl hs h1 h2
    obtain ⟨st, rfl, h3⟩ := kvS_long hs
    exact lv_lstore_n C.1 C.2.1 hd hk hl hn rfl fun ls' hl' => k2 α H locs ls' _ _ hp hR hV (kvL_mk (rfl) (kvL_filter _ (kf2_cat i) hL)) hl' h3 h1 h2
  · cases h
theorem ok_lstore {i : Nat} (C : kCx E XX σ zs p l e R s m args below meth c α0 cc nL nc0 ns0 res own ws) (hd : decode cc pc = .ok (.lstore i, 2)) (hn : i + 1 < nL) : kOK E p l e R s m args below meth c α0 nL nc0 ns0 res pc (kTo (pc + 2)) (oStoreL i) := by
  intro fs r h
  obtain ⟨L, S, hsx⟩ := fs
  unfold oStoreL at h
  split at h
  · rename_i hS
    cases h
    simp only at hS
    subst hS
    refine ⟨Nat.le_refl _, Nat.le_refl _, fun _ _ k2 => ?_⟩
    intro α H locs ls lv st hp hR hV hL hl hs h1 h2
    obtain ⟨st, rfl, h3⟩ := kvS_long hs
    exact lv_lstore C.1 C.2.1 hd hl hn rfl fun ls' hl' => k2 α H locs ls' _ _ hp hR hV (kvL_mk (rfl) (kvL_filter _ (kf2_cat i) hL)) hl' h3 h1 h2
  · cases h
def oStoreD (i : Nat) : kOp := fun fs => match fs.2.1 with
  | .double x :: S => some (.inl (0, ((i, .double x) :: fs.1.filter (kf2 i), S, fs.2.2)))
  | _ => none
theorem ok_dstoren {k : Fin 4} {i : Nat} (C : kCx E XX σ zs p l e R s m args below meth c α0 cc nL nc0 ns0 res own ws) (hd : decode cc pc = .ok (.dstore_n k, 1)) (hk : (k : Nat) = i) (hn : i + 1 < nL) : kOK E p l e R s m args below meth c α0 nL nc0 ns0 res pc (kTo (pc + 1)) (oStoreD i) := by
  intro fs r h
  obtain ⟨L, S, hsx⟩ := fs
  unfold oStoreD at h
  split at h
  · rename_i hS
    cases h
    simp only at hS
    subst hS
    refine ⟨Nat.le_refl _, Nat.le_refl _, fun _ _ k2 => ?_⟩
    intro α H locs ls lv st hp hR hV hL hl hs h1 h2
    obtain ⟨st, rfl, h3⟩ := kvS_double hs
    exact lv_dstore_n C.1 C.2.1 hd hk hl hn rfl fun ls' hl' => k2 α H locs ls' _ _ hp hR hV (kvL_mk (rfl) (kvL_filter _ (kf2_cat i) hL)) hl' h3 h1 h2
  · cases h
theorem ok_dstore {i : Nat} (C : kCx E XX σ zs p l e R s m args below meth c α0 cc nL nc0 ns0 res own ws) (hd : decode cc pc = .ok (.dstore i, 2)) (hn : i + 1 < nL) : kOK E p l e R s m args below meth c α0 nL nc0 ns0 res pc (kTo (pc + 2)) (oStoreD i) := by
  intro fs r h
  obtain ⟨L, S, hsx⟩ := fs
  unfold oStoreD at h
  split at h
  · rename_i hS
    cases h
    simp only at hS
    subst hS
    refine ⟨Nat.le_refl _, Nat.le_refl _, fun _ _ k2 => ?_⟩
    intro α H locs ls lv st hp hR hV hL hl hs h1 h2
    obtain ⟨st, rfl, h3⟩ := kvS_double hs
    exact lv_dstore C.1 C.2.1 hd hl hn rfl fun ls' hl' => k2 α H locs ls' _ _ hp hR hV (kvL_mk (rfl) (kvL_filter _ (kf2_cat i) hL)) hl' h3 h1 h2
  · cases h
def oStoreA (i : Nat) : kOp := fun fs => match fs.2.1 with
  | .ref x :: S => some (.inl (0, ((i, .ref x) :: fs.1.filter (kf1 i), S, fs.2.2)))
  | _ => none
theorem ok_astoren {k : Fin 4} {i : Nat} (C : kCx E XX σ zs p l e R s m args below meth c α0 cc nL nc0 ns0 res own ws) (hd : decode cc pc = .ok (.astore_n k, 1)) (hk : (k : Nat) = i) (hn : i < nL) : kOK E p l e R s m args below meth c α0 nL nc0 ns0 res pc (kTo (pc + 1)) (oStoreA i) := by
  intro fs r h
  obtain ⟨L, S, hsx⟩ := fs
  unfold oStoreA at h
  split at h
  · rename_i hS
    cases h
    simp only at hS
    subst hS
    refine ⟨Nat.le_refl _, Nat.le_refl _, fun _ _ k2 => ?_⟩
    intro α H locs ls lv st hp hR hV hL hl hs h1 h2
    obtain ⟨a, st, rfl, ha, h3⟩ := kvS_ref hs
    exact lv_astore_n C.1 C.2.1 hd hk hl hn rfl fun ls' hl' => k2 α H locs ls' _ _ hp hR hV (kvL_mk (kv_ref ha) (kvL_filter _ (kf1_cat i) hL)) hl' h3 h1 h2
  · cases h
theorem ok_astore {i : Nat} (C : kCx E XX σ zs p l e R s m args below meth c α0 cc nL nc0 ns0 res own ws) (hd : decode cc pc = .ok (.astore i, 2)) (hn : i < nL) : kOK E p l e R s m args below meth c α0 nL nc0 ns0 res pc (kTo (pc + 2)) (oStoreA i) := by
  intro fs r h
  obtain ⟨L, S, hsx⟩ := fs
  unfold oStoreA at h
  split at h
  · rename_i hS
    cases h
    simp only at hS
    subst hS
    refine ⟨Nat.le_refl _, Nat.le_refl _, fun _ _ k2 => ?_⟩
    intro α H locs ls lv st hp hR hV hL hl hs h1 h2
    obtain ⟨a, st, rfl, ha, h3⟩ := kvS_ref hs
    exact lv_astore C.1 C.2.1 hd hl hn rfl fun ls' hl' => k2 α H locs ls' _ _ hp hR hV (kvL_mk (kv_ref ha) (kvL_filter _ (kf1_cat i) hL)) hl' h3 h1 h2
  · cases h
def oStoreN (i : Nat) : kOp := fun fs => match fs.2.1 with
  | .null :: S => some (.inl (0, ((i, .null) :: fs.1.filter (kf1 i), S, fs.2.2)))
  | _ => none
theorem ok_astoreNn {k : Fin 4} {i : Nat} (C : kCx E XX σ zs p l e R s m args below meth c α0 cc nL nc0 ns0 res own ws) (hd : decode cc pc = .ok (.astore_n k, 1)) (hk : (k : Nat) = i) (hn : i < nL) : kOK E p l e R s m args below meth c α0 nL nc0 ns0 res pc (kTo (pc + 1)) (oStoreN i) := by
  intro fs r h
  obtain ⟨L, S, hsx⟩ := fs
  unfold oStoreN at h
  split at h
  · rename_i hS
    cases h
    simp only at hS
    subst hS
    refine ⟨Nat.le_refl _, Nat.le_refl _, fun _ _ k2 => ?_⟩
    intro α H locs ls lv st hp hR hV hL hl hs h1 h2
    obtain ⟨st, rfl, h3⟩ := kvS_null hs
    exact lv_astore_nN C.1 C.2.1 hd hk hl hn rfl fun ls' hl' => k2 α H locs ls' _ _ hp hR hV (kvL_mk (rfl) (kvL_filter _ (kf1_cat i) hL)) hl' h3 h1 h2
  · cases h
theorem ok_astoreN {i : Nat} (C : kCx E XX σ zs p l e R s m args below meth c α0 cc nL nc0 ns0 res own ws) (hd : decode cc pc = .ok (.astore i, 2)) (hn : i < nL) : kOK E p l e R s m args below meth c α0 nL nc0 ns0 res pc (kTo (pc + 2)) (oStoreN i) := by
  intro fs r h
  obtain ⟨L, S, hsx⟩ := fs
  unfold oStoreN at h
  split at h
  · rename_i hS
    cases h
    simp only at hS
    subst hS
    refine ⟨Nat.le_refl _, Nat.le_refl _, fun _ _ k2 => ?_⟩
    intro α H locs ls lv st hp hR hV hL hl hs h1 h2
    obtain ⟨st, rfl, h3⟩ := kvS_null hs
    exact lv_astoreN C.1 C.2.1 hd hl hn rfl fun ls' hl' => k2 α H locs ls' _ _ hp hR hV (kvL_mk (rfl) (kvL_filter _ (kf1_cat i) hL)) hl' h3 h1 h2
  · cases h
def oStoreR (i : Nat) : kOp := fun fs => match fs.2.1 with
  | .ref x :: S => some (.inl (0, ((i, .ref x) :: fs.1.filter (kf1 i), S, fs.2.2)))
  | .null :: S => some (.inl (0, ((i, .null) :: fs.1.filter (kf1 i), S, fs.2.2)))
  | _ => none
theorem oStoreR_or {i : Nat} {fs : kFS} {r : (Nat × kFS) ⊕ kRes} (h : oStoreR i fs = some r) : oStoreA i fs = some r ∨ oStoreN i fs = some r := by
  unfold oStoreR at h
  split at h
  · rename_i hx
    exact Or.inl (by unfold oStoreA; rw [hx]; exact h)
  · rename_i hx
    exact Or.inr (by unfold oStoreN; rw [hx]; exact h)
  · cases h
theorem ok_astoreRn {k : Fin 4} {i : Nat} (C : kCx E XX σ zs p l e R s m args below meth c α0 cc nL nc0 ns0 res own ws) (hd : decode cc pc = .ok (.astore_n k, 1)) (hk : (k : Nat) = i) (hn : i < nL) : kOK E p l e R s m args below meth c α0 nL nc0 ns0 res pc (kTo (pc + 1)) (oStoreR i) := by
  intro fs r h
  rcases oStoreR_or h with h1 | h1
  · exact ok_astoren C hd hk hn fs r h1
  · exact ok_astoreNn C hd hk hn fs r h1
theorem ok_astoreR {i : Nat} (C : kCx E XX σ zs p l e R s m args below meth c α0 cc nL nc0 ns0 res own ws) (hd : decode cc pc = .ok (.astore i, 2)) (hn : i < nL) : kOK E p l e R s m args below meth c α0 nL nc0 ns0 res pc (kTo (pc + 2)) (oStoreR i) := by
  intro fs r h
  rcases oStoreR_or h with h1 | h1
  · exact ok_astore C hd hn fs r h1
  · exact ok_astoreN C hd hn fs r h1
def oIinc (i : Nat) (d : Int32) : kOp := fun fs => match kget fs.1 i with
  | some (.int x) => some (.inl (0, ((i, .int (x + d)) :: fs.1.filter (kf1 i), fs.2.1, fs.2.2)))
  | _ => none
theorem ok_iinc {i : Nat} {n : Int} {d : Int32} (C : kCx E XX σ zs p l e R s m args below meth c α0 cc nL nc0 ns0 res own ws) (hd : decode cc pc = .ok (.iinc i n, 3)) (hdn : Int32.ofInt n = d) (hn : i < nL) : kOK E p l e R s m args below meth c α0 nL nc0 ns0 res pc (kTo (pc + 3)) (oIinc i d) := by
  intro fs r h
  unfold oIinc at h
  split at h
  · rename_i x hx
    cases h
    refine ⟨Nat.le_refl _, Nat.le_refl _, fun _ _ k2 => ?_⟩
    intro α H locs ls lv st hp hR hV hL hl hs h1 h2
    obtain ⟨w, hw, hmem⟩ := kget_spec hx hL
    cases hw
    obtain ⟨k, hk⟩ := List.getElem?_of_mem hmem
    exact lv_iinc C.1 C.2.1 hd hl hk (by rw [hdn]) hn rfl fun ls' hl' => k2 α H locs ls' _ _ hp hR hV (kvL_mk rfl (kvL_filter _ (kf1_cat i) hL)) hl' hs h1 h2
  · cases h
/-- the end of a block: a test of the top int -/
def tIf (f : Int32 → Bool) (b1 b2 : Nat) : kOp := fun fs => match fs.2.1 with
  | .int x :: S => some (.inl (bif f x then b1 else b2, (fs.1, S, fs.2.2)))
  | _ => none
def tCmp (f : Int32 → Int32 → Bool) (b1 b2 : Nat) : kOp := fun fs => match fs.2.1 with
  | .int y :: .int x :: S => some (.inl (bif f x y then b1 else b2, (fs.1, S, fs.2.2)))
  | _ => none
theorem ok_if_eq {off : Int} {tgt b1 b2 : Nat} {pcs : Nat → Nat} (C : kCx E XX σ zs p l e R s m args below meth c α0 cc nL nc0 ns0 res own ws) (hd : decode cc pc = .ok (.ifCond .eq off, 3)) (ht : (pc : Int) + off = (tgt : Int)) (hb1 : pcs b1 = tgt) (hb2 : pcs b2 = pc + 3) : kOK E p l e R s m args below meth c α0 nL nc0 ns0 res pc pcs (tIf (fun x => decide (x = 0)) b1 b2) := by
  intro fs r h
  obtain ⟨L, S, hsx⟩ := fs
  unfold tIf at h
  split at h
  · rename_i hS
    cases h
    simp only at hS
    subst hS
    refine ⟨Nat.le_refl _, Nat.le_refl _, fun _ _ k2 => ?_⟩
    intro α H locs ls lv st hp hR hV hL hl hs h1 h2
    obtain ⟨st, rfl, hg⟩ := kvS_int hs
    refine lv_if_eq C.1 C.2.1 hd ht (fun hc => ?_) (fun hc => ?_)
    · have k3 := k2 α H locs ls lv st hp hR hV hL hl hg h1 h2
      simp only [hc, decide_true, decide_false, cond_true, cond_false, Bool.not_true, Bool.not_false, not_true, not_false_eq_true, hb1] at k3
      exact k3
    · have k3 := k2 α H locs ls lv st hp hR hV hL hl hg h1 h2
      simp only [hc, decide_true, decide_false, cond_true, cond_false, Bool.not_true, Bool.not_false, not_true, not_false_eq_true, hb2] at k3
      exact k3
  · cases h
theorem ok_icmp_eq {off : Int} {tgt b1 b2 : Nat} {pcs : Nat → Nat} (C : kCx E XX σ zs p l e R s m args below meth c α0 cc nL nc0 ns0 res own ws) (hd : decode cc pc = .ok (.if_icmp .eq off, 3)) (ht : (pc : Int) + off = (tgt : Int)) (hb1 : pcs b1 = tgt) (hb2 : pcs b2 = pc + 3) : kOK E p l e R s m args below meth c α0 nL nc0 ns0 res pc pcs (tCmp (fun x y => decide (x = y)) b1 b2) := by
  intro fs r h
  obtain ⟨L, S, hsx⟩ := fs
  unfold tCmp at h
  split at h
  · rename_i hS
    cases h
    simp only at hS
    subst hS
    refine ⟨Nat.le_refl _, Nat.le_refl _, fun _ _ k2 => ?_⟩
    intro α H locs ls lv st hp hR hV hL hl hs h1 h2
    obtain ⟨st1, rfl, hg1⟩ := kvS_int hs
    obtain ⟨st, rfl, hg⟩ := kvS_int hg1
    refine lv_icmp_eq C.1 C.2.1 hd ht (fun hc => ?_) (fun hc => ?_)
    · have k3 := k2 α H locs ls lv st hp hR hV hL hl hg h1 h2
      simp only [hc, decide_true, decide_false, cond_true, cond_false, Bool.not_true, Bool.not_false, not_true, not_false_eq_true, hb1] at k3
      exact k3
    · have k3 := k2 α H locs ls lv st hp hR hV hL hl hg h1 h2
      simp only [hc, decide_true, decide_false, cond_true, cond_false, Bool.not_true, Bool.not_false, not_true, not_false_eq_true, hb2] at k3
      exact k3
  · cases h
theorem ok_if_ne {off : Int} {tgt b1 b2 : Nat} {pcs : Nat → Nat} (C : kCx E XX σ zs p l e R s m args below meth c α0 cc nL nc0 ns0 res own ws) (hd : decode cc pc = .ok (.ifCond .ne off, 3)) (ht : (pc : Int) + off = (tgt : Int)) (hb1 : pcs b1 = tgt) (hb2 : pcs b2 = pc + 3) : kOK E p l e R s m args below meth c α0 nL nc0 ns0 res pc pcs (tIf (fun x => !decide (x = 0)) b1 b2) := by
  intro fs r h
  obtain ⟨L, S, hsx⟩ := fs
  unfold tIf at h
  split at h
  · rename_i hS
    cases h
    simp only at hS
    subst hS
    refine ⟨Nat.le_refl _, Nat.le_refl _, fun _ _ k2 => ?_⟩
    intro α H locs ls lv st hp hR hV hL hl hs h1 h2
    obtain ⟨st, rfl, hg⟩ := kvS_int hs
    refine lv_if_ne C.1 C.2.1 hd ht (fun hc => ?_) (fun hc => ?_)
    · have k3 := k2 α H locs ls lv st hp hR hV hL hl hg h1 h2
      simp only [hc, decide_true, decide_false, cond_true, cond_false, Bool.not_true, Bool.not_false, not_true, not_false_eq_true, hb1] at k3
      exact k3
    · have k3 := k2 α H locs ls lv st hp hR hV hL hl hg h1 h2
      simp only [hc, decide_true, decide_false, cond_true, cond_false, Bool.not_true, Bool.not_false, not_true, not_false_eq_true, hb2] at k3
      exact k3
  · cases h
theorem ok_icmp_ne {off : Int} {tgt b1 b2 : Nat} {pcs : Nat → Nat} (C : kCx E XX σ zs p l e R s m args below meth c α0 cc nL nc0 ns0 res own ws) (hd : decode cc pc = .ok (.if_icmp .ne off, 3)) (ht : (pc : Int) + off = (tgt : Int)) (hb1 : pcs b1 = tgt) (hb2 : pcs b2 = pc + 3) : kOK E p l e R s m args below meth c α0 nL nc0 ns0 res pc pcs (tCmp (fun x y => !decide (x = y)) b1 b2) := by
  intro fs r h
  obtain ⟨L, S, hsx⟩ := fs
  unfold tCmp at h
  split at h
  · rename_i hS
    cases h
    simp only at hS
    subst hS
    refine ⟨Nat.le_refl _, Nat.le_refl _, fun _ _ k2 => ?_⟩
    intro α H locs ls lv st hp hR hV hL hl hs h1 h2
    obtain ⟨st1, rfl, hg1⟩ := kvS_int hs
    obtain ⟨st, rfl, hg⟩ := kvS_int hg1
    refine lv_icmp_ne C.1 C.2.1 hd ht (fun hc => ?_) (fun hc => ?_)
    · have k3 := k2 α H locs ls lv st hp hR hV hL hl hg h1 h2
      simp only [hc, decide_true, decide_false, cond_true, cond_false, Bool.not_true, Bool.not_false, not_true, not_false_eq_true, hb1] at k3
      exact k3
    · have k3 := k2 α H locs ls lv st hp hR hV hL hl hg h1 h2
      simp only [hc, decide_true, decide_false, cond_true, cond_false, Bool.not_true, Bool.not_false, not_true, not_false_eq_true, hb2] at k3
      exact k3
  · cases h
theorem ok_if_lt {off : Int} {tgt b1 b2 : Nat} {pcs : Nat → Nat} (C : kCx E XX σ zs p l e R s m args below meth c α0 cc nL nc0 ns0 res own ws) (hd : decode cc pc = .ok (.ifCond .lt off, 3)) (ht : (pc : Int) + off = (tgt : Int)) (hb1 : pcs b1 = tgt) (hb2 : pcs b2 = pc + 3) : kOK E p l e R s m args below meth c α0 nL nc0 ns0 res pc pcs (tIf (fun x => decide (x < 0)) b1 b2) := by
  intro fs r h
  obtain ⟨L, S, hsx⟩ := fs
  unfold tIf at h
  split at h
  · rename_i hS
    cases h
    simp only at hS
    subst hS
    refine ⟨Nat.le_refl _, Nat.le_refl _, fun _ _ k2 => ?_⟩
    intro α H locs ls lv st hp hR hV hL hl hs h1 h2
    obtain ⟨st, rfl, hg⟩ := kvS_int hs
    refine lv_if_lt C.1 C.2.1 hd ht (fun hc => ?_) (fun hc => ?_)
    · have k3 := k2 α H locs ls lv st hp hR hV hL hl hg h1 h2
      simp only [hc, decide_true, decide_false, cond_true, cond_false, Bool.not_true, Bool.not_false, not_true, not_false_eq_true, hb1] at k3
      exact k3
    · have k3 := k2 α H locs ls lv st hp hR hV hL hl hg h1 h2
      simp only [hc, decide_true, decide_false, cond_true, cond_false, Bool.not_true, Bool.not_false, not_true, not_false_eq_true, hb2] at k3
      exact k3
  · cases h
theorem ok_icmp_lt {off : Int} {tgt b1 b2 : Nat} {pcs : Nat → Nat} (C : kCx E XX σ zs p l e R s m args below meth c α0 cc nL nc0 ns0 res own ws) (hd : decode cc pc = .ok (.if_icmp .lt off, 3)) (ht : (pc : Int) + off = (tgt : Int)) (hb1 : pcs b1 = tgt) (hb2 : pcs b2 = pc + 3) : kOK E p l e R s m args below meth c α0 nL nc0 ns0 res pc pcs (tCmp (fun x y => decide (x < y)) b1 b2) := by
  intro fs r h
  obtain ⟨L, S, hsx⟩ := fs
  unfold tCmp at h
  split at h
  · rename_i hS
    cases h
    simp only at hS
    subst hS
    refine ⟨Nat.le_refl _, Nat.le_refl _, fun _ _ k2 => ?_⟩
    intro α H locs ls lv st hp hR hV hL hl hs h1 h2
    obtain ⟨st1, rfl, hg1⟩ := kvS_int hs
    obtain ⟨st, rfl, hg⟩ := kvS_int hg1
    refine lv_icmp_lt C.1 C.2.1 hd ht (fun hc => ?_) (fun hc => ?_)
    · have k3 := k2 α H locs ls lv st hp hR hV hL hl hg h1 h2
      simp only [hc, decide_true, decide_false, cond_true, cond_false, Bool.not_true, Bool.not_false, not_true, not_false_eq_true, hb1] at k3
      exact k3
    · have k3 := k2 α H locs ls lv st hp hR hV hL hl hg h1 h2
      simp only [hc, decide_true, decide_false, cond_true, cond_false, Bool.not_true, Bool.not_false, not_true, not_false_eq_true, hb2] at k3
      exact k3
  · cases h
theorem ok_if_ge {off : Int} {tgt b1 b2 : Nat} {pcs : Nat → Nat} (C : kCx E XX σ zs p l e R s m args below meth c α0 cc nL nc0 ns0 res own ws) (hd : decode cc pc = .ok (.ifCond .ge off, 3)) (ht : (pc : Int) + off = (tgt : Int)) (hb1 : pcs b1 = tgt) (hb2 : pcs b2 = pc + 3) : kOK E p l e R s m args below meth c α0 nL nc0 ns0 res pc pcs (tIf (fun x => decide (0 ≤ x)) b1 b2) := by
  intro fs r h
  obtain ⟨L, S, hsx⟩ := fs
  unfold tIf at h
  split at h
  · rename_i hS
    cases h
    simp only at hS
    subst hS
    refine ⟨Nat.le_refl _, Nat.le_refl _, fun _ _ k2 => ?_⟩
    intro α H locs ls lv st hp hR hV hL hl hs h1 h2
    obtain ⟨st, rfl, hg⟩ := kvS_int hs
    refine lv_if_ge C.1 C.2.1 hd ht (fun hc => ?_) (fun hc => ?_)
    · have k3 := k2 α H locs ls lv st hp hR hV hL hl hg h1 h2
      simp only [hc, decide_true, decide_false, cond_true, cond_false, Bool.not_true, Bool.not_false, not_true, not_false_eq_true, hb1] at k3
      exact k3
    · have k3 := k2 α H locs ls lv st hp hR hV hL hl hg h1 h2
      simp only [hc, decide_true, decide_false, cond_true, cond_false, Bool.not_true, Bool.not_false, not_true, not_false_eq_true, hb2] at k3
      exact k3
  · cases h
theorem ok_icmp_ge {off : Int} {tgt b1 b2 : Nat} {pcs : Nat → Nat} (C : kCx E XX σ zs p l e R s m args below meth c α0 cc nL nc0 ns0 res own ws) (hd : decode cc pc = .ok (.if_icmp .ge off, 3)) (ht : (pc : Int) + off = (tgt : Int)) (hb1 : pcs b1 = tgt) (hb2 : pcs b2 = pc + 3) : kOK E p l e R s m args below meth c α0 nL nc0 ns0 res pc pcs (tCmp (fun x y => decide (y ≤ x)) b1 b2) := by
  intro fs r h
  obtain ⟨L, S, hsx⟩ := fs
  unfold tCmp at h
  split at h
  · rename_i hS
    cases h
    simp only at hS
    subst hS
    refine ⟨Nat.le_refl _, Nat.le_refl _, fun _ _ k2 => ?_⟩
    intro α H locs ls lv st hp hR hV hL hl hs h1 h2
    obtain ⟨st1, rfl, hg1⟩ := kvS_int hs
    obtain ⟨st, rfl, hg⟩ := kvS_int hg1
    refine lv_icmp_ge C.1 C.2.1 hd ht (fun hc => ?_) (fun hc => ?_)
    · have k3 := k2 α H locs ls lv st hp hR hV hL hl hg h1 h2
      simp only [hc, decide_true, decide_false, cond_true, cond_false, Bool.not_true, Bool.not_false, not_true, not_false_eq_true, hb1] at k3
      exact k3
    · have k3 := k2 α H locs ls lv st hp hR hV hL hl hg h1 h2
      simp only [hc, decide_true, decide_false, cond_true, cond_false, Bool.not_true, Bool.not_false, not_true, not_false_eq_true, hb2] at k3
      exact k3
  · cases h
theorem ok_if_gt {off : Int} {tgt b1 b2 : Nat} {pcs : Nat → Nat} (C : kCx E XX σ zs p l e R s m args below meth c α0 cc nL nc0 ns0 res own ws) (hd : decode cc pc = .ok (.ifCond .gt off, 3)) (ht : (pc : Int) + off = (tgt : Int)) (hb1 : pcs b1 = tgt) (hb2 : pcs b2 = pc + 3) : kOK E p l e R s m args below meth c α0 nL nc0 ns0 res pc pcs (tIf (fun x => decide (0 < x)) b1 b2) := by
  intro fs r h
  obtain ⟨L, S, hsx⟩ := fs
  unfold tIf at h
  split at h
  · rename_i hS
    cases h
    simp only at hS
    subst hS
    refine ⟨Nat.le_refl _, Nat.le_refl _, fun _ _ k2 => ?_⟩
    intro α H locs ls lv st hp hR hV hL hl hs h1 h2
    obtain ⟨st, rfl, hg⟩ := kvS_int hs
    refine lv_if_gt C.1 C.2.1 hd ht (fun hc => ?_) (fun hc => ?_)
    · have k3 := k2 α H locs ls lv st hp hR hV hL hl hg h1 h2
      simp only [hc, decide_true, decide_false, cond_true, cond_false, Bool.not_true, Bool.not_false, not_true, not_false_eq_true, hb1] at k3
      exact k3
    · have k3 := k2 α H locs ls lv st hp hR hV hL hl hg h1 h2
      simp only [hc, decide_true, decide_false, cond_true, cond_false, Bool.not_true, Bool.not_false, not_true, not_false_eq_true, hb2] at k3
      exact k3
  · cases h
theorem ok_icmp_gt {off : Int} {tgt b1 b2 : Nat} {pcs : Nat → Nat} (C : kCx E XX σ zs p l e R s m args below meth c α0 cc nL nc0 ns0 res own ws) (hd : decode cc pc = .ok (.if_icmp .gt off, 3)) (ht : (pc : Int) + off = (tgt : Int)) (hb1 : pcs b1 = tgt) (hb2 : pcs b2 = pc + 3) : kOK E p l e R s m args below meth c α0 nL nc0 ns0 res pc pcs (tCmp (fun x y => decide (y < x)) b1 b2) := by
  intro fs r h
  obtain ⟨L, S, hsx⟩ := fs
  unfold tCmp at h
  split at h
  · rename_i hS
    cases h
    simp only at hS
    subst hS
    refine ⟨Nat.le_refl _, Nat.le_refl _, fun _ _ k2 => ?_⟩
    intro α H locs ls lv st hp hR hV hL hl hs h1 h2
    obtain ⟨st1, rfl, hg1⟩ := kvS_int hs
    obtain ⟨st, rfl, hg⟩ := kvS_int hg1
    refine lv_icmp_gt C.1 C.2.1 hd ht (fun hc => ?_) (fun hc => ?_)
    · have k3 := k2 α H locs ls lv st hp hR hV hL hl hg h1 h2
      simp only [hc, decide_true, decide_false, cond_true, cond_false, Bool.not_true, Bool.not_false, not_true, not_false_eq_true, hb1] at k3
      exact k3
    · have k3 := k2 α H locs ls lv st hp hR hV hL hl hg h1 h2
      simp only [hc, decide_true, decide_false, cond_true, cond_false, Bool.not_true, Bool.not_false, not_true, not_false_eq_true, hb2] at k3
      exact k3
  · cases h
theorem ok_if_le {off : Int} {tgt b1 b2 : Nat} {pcs : Nat → Nat} (C : kCx E XX σ zs p l e R s m args below meth c α0 cc nL nc0 ns0 res own ws) (hd : decode cc pc = .ok (.ifCond .le off, 3)) (ht : (pc : Int) + off = (tgt : Int)) (hb1 : pcs b1 = tgt) (hb2 : pcs b2 = pc + 3) : kOK E p l e R s m args below meth c α0 nL nc0 ns0 res pc pcs (tIf (fun x => decide (x ≤ 0)) b1 b2) := by
  intro fs r h
  obtain ⟨L, S, hsx⟩ := fs
  unfold tIf at h
  split at h
  · rename_i hS
    cases h
    simp only at hS
    subst hS
    refine ⟨Nat.le_refl _, Nat.le_refl _, fun _ _ k2 => ?_⟩
    intro α H locs ls lv st hp hR hV hL hl hs h1 h2
    obtain ⟨st, rfl, hg⟩ := kvS_int hs
    refine lv_if_le C.1 C.2.1 hd ht (fun hc => ?_) (fun hc => ?_)
    · have k3 := k2 α H locs ls lv st hp hR hV hL hl hg h1 h2
      simp only [hc, decide_true, decide_false, cond_true, cond_false, Bool.not_true, Bool.not_false, not_true, not_false_eq_true, hb1] at k3
      exact k3
    · have k3 := k2 α H locs ls lv st hp hR hV hL hl hg h1 h2
      simp only [hc, decide_true, decide_false, cond_true, cond_false, Bool.not_true, Bool.not_false, not_true, not_false_eq_true, hb2] at k3
      exact k3
  · cases h
theorem ok_icmp_le {off : Int} {tgt b1 b2 : Nat} {pcs : Nat → Nat} (C : kCx E XX σ zs p l e R s m args below meth c α0 cc nL nc0 ns0 res own ws) (hd : decode cc pc = .ok (.if_icmp .le off, 3)) (ht : (pc : Int) + off = (tgt : Int)) (hb1 : pcs b1 = tgt) (hb2 : pcs b2 = pc + 3) : kOK E p l e R s m args below meth c α0 nL nc0 ns0 res pc pcs (tCmp (fun x y => decide (x ≤ y)) b1 b2) := by
  intro fs r h
  obtain ⟨L, S, hsx⟩ := fs
  unfold tCmp at h
  split at h
  · rename_i hS
    cases h
    simp only at hS
    subst hS
    refine ⟨Nat.le_refl _, Nat.le_refl _, fun _ _ k2 => ?_⟩
    intro α H locs ls lv st hp hR hV hL hl hs h1 h2
    obtain ⟨st1, rfl, hg1⟩ := kvS_int hs
    obtain ⟨st, rfl, hg⟩ := kvS_int hg1
    refine lv_icmp_le C.1 C.2.1 hd ht (fun hc => ?_) (fun hc => ?_)
    · have k3 := k2 α H locs ls lv st hp hR hV hL hl hg h1 h2
      simp only [hc, decide_true, decide_false, cond_true, cond_false, Bool.not_true, Bool.not_false, not_true, not_false_eq_true, hb1] at k3
      exact k3
    · have k3 := k2 α H locs ls lv st hp hR hV hL hl hg h1 h2
      simp only [hc, decide_true, decide_false, cond_true, cond_false, Bool.not_true, Bool.not_false, not_true, not_false_eq_true, hb2] at k3
      exact k3
  · cases h
def tGo (b : Nat) : kOp := fun fs => some (.inl (b, fs))
theorem ok_goto {off : Int} {tgt b : Nat} {pcs : Nat → Nat} (C : kCx E XX σ zs p l e R s m args below meth c α0 cc nL nc0 ns0 res own ws) (hd : decode cc pc = .ok (.goto off, 3)) (ht : (pc : Int) + off = (tgt : Int)) (hb : pcs b = tgt) : kOK E p l e R s m args below meth c α0 nL nc0 ns0 res pc pcs (tGo b) := by
  intro fs r h
  cases h
  refine ⟨Nat.le_refl _, Nat.le_refl _, fun _ _ k2 => ?_⟩
  intro α H locs ls lv st hp hR hV hL hl hs h1 h2
  have k3 := k2 α H locs ls lv st hp hR hV hL hl hs h1 h2
  simp only [hb] at k3
  exact lv_goto C.1 C.2.1 hd ht k3
/-- the block ends where the next begins -/
theorem ok_fall {b : Nat} {pcs : Nat → Nat} (hb : pcs b = pc) : kOK E p l e R s m args below meth c α0 nL nc0 ns0 res pc pcs (tGo b) := by
  intro fs r h
  cases h
  refine ⟨Nat.le_refl _, Nat.le_refl _, fun _ _ k2 => ?_⟩
  intro α H locs ls lv st hp hR hV hL hl hs h1 h2
  have k3 := k2 α H locs ls lv st hp hR hV hL hl hs h1 h2
  simp only [hb] at k3
  exact k3
def tNull (b1 b2 : Nat) : kOp := fun fs => match fs.2.1 with
  | .null :: S => some (.inl (b1, (fs.1, S, fs.2.2)))
  | .ref _ :: S => some (.inl (b2, (fs.1, S, fs.2.2)))
  | _ => none
theorem ok_ifnull {off : Int} {tgt b1 b2 : Nat} {pcs : Nat → Nat} (C : kCx E XX σ zs p l e R s m args below meth c α0 cc nL nc0 ns0 res own ws) (hd : decode cc pc = .ok (.ifnull off, 3)) (ht : (pc : Int) + off = (tgt : Int)) (hb1 : pcs b1 = tgt) (hb2 : pcs b2 = pc + 3) : kOK E p l e R s m args below meth c α0 nL nc0 ns0 res pc pcs (tNull b1 b2) := by
  intro fs r h
  obtain ⟨L, S, hsx⟩ := fs
  unfold tNull at h
  split at h
  · rename_i hS
    cases h
    simp only at hS
    subst hS
    refine ⟨Nat.le_refl _, Nat.le_refl _, fun _ _ k2 => ?_⟩
    intro α H locs ls lv st hp hR hV hL hl hs h1 h2
    obtain ⟨st, rfl, hg⟩ := kvS_null hs
    have k3 := k2 α H locs ls lv st hp hR hV hL hl hg h1 h2
    simp only [hb1] at k3
    exact lv_ifnullN C.1 C.2.1 hd ht k3
  · rename_i hS
    cases h
    simp only at hS
    subst hS
    refine ⟨Nat.le_refl _, Nat.le_refl _, fun _ _ k2 => ?_⟩
    intro α H locs ls lv st hp hR hV hL hl hs h1 h2
    obtain ⟨a, st, rfl, ha, hg⟩ := kvS_ref hs
    have k3 := k2 α H locs ls lv st hp hR hV hL hl hg h1 h2
    simp only [hb2] at k3
    exact lv_ifnull C.1 C.2.1 hd k3
  · cases h
theorem ok_ifnonnull {off : Int} {tgt b1 b2 : Nat} {pcs : Nat → Nat} (C : kCx E XX σ zs p l e R s m args below meth c α0 cc nL nc0 ns0 res own ws) (hd : decode cc pc = .ok (.ifnonnull off, 3)) (ht : (pc : Int) + off = (tgt : Int)) (hb1 : pcs b1 = tgt) (hb2 : pcs b2 = pc + 3) : kOK E p l e R s m args below meth c α0 nL nc0 ns0 res pc pcs (tNull b2 b1) := by
  intro fs r h
  obtain ⟨L, S, hsx⟩ := fs
  unfold tNull at h
  split at h
  · rename_i hS
    cases h
    simp only at hS
    subst hS
    refine ⟨Nat.le_refl _, Nat.le_refl _, fun _ _ k2 => ?_⟩
    intro α H locs ls lv st hp hR hV hL hl hs h1 h2
    obtain ⟨st, rfl, hg⟩ := kvS_null hs
    have k3 := k2 α H locs ls lv st hp hR hV hL hl hg h1 h2
    simp only [hb2] at k3
    exact lv_ifnonnullN C.1 C.2.1 hd k3
  · rename_i hS
    cases h
    simp only at hS
    subst hS
    refine ⟨Nat.le_refl _, Nat.le_refl _, fun _ _ k2 => ?_⟩
    intro α H locs ls lv st hp hR hV hL hl hs h1 h2
    obtain ⟨a, st, rfl, ha, hg⟩ := kvS_ref hs
    have k3 := k2 α H locs ls lv st hp hR hV hL hl hg h1 h2
    simp only [hb1] at k3
    exact lv_ifnonnull C.1 C.2.1 hd ht k3
  · cases h
/-- a switch by a table -/
def tTab (lo : Int) (bs : List Nat) (bd : Nat) : kOp := fun fs => match fs.2.1 with
  | .int x :: S => some (.inl (bif decide (x.toInt < lo) then bd else (bs[(x.toInt - lo).toNat]?).getD bd, (fs.1, S, fs.2.2)))
  | _ => none
theorem ok_table {dflt lo hi : Int} {offs : Array Int} {len : Nat} {bs : List Nat} {bd td : Nat} {pcs : Nat → Nat} (C : kCx E XX σ zs p l e R s m args below meth c α0 cc nL nc0 ns0 res own ws) (hd : decode cc pc = .ok (.tableswitch dflt lo hi offs, len)) (hhi : hi = lo + bs.length - 1) (ho : offs.toList.map (fun o => (pc : Int) + o) = bs.map (fun b => ((pcs b : Nat) : Int))) (hdf : (pc : Int) + dflt = (td : Int)) (hbd : pcs bd = td) : kOK E p l e R s m args below meth c α0 nL nc0 ns0 res pc pcs (tTab lo bs bd) := by
  intro fs r h
  obtain ⟨L, S, hsx⟩ := fs
  unfold tTab at h
  split at h
  · rename_i x r hS
    cases h
    simp only at hS
    subst hS
    refine ⟨Nat.le_refl _, Nat.le_refl _, fun _ _ k2 => ?_⟩
    intro α H locs ls lv st hp hR hV hL hl hs h1 h2
    obtain ⟨st, rfl, hg⟩ := kvS_int hs
    have k3 := k2 α H locs ls lv st hp hR hV hL hl hg h1 h2
    by_cases c1 : x.toInt < lo
    · simp only [c1, decide_true, cond_true, hbd] at k3
      exact lv_tableOut C.1 C.2.1 hd (Or.inl c1) hdf k3
    · simp only [c1, decide_false, cond_false] at k3
      by_cases c2 : hi < x.toInt
      · have hn : bs[(x.toInt - lo).toNat]? = none := by
          rw [List.getElem?_eq_none_iff]; omega
        rw [hn] at k3
        simp only [Option.getD_none, hbd] at k3
        exact lv_tableOut C.1 C.2.1 hd (Or.inr c2) hdf k3
      · have hlt : (x.toInt - lo).toNat < bs.length := by omega
        have hlen : offs.toList.length = bs.length := by
          have := congrArg List.length ho
          simpa using this
        have hlt2 : (x.toInt - lo).toNat < offs.toList.length := by omega
        have e1 : bs[(x.toInt - lo).toNat]? = some (bs[(x.toInt - lo).toNat]'hlt) := List.getElem?_eq_getElem hlt
        have e2 : offs[(x.toInt - lo).toNat]? = some (offs.toList[(x.toInt - lo).toNat]'hlt2) := by
          rw [← Array.getElem?_toList]; exact List.getElem?_eq_getElem hlt2
        have e3 := congrArg (fun l => l[(x.toInt - lo).toNat]?) ho
        simp only [List.getElem?_map, e1, List.getElem?_eq_getElem hlt2, Option.map_some, Option.some.injEq] at e3
        rw [e1] at k3
        simp only [Option.getD_some] at k3
        exact lv_tableIn C.1 C.2.1 hd c1 c2 e2 e3 k3
  · cases h
theorem k_end {α : List Nat} {vo wo : Option Value} {h : List kCel} {H : Heap} {locs : List Loc} (hp : α0 <+: α) (hR : kRep E s α h H) (hV : va_S (fun q => kb E ≤ q) s.heap H locs) (hv : kvO α vo = some wo) {ce sl : Nat} (t : State) (ht : t.heap = H) (hW : s.WarmedH t.vm) : kQc E α0 (.inl vo, (h, ce, sl)) args s (.returned wo) t :=
  ⟨⟨α, vo, wo, hp, rfl, rfl, hv, by rw [ht]; exact hR.moved hW.alike⟩, hV.F ht⟩
def tIret : kOp := fun fs => match fs.2.1 with
  | [.int v] => some (.inr (.inl (some (.int v)), fs.2.2))
  | _ => none
theorem ok_ireturn {pcs : Nat → Nat} (C : kCx E XX σ zs p l e R s m args below meth c α0 cc nL nc0 ns0 res own ws) (hr : meth.sig.returnType = some .int) (hd : decode cc pc = .ok (.ireturn, 1)) : kOK E p l e R s m args below meth c α0 nL nc0 ns0 res pc pcs tIret := by
  intro fs r h
  obtain ⟨L, S, hsx⟩ := fs
  obtain ⟨hh, hc, hn⟩ := hsx
  unfold tIret at h
  split at h
  · rename_i v hS
    simp only at hS
    subst hS
    cases h
    refine ⟨Nat.le_refl _, Nat.le_refl _, fun hq => ?_⟩
    subst hq
    intro α H locs ls lv st hp hR hV hL hl hs h1 h2
    obtain ⟨st, rfl, hx⟩ := kvS_int hs
    cases hx
    refine vx_ret ?_
    exact W.iret C.1 C.2.1 hr (k_end hp hR hV rfl) hV.2.2 hd (hlocks := C.2.2.2.2.2.1)
  · cases h
def tLret : kOp := fun fs => match fs.2.1 with
  | [.long v] => some (.inr (.inl (some (.long v)), fs.2.2))
  | _ => none
theorem ok_lreturn {pcs : Nat → Nat} (C : kCx E XX σ zs p l e R s m args below meth c α0 cc nL nc0 ns0 res own ws) (hr : meth.sig.returnType = some .long) (hd : decode cc pc = .ok (.lreturn, 1)) : kOK E p l e R s m args below meth c α0 nL nc0 ns0 res pc pcs tLret := by
  intro fs r h
  obtain ⟨L, S, hsx⟩ := fs
  obtain ⟨hh, hc, hn⟩ := hsx
  unfold tLret at h
  split at h
  · rename_i v hS
    simp only at hS
    subst hS
    cases h
    refine ⟨Nat.le_refl _, Nat.le_refl _, fun hq => ?_⟩
    subst hq
    intro α H locs ls lv st hp hR hV hL hl hs h1 h2
    obtain ⟨st, rfl, hx⟩ := kvS_long hs
    cases hx
    refine vx_ret ?_
    exact W.lret C.1 C.2.1 hr (k_end hp hR hV rfl) hV.2.2 hd (hlocks := C.2.2.2.2.2.1)
  · cases h
def tDret : kOp := fun fs => match fs.2.1 with
  | [.double v] => some (.inr (.inl (some (.double v)), fs.2.2))
  | _ => none
theorem ok_dreturn {pcs : Nat → Nat} (C : kCx E XX σ zs p l e R s m args below meth c α0 cc nL nc0 ns0 res own ws) (hr : meth.sig.returnType = some .double) (hd : decode cc pc = .ok (.dreturn, 1)) : kOK E p l e R s m args below meth c α0 nL nc0 ns0 res pc pcs tDret := by
  intro fs r h
  obtain ⟨L, S, hsx⟩ := fs
  obtain ⟨hh, hc, hn⟩ := hsx
  unfold tDret at h
  split at h
  · rename_i v hS
    simp only at hS
    subst hS
    cases h
    refine ⟨Nat.le_refl _, Nat.le_refl _, fun hq => ?_⟩
    subst hq
    intro α H locs ls lv st hp hR hV hL hl hs h1 h2
    obtain ⟨st, rfl, hx⟩ := kvS_double hs
    cases hx
    refine vx_ret ?_
    exact W.dret C.1 C.2.1 hr (k_end hp hR hV rfl) hV.2.2 hd (hlocks := C.2.2.2.2.2.1)
  · cases h
def tZret : kOp := fun fs => match fs.2.1 with
  | [.int v] => bif v == 0 || v == 1 then some (.inr (.inl (some (.int v)), fs.2.2)) else none
  | _ => none
theorem ok_zreturn {pcs : Nat → Nat} (C : kCx E XX σ zs p l e R s m args below meth c α0 cc nL nc0 ns0 res own ws) (hr : meth.sig.returnType = some .boolean) (hd : decode cc pc = .ok (.ireturn, 1)) : kOK E p l e R s m args below meth c α0 nL nc0 ns0 res pc pcs tZret := by
  intro fs r h
  obtain ⟨L, S, hsx⟩ := fs
  obtain ⟨hh, hc, hn⟩ := hsx
  unfold tZret at h
  split at h
  · rename_i v hS
    simp only at hS
    subst hS
    cases hg : (v == 0 || v == 1) with
    | false => rw [hg] at h; cases h
    | true =>
    rw [hg] at h
    cases h
    refine ⟨Nat.le_refl _, Nat.le_refl _, fun hq => ?_⟩
    subst hq
    intro α H locs ls lv st hp hR hV hL hl hs h1 h2
    obtain ⟨st, rfl, hx⟩ := kvS_int hs
    cases hx
    refine vx_ret ?_
    exact W.zret C.1 C.2.1 hr (by simp only [Bool.or_eq_true, beq_iff_eq] at hg; rcases hg with rfl | rfl <;> rfl) (k_end hp hR hV rfl) hV.2.2 hd (hlocks := C.2.2.2.2.2.1)
  · cases h
def tVret : kOp := fun fs => match fs.2.1 with
  | [] => some (.inr (.inl none, fs.2.2))
  | _ => none
theorem ok_return {pcs : Nat → Nat} (C : kCx E XX σ zs p l e R s m args below meth c α0 cc nL nc0 ns0 res own ws) (hr : meth.sig.returnType = none) (hd : decode cc pc = .ok (.return_, 1)) : kOK E p l e R s m args below meth c α0 nL nc0 ns0 res pc pcs tVret := by
  intro fs r h
  obtain ⟨L, S, hsx⟩ := fs
  obtain ⟨hh, hc, hn⟩ := hsx
  unfold tVret at h
  split at h
  · rename_i hS
    simp only at hS
    subst hS
    cases h
    refine ⟨Nat.le_refl _, Nat.le_refl _, fun hq => ?_⟩
    subst hq
    intro α H locs ls lv st hp hR hV hL hl hs h1 h2
    cases hs
    refine vx_ret ?_
    exact W.vret C.1 C.2.1 hr (k_end hp hR hV rfl) hV.2.2 hd (hlocks := C.2.2.2.2.2.1)
  · cases h
def tAret : kOp := fun fs => match fs.2.1 with
  | [.ref v] => some (.inr (.inl (some (.ref v)), fs.2.2))
  | [.null] => some (.inr (.inl (some .null), fs.2.2))
  | _ => none
theorem ok_areturn {rt : FieldType} {pcs : Nat → Nat} (C : kCx E XX σ zs p l e R s m args below meth c α0 cc nL nc0 ns0 res own ws) (hr : meth.sig.returnType = some rt) (hrt : (∃ n, rt = .object n) ∨ ∃ t, rt = .array t) (hd : decode cc pc = .ok (.areturn, 1)) : kOK E p l e R s m args below meth c α0 nL nc0 ns0 res pc pcs tAret := by
  intro fs r h
  obtain ⟨L, S, hsx⟩ := fs
  obtain ⟨hh, hc, hn⟩ := hsx
  unfold tAret at h
  split at h
  · rename_i v hS
    simp only at hS
    subst hS
    cases h
    refine ⟨Nat.le_refl _, Nat.le_refl _, fun hq => ?_⟩
    subst hq
    intro α H locs ls lv st hp hR hV hL hl hs h1 h2
    obtain ⟨a, st, rfl, ha, hx⟩ := kvS_ref hs
    cases hx
    refine vx_ret ?_
    exact W.aret C.1 C.2.1 hr hrt (Or.inr ⟨a, rfl⟩) (k_end hp hR hV (by simp [kvO, kv_ref ha])) hV.2.2 hd (hlocks := C.2.2.2.2.2.1)
  · rename_i hS
    simp only at hS
    subst hS
    cases h
    refine ⟨Nat.le_refl _, Nat.le_refl _, fun hq => ?_⟩
    subst hq
    intro α H locs ls lv st hp hR hV hL hl hs h1 h2
    obtain ⟨st, rfl, hx⟩ := kvS_null hs
    cases hx
    refine vx_ret ?_
    exact W.aret C.1 C.2.1 hr hrt (Or.inl rfl) (k_end hp hR hV rfl) hV.2.2 hd (hlocks := C.2.2.2.2.2.1)
  · cases h
end KLOC
end
section
/-! ===== fields, arrays, new ===== -/
def kcell (n : Nat) (h : List kCel) (a : Nat) : Option kCel := bif Nat.ble n a then h[a - n]? else none
def kidx {τ : Type} (t : List τ) (i : Int32) : Option τ := bif decide (i < 0) then none else t[i.toNatClampNeg]?
theorem kcell_spec {n : Nat} {h : List kCel} {a : Nat} {q : kCel} (hq : kcell n h a = some q) : n ≤ a ∧ h[a - n]? = some q := by
  unfold kcell at hq
  cases hb : Nat.ble n a with
  | false => rw [hb] at hq; cases hq
  | true => rw [hb] at hq; exact ⟨Nat.le_of_ble_eq_true hb, hq⟩
theorem kidx_spec {τ : Type} {t : List τ} {i : Int32} {x : τ} (h : kidx t i = some x) : vp_in i t.length ∧ t[i.toNatClampNeg]? = some x := by
  unfold kidx at h
  by_cases hi : i < 0
  · simp [hi] at h
  · simp only [hi, decide_false, cond_false] at h
    have := (List.getElem?_eq_some_iff.mp h).1
    exact ⟨fun q => by rcases q with q | q; exact hi q; omega, h⟩
def kfit (ty : FieldType) (v : Value) : Bool := match ty, v with
  | .int, .int _ => true
  | .boolean, .int x => x == 0 || x == 1
  | .long, .long _ => true
  | .double, .double _ => true
  | .object _, .null => true
  | .object _, .ref _ => true
  | .array _, .null => true
  | .array _, .ref _ => true
  | _, _ => false
theorem kfit_ok {α : List Nat} {ty : FieldType} {v w : Value} (h : kfit ty v = true) (hv : kv α v = some w) : narrow ty w = w ∧ fits ty w = true := by
  unfold kfit at h
  split at h
  · cases hv; exact ⟨rfl, rfl⟩
  · cases hv
    simp only [Bool.or_eq_true, beq_iff_eq] at h
    rcases h with rfl | rfl <;> exact ⟨rfl, rfl⟩
  · cases hv; exact ⟨rfl, rfl⟩
  · cases hv; exact ⟨rfl, rfl⟩
  · cases hv; exact ⟨rfl, rfl⟩
  · obtain ⟨a, -, rfl⟩ := kv_refI hv; exact ⟨rfl, rfl⟩
  · cases hv; exact ⟨rfl, rfl⟩
  · obtain ⟨a, -, rfl⟩ := kv_refI hv; exact ⟨rfl, rfl⟩
  · cases h
section KHEAP
variable {p : Program} {l : Launch} {e : Env} {R : Room} {s : State} {m : MethodId} {args : Array Value} {below : List Frame} {meth : Method} {c : Code}
variable {E : kE} {XX : State → Prop} {σ α0 : List Nat} {cc : ByteArray} {nL nc0 ns0 : Nat} {res : kRes} {pc pc' : Nat} {own : String} {ws : List Cond} {zs : List (String × String × Nat)}
/-- the apartness of a class's slots -/
theorem k_apart {Cn : String} {T : u_T} {N ci : Nat} (C : kCx E XX σ zs p l e R s m args below meth c α0 cc nL nc0 ns0 res own ws) (hin : ∀ w ∈ u_ws Cn T N, w ∈ ws) (ty : Nat → FieldType) (hty : ∀ k, k < N → parseFieldDescriptor (T k).2.2.1 = some (ty k)) (hnm : ∀ a, a < N → ∀ b, b < N → a ≠ b → (T a).2.1 ≠ (T b).2.1) (hc : (kcl E)[ci]? = some (Cn, T, N)) : ∀ x y, x < N → y < N → x ≠ y → kdI E ci x ≠ kdI E ci y := by
  have hts := C.2.2.2.2.1
  have hK := C.2.2.2.2.2.2.1.2.1
  intro x y hx hy hne
  obtain ⟨hS, -⟩ := hK ci _ hc
  obtain ⟨_, _, _, fa, hia, ea⟩ := hS x hx
  obtain ⟨_, _, _, fb, hib, eb⟩ := hS y hy
  rw [← ea, ← eb]
  refine u_apart (u_lays hts hin hx) (u_lays hts hin hy) hia hib ?_
  rw [(State.fieldFound?_type hia (hty x hx)).1, (State.fieldFound?_type hib (hty y hy)).1]
  exact hnm x hx y hy hne
theorem k_classlt (C : kCx E XX σ zs p l e R s m args below meth c α0 cc nL nc0 ns0 res own ws) {ci : Nat} {r : vw_C} (hc : (kcl E)[ci]? = some r) : ci < 100 := by
  have h1 := C.2.2.2.2.2.2.1.1.1
  have h2 := (List.getElem?_eq_some_iff.mp hc).1
  omega
def oGet (n ci k : Nat) : kOp := fun fs => match fs.2.1 with
  | .ref a :: S => match kcell n fs.2.2.1 a with
    | some q => bif Nat.beq q.1 ci then (match q.2[k]? with
      | some v => some (.inl (0, (fs.1, v :: S, fs.2.2)))
      | none => none) else none
    | none => none
  | _ => none
theorem ok_get {n ci k ix : Nat} {ref Cn : String} {T : u_T} {N : Nat} (C : kCx E XX σ zs p l e R s m args below meth c α0 cc nL nc0 ns0 res own ws) (hn : kn E = n) (hin : ∀ w ∈ u_ws Cn T N, w ∈ ws) (hc : (kcl E)[ci]? = some (Cn, T, N)) (hk : k < N) (hlink : Cond.fieldLink own ix ref (T k).2.1 (T k).2.2.1 ∈ ws) (hsame : ∀ x, s.fieldFound? (T k).1 (T k).2.1 (T k).2.2.1 = some x → s.fieldFound? ref (T k).2.1 (T k).2.2.1 = some x) (hd : decode cc pc = .ok (.getfield ix, 3)) : kOK E p l e R s m args below meth c α0 nL nc0 ns0 res pc (kTo (pc + 3)) (oGet n ci k) := by
  intro fs r h
  obtain ⟨L, S0, hh, nc, ns⟩ := fs
  unfold oGet at h
  split at h
  · rename_i a S hS
    simp only at hS
    subst hS
    split at h
    · rename_i q hq
      cases hb : Nat.beq q.1 ci with
      | false => rw [hb] at h; cases h
      | true =>
      rw [hb] at h
      simp only [cond_true] at h
      split at h
      · rename_i v hv
        cases h
        refine ⟨Nat.le_refl _, Nat.le_refl _, fun _ _ k2 => ?_⟩
        intro α H locs ls lv st hp hR hV hL hl hs h1 h2
        obtain ⟨a1, st, rfl, ha, hx⟩ := kvS_ref hs
        obtain ⟨g1, g2⟩ := kcell_spec hq
        subst hn
        obtain ⟨-, cell, q1, q3, q4⟩ := hR.at g1 g2 ha
        have hci : q.1 = ci := Nat.eq_of_beq_eq_true hb
        rcases q4 with ⟨r, e1, e2, e3, e4⟩ | ⟨e1, -⟩
        · rw [hci] at e1 e2 e4
          have hr : r = (Cn, T, N) := Option.some.inj (e1.symm.trans hc)
          subst hr
          obtain ⟨hSl, hfc, kC, hkC, hkind⟩ := C.2.2.2.2.2.2.1.2.1 ci _ hc
          obtain ⟨cf, kf, fi, f, hi, hsl⟩ := hSl k hk
          obtain ⟨w, w1, w2⟩ := e4 k v hv
          refine W.getf C.1 C.2.1 C.2.2.2.1 (C.2.2.2.2.1 _ hlink) (hsame _ hi) (u_facts hfc hkC (u_lays C.2.2.2.2.1 hin hk) hi).1 q1 (by rw [q3]; exact fun h => by cases h) (v := w) (by rw [hsl]; exact w2) rfl rfl hd ?_
          exact k2 α H locs ls lv _ hp hR hV hL hl (kvS_mk w1 hx) h1 h2
        · rw [hci] at e1
          exact absurd (k_classlt C hc) (by omega)
      · cases h
    · cases h
  · cases h
def oPut (n ci k : Nat) (ty : FieldType) : kOp := fun fs => match fs.2.1 with
  | v :: .ref a :: S => match kcell n fs.2.2.1 a with
    | some q => bif Nat.beq q.1 ci && (Nat.blt k q.2.length && kfit ty v) then some (.inl (0, (fs.1, S, (fs.2.2.1.set (a - n) (q.1, q.2.set k v), fs.2.2.2)))) else none
    | none => none
  | _ => none
/-- a cell with one field changed -/
theorem k_field {α : List Nat} {H1 : Heap} {a : Nat} {q : kCel} {r : vw_C} {cell : Cell} {k : Nat} {v w : Value} {ci : Nat} (hci : q.1 = ci) (e1 : (kcl E)[ci]? = some r) (hap : ∀ x y, x < r.2.2 → y < r.2.2 → x ≠ y → kdI E ci x ≠ kdI E ci y) (q3 : cell.vm = .none) (e2 : cell.cls = kdC E ci) (e3 : q.2.length = r.2.2) (e4 : ∀ (j : Nat) (v : Value), q.2[j]? = some v → ∃ w, kv α v = some w ∧ cell.slots[kdI E ci j]? = some w) (hk : k < r.2.2) (hv : kv α v = some w) (hH : H1[a]? = some (cell.setSlot (kdI E ci k) w)) : kAt E s α H1 a (q.1, q.2.set k v) := by
  subst hci
  have hV : ∀ j, j < r.2.2 → cell.slots[kdI E q.1 j]? = some ((cell.slots[kdI E q.1 j]?).getD .null) := fun j hj => by
    obtain ⟨w9, -, h9⟩ := e4 j _ (List.getElem?_eq_getElem (by omega))
    rw [h9]; rfl
  have h5 := t_set hV hap hk w
  refine ⟨_, hH, q3, Or.inl ⟨r, e1, e2, by simpa using e3, fun j x hj => ?_⟩⟩
  have hjl : j < r.2.2 := by
    have := (List.getElem?_eq_some_iff.mp hj).1
    simp at this; omega
  by_cases hjk : j = k
  · subst hjk
    rw [List.getElem?_set_self (by omega)] at hj
    cases hj
    exact ⟨w, hv, by rw [h5 j hjl]; simp [updV]⟩
  · rw [List.getElem?_set_ne (Ne.symm hjk)] at hj
    obtain ⟨w9, g1, g2⟩ := e4 j x hj
    refine ⟨w9, g1, ?_⟩
    rw [h5 j hjl]
    simp [updV, hjk, g2]
theorem ok_put {n ci k ix : Nat} {ref Cn : String} {T : u_T} {N : Nat} {ty : FieldType} (C : kCx E XX σ zs p l e R s m args below meth c α0 cc nL nc0 ns0 res own ws) (hn : kn E = n) (hin : ∀ w ∈ u_ws Cn T N, w ∈ ws) (ty0 : Nat → FieldType) (hty : ∀ k, k < N → parseFieldDescriptor (T k).2.2.1 = some (ty0 k)) (hnm : ∀ a, a < N → ∀ b, b < N → a ≠ b → (T a).2.1 ≠ (T b).2.1) (hc : (kcl E)[ci]? = some (Cn, T, N)) (hk : k < N) (hlink : Cond.fieldLink own ix ref (T k).2.1 (T k).2.2.1 ∈ ws) (hsame : ∀ x, s.fieldFound? (T k).1 (T k).2.1 (T k).2.2.1 = some x → s.fieldFound? ref (T k).2.1 (T k).2.2.1 = some x) (hfin : (T k).2.2.2 = false ∨ ((T k).2.2.2 = true ∧ meth.name = "<init>" ∧ (T k).1 = own)) (ht : ty0 k = ty) (hd : decode cc pc = .ok (.putfield ix, 3)) : kOK E p l e R s m args below meth c α0 nL nc0 ns0 res pc (kTo (pc + 3)) (oPut n ci k ty) := by
  intro fs r h
  obtain ⟨L, S0, hh, nc, ns⟩ := fs
  unfold oPut at h
  split at h
  · rename_i v a S hS
    simp only at hS
    subst hS
    split at h
    · rename_i q hq
      cases hb : (Nat.beq q.1 ci && (Nat.blt k q.2.length && kfit ty v)) with
      | false => rw [hb] at h; cases h
      | true =>
      rw [hb] at h
      simp only [Bool.and_eq_true] at hb
      obtain ⟨hb1, hb2, hb3⟩ := hb
      cases h
      refine ⟨Nat.le_refl _, Nat.le_refl _, fun _ _ k2 => ?_⟩
      intro α H locs ls lv st hp hR hV hL hl hs h1 h2
      obtain ⟨w, st1, rfl, hw, hs1⟩ := kvS_cons hs
      obtain ⟨a1, st, rfl, ha, hx⟩ := kvS_ref hs1
      obtain ⟨g1, g2⟩ := kcell_spec hq
      subst hn
      obtain ⟨ha0, cell, q1, q3, q4⟩ := hR.at g1 g2 ha
      have hci : q.1 = ci := Nat.eq_of_beq_eq_true hb1
      rcases q4 with ⟨r, e1, e2, e3, e4⟩ | ⟨e1, -⟩
      · rw [hci] at e1 e2 e4
        have hr : r = (Cn, T, N) := Option.some.inj (e1.symm.trans hc)
        subst hr
        have hap := k_apart C hin ty0 hty hnm hc
        obtain ⟨hSl, hfc, kC, hkC, hkind⟩ := C.2.2.2.2.2.2.1.2.1 ci _ hc
        obtain ⟨cf, kf, fi, f, hi, hsl⟩ := hSl k hk
        obtain ⟨f1, f2⟩ := kfit_ok hb3 hw
        have hts := C.2.2.2.2.1
        have hst := (u_facts hfc hkC (u_lays hts hin hk) hi).1
        have hlay := hts _ (hin _ (u_in_lay hk))
        unfold u_lay at hlay
        have hsz : f.slot < cell.slots.size := by
          obtain ⟨w9, -, h9⟩ := e4 k _ (List.getElem?_eq_getElem (Nat.lt_of_lt_of_eq hk e3.symm))
          rw [hsl]; exact k2_hasslot h9
        have fin : ∀ H' : Heap, H'[a1]? = some (cell.setSlot f.slot w) → H'.size = H.size → (∀ q, q ≠ a1 → H'[q]? = H[q]?) → W p l e R s m args below meth c H' (locs ++ [⟨a1, f.slot⟩]) (nc - nc0) (ns - ns0) (kQ E below args s α0 nc0 ns0 res) { F0 m pc ls (w :: .ref a1 :: st) with pc := pc + 3, stack := st } := by
          intro H' e5 e6 e7
          rw [hsl] at e5
          refine k2 α H' _ ls lv st hp (hR.put g1 g2 ha (k_field hci hc hap q3 e2 e3 e4 hk hw e5) e7) (hV.put e6 e7 ha0) hL hl hx h1 h2
        rcases hfin with hf | ⟨hf, hf2, hf3⟩
        · rw [if_neg (by rw [hf]; decide)] at hlay
          have h6 := u_store hfc hkC hkind hlay hi (hty k hk) (by rw [ht]; exact f1) (by rw [ht]; exact f2)
          exact W.putK C.1 C.2.1 (f := f) ⟨C.2.2.2.1, hts _ hlink, ⟨_, _, _, hsame _ hi⟩, hst⟩ (by rw [e2]; exact h6) q1 q3 hsz rfl rfl hd fin
        · rw [if_pos hf] at hlay
          have hcf : m.cls = cf := by
            obtain ⟨_, _, c', _, _, _, -, -, hf', -, -, -, hown2, -⟩ := Cond.laysFinal_spec hlay
            have e8 : c' = cf := by have := hi.symm.trans hf'; simp at this; exact this.1.symm
            rw [hf3] at hown2
            rw [← e8]; exact Option.some.inj (C.2.2.2.1.symm.trans hown2)
          have h6 := u_fits hfc hkC hkind (Or.inr hlay) hi (hty k hk) (by rw [ht]; exact f1) (by rw [ht]; exact f2)
          exact W.putFinK C.1 C.2.1 C.2.2.2.1 (hts _ hlink) (hsame _ hi) hst hcf hf2 (by rw [e2]; exact h6) q1 q3 hsz rfl rfl hd fin
      · rw [hci] at e1
        exact absurd (k_classlt C hc) (by omega)
    · cases h
  · cases h
/-- statics that hold a table of ints -/
def oGetS (k : Nat) : kOp := fun fs => some (.inl (0, (fs.1, .ref k :: fs.2.1, fs.2.2)))
theorem ok_gets {k ix : Nat} {Cn nm : String} (C : kCx E XX σ zs p l e R s m args below meth c α0 cc nL nc0 ns0 res own ws) (hz : (Cn, nm, k) ∈ zs) (hlink : Cond.fieldLink own ix Cn nm "[I" ∈ ws) (hd : decode cc pc = .ok (.getstatic ix, 3)) : kOK E p l e R s m args below meth c α0 nL nc0 ns0 res pc (kTo (pc + 3)) (oGetS k) := by
  intro fs r h
  cases h
  refine ⟨Nat.le_refl _, Nat.le_refl _, fun _ _ k2 => ?_⟩
  intro α H locs ls lv st hp hR hV hL hl hs h1 h2
  obtain ⟨a, ha, hZ⟩ := C.2.2.2.2.2.2.1.2.2.2.1 _ hz
  have ha2 : α[k]? = some a := k_pre ha (List.IsPrefix.trans C.2.2.2.2.2.2.2.2.1 hp)
  exact va_gets C.1 C.2.1 hZ hV C.2.2.2.1 (C.2.2.2.2.1 _ hlink) (fun _ h => h) hd (k2 α H locs ls lv _ hp hR hV hL hl (kvS_mk (kv_ref ha2) hs) h1 h2)
def oIald (tb : List (List Int32)) : kOp := fun fs => match fs.2.1 with
  | .int i :: .ref a :: S => match tb[a]? with
    | some t => (match kidx t i with
      | some x => some (.inl (0, (fs.1, .int x :: S, fs.2.2)))
      | none => none)
    | none => (match kcell tb.length fs.2.2.1 a with
      | some q => bif Nat.beq q.1 100 then (match kidx q.2 i with
        | some (.int x) => some (.inl (0, (fs.1, .int x :: S, fs.2.2)))
        | _ => none) else none
      | none => none)
  | _ => none
theorem k_arr {tag : Nat} (hlt : 100 ≤ tag) {α : List Nat} {H : Heap} {a : Nat} {q : kCel} (C : kCx E XX σ zs p l e R s m args below meth c α0 cc nL nc0 ns0 res own ws) (hq : q.1 = tag) (h : kAt E s α H a q) : ∃ cell : Cell, H[a]? = some cell ∧ cell.vm = .none ∧ kAr s cell (kTy tag) ∧ cell.slots.size = q.2.length ∧ ∀ (j : Nat) (v : Value), q.2[j]? = some v → ∃ w, kv α v = some w ∧ cell.slots[j]? = some w := by
  obtain ⟨cell, q1, q3, q4⟩ := h
  rw [hq] at q4
  rcases q4 with ⟨r, e1, -⟩ | ⟨-, e2, e3, e4⟩
  · exact absurd (k_classlt C e1) (by omega)
  · exact ⟨cell, q1, q3, e2, e3, e4⟩
theorem ok_iaload {tb : List (List Int32)} (C : kCx E XX σ zs p l e R s m args below meth c α0 cc nL nc0 ns0 res own ws) (htb : ktb E = tb) (hd : decode cc pc = .ok (.iaload, 1)) : kOK E p l e R s m args below meth c α0 nL nc0 ns0 res pc (kTo (pc + 1)) (oIald tb) := by
  intro fs r h
  obtain ⟨L, S0, hh, nc, ns⟩ := fs
  unfold oIald at h
  split at h
  · rename_i i a S hS
    simp only at hS
    subst hS
    split at h
    · rename_i t ht
      split at h
      · rename_i x hx
        cases h
        refine ⟨Nat.le_refl _, Nat.le_refl _, fun _ _ k2 => ?_⟩
        intro α H locs ls lv st hp hR hV hL hl hs h1 h2
        obtain ⟨st1, rfl, hs1⟩ := kvS_int hs
        obtain ⟨a1, st, rfl, ha, hs2⟩ := kvS_ref hs1
        obtain ⟨i1, i2⟩ := kidx_spec hx
        subst htb
        have hal : a < kn E := (List.getElem?_eq_some_iff.mp ht).1
        have hsl : σ[a]? = some a1 := by
          have h9 : a < σ.length := Nat.lt_of_lt_of_eq hal C.2.2.2.2.2.2.1.1.2.1.symm
          have h10 := k_pre (List.getElem?_eq_getElem h9) (List.IsPrefix.trans C.2.2.2.2.2.2.2.2.1 hp)
          rw [ha] at h10
          rw [List.getElem?_eq_getElem h9, ← h10]
        have hT := C.2.2.2.2.2.2.1.2.2.1 a a1 t hsl ht
        refine va_ti C.1 C.2.1 hT hV i1 (v := .int x) ?_ hd (k2 α H locs ls lv _ hp hR hV hL hl (kvS_mk rfl hs2) h1 h2)
        simp [List.getD, i2]
      · cases h
    · split at h
      · rename_i q hq
        cases hb : Nat.beq q.1 100 with
        | false => rw [hb] at h; cases h
        | true =>
        rw [hb] at h
        simp only [cond_true] at h
        split at h
        · rename_i x hx
          cases h
          refine ⟨Nat.le_refl _, Nat.le_refl _, fun _ _ k2 => ?_⟩
          intro α H locs ls lv st hp hR hV hL hl hs h1 h2
          obtain ⟨st1, rfl, hs1⟩ := kvS_int hs
          obtain ⟨a1, st, rfl, ha, hs2⟩ := kvS_ref hs1
          obtain ⟨i1, i2⟩ := kidx_spec hx
          subst htb
          obtain ⟨g1, g2⟩ := kcell_spec hq
          obtain ⟨ha0, hat⟩ := hR.at (show kn E ≤ a from g1) g2 ha
          obtain ⟨cell, q1, q3, q4, q5, q6⟩ := k_arr (tag := 100) (Nat.le_refl _) C (Nat.eq_of_beq_eq_true hb) hat
          obtain ⟨w, w1, w2⟩ := q6 _ _ i2
          cases w1
          refine W.iald C.1 C.2.1 q1 (q4.is q3) (by rw [q3]; exact fun h => by cases h) (by rw [q5]; exact i1) w2 rfl rfl hd ?_
          exact k2 α H locs ls lv _ hp hR hV hL hl (kvS_mk rfl hs2) h1 h2
        · cases h
      · cases h
  · cases h
def oLald (n : Nat) : kOp := fun fs => match fs.2.1 with
  | .int i :: .ref a :: S => (match kcell n fs.2.2.1 a with
      | some q => bif Nat.beq q.1 101 then (match kidx q.2 i with
        | some (.long x) => some (.inl (0, (fs.1, .long x :: S, fs.2.2)))
        | _ => none) else none
      | none => none)
  | _ => none
theorem ok_laload {n : Nat} (C : kCx E XX σ zs p l e R s m args below meth c α0 cc nL nc0 ns0 res own ws) (hn : kn E = n) (hd : decode cc pc = .ok (.laload, 1)) : kOK E p l e R s m args below meth c α0 nL nc0 ns0 res pc (kTo (pc + 1)) (oLald n) := by
  intro fs r h
  obtain ⟨L, S0, hh, nc, ns⟩ := fs
  unfold oLald at h
  split at h
  · rename_i i a S hS
    simp only at hS
    subst hS
    split at h
    · rename_i q hq
      cases hb : Nat.beq q.1 101 with
      | false => rw [hb] at h; cases h
      | true =>
      rw [hb] at h
      simp only [cond_true] at h
      split at h
      · rename_i x hx
        cases h
        refine ⟨Nat.le_refl _, Nat.le_refl _, fun _ _ k2 => ?_⟩
        intro α H locs ls lv st hp hR hV hL hl hs h1 h2
        obtain ⟨st1, rfl, hs1⟩ := kvS_int hs
        obtain ⟨a1, st, rfl, ha, hs2⟩ := kvS_ref hs1
        obtain ⟨i1, i2⟩ := kidx_spec hx
        subst hn
        obtain ⟨g1, g2⟩ := kcell_spec hq
        obtain ⟨ha0, hat⟩ := hR.at g1 g2 ha
        obtain ⟨cell, q1, q3, q4, q5, q6⟩ := k_arr (tag := 101) (by decide) C (Nat.eq_of_beq_eq_true hb) hat
        obtain ⟨w, w1, w2⟩ := q6 _ _ i2
        cases w1
        refine W.lald C.1 C.2.1 q1 (q4.is q3) (by rw [q3]; exact fun h => by cases h) (by rw [q5]; exact i1) w2 rfl rfl hd ?_
        exact k2 α H locs ls lv _ hp hR hV hL hl (kvS_mk rfl hs2) h1 h2
      · cases h
    · cases h
  · cases h
def oDald (n : Nat) : kOp := fun fs => match fs.2.1 with
  | .int i :: .ref a :: S => (match kcell n fs.2.2.1 a with
      | some q => bif Nat.beq q.1 102 then (match kidx q.2 i with
        | some (.double x) => some (.inl (0, (fs.1, .double x :: S, fs.2.2)))
        | _ => none) else none
      | none => none)
  | _ => none
theorem ok_daload {n : Nat} (C : kCx E XX σ zs p l e R s m args below meth c α0 cc nL nc0 ns0 res own ws) (hn : kn E = n) (hd : decode cc pc = .ok (.daload, 1)) : kOK E p l e R s m args below meth c α0 nL nc0 ns0 res pc (kTo (pc + 1)) (oDald n) := by
  intro fs r h
  obtain ⟨L, S0, hh, nc, ns⟩ := fs
  unfold oDald at h
  split at h
  · rename_i i a S hS
    simp only at hS
    subst hS
    split at h
    · rename_i q hq
      cases hb : Nat.beq q.1 102 with
      | false => rw [hb] at h; cases h
      | true =>
      rw [hb] at h
      simp only [cond_true] at h
      split at h
      · rename_i x hx
        cases h
        refine ⟨Nat.le_refl _, Nat.le_refl _, fun _ _ k2 => ?_⟩
        intro α H locs ls lv st hp hR hV hL hl hs h1 h2
        obtain ⟨st1, rfl, hs1⟩ := kvS_int hs
        obtain ⟨a1, st, rfl, ha, hs2⟩ := kvS_ref hs1
        obtain ⟨i1, i2⟩ := kidx_spec hx
        subst hn
        obtain ⟨g1, g2⟩ := kcell_spec hq
        obtain ⟨ha0, hat⟩ := hR.at g1 g2 ha
        obtain ⟨cell, q1, q3, q4, q5, q6⟩ := k_arr (tag := 102) (by decide) C (Nat.eq_of_beq_eq_true hb) hat
        obtain ⟨w, w1, w2⟩ := q6 _ _ i2
        cases w1
        refine W.dald C.1 C.2.1 q1 (q4.is q3) (by rw [q3]; exact fun h => by cases h) (by rw [q5]; exact i1) w2 rfl rfl hd ?_
        exact k2 α H locs ls lv _ hp hR hV hL hl (kvS_mk rfl hs2) h1 h2
      · cases h
    · cases h
  · cases h
def oZald (n : Nat) : kOp := fun fs => match fs.2.1 with
  | .int i :: .ref a :: S => (match kcell n fs.2.2.1 a with
      | some q => bif Nat.beq q.1 103 then (match kidx q.2 i with
        | some (.int x) => some (.inl (0, (fs.1, .int x :: S, fs.2.2)))
        | _ => none) else none
      | none => none)
  | _ => none
theorem ok_baload {n : Nat} (C : kCx E XX σ zs p l e R s m args below meth c α0 cc nL nc0 ns0 res own ws) (hn : kn E = n) (hd : decode cc pc = .ok (.baload, 1)) : kOK E p l e R s m args below meth c α0 nL nc0 ns0 res pc (kTo (pc + 1)) (oZald n) := by
  intro fs r h
  obtain ⟨L, S0, hh, nc, ns⟩ := fs
  unfold oZald at h
  split at h
  · rename_i i a S hS
    simp only at hS
    subst hS
    split at h
    · rename_i q hq
      cases hb : Nat.beq q.1 103 with
      | false => rw [hb] at h; cases h
      | true =>
      rw [hb] at h
      simp only [cond_true] at h
      split at h
      · rename_i x hx
        cases h
        refine ⟨Nat.le_refl _, Nat.le_refl _, fun _ _ k2 => ?_⟩
        intro α H locs ls lv st hp hR hV hL hl hs h1 h2
        obtain ⟨st1, rfl, hs1⟩ := kvS_int hs
        obtain ⟨a1, st, rfl, ha, hs2⟩ := kvS_ref hs1
        obtain ⟨i1, i2⟩ := kidx_spec hx
        subst hn
        obtain ⟨g1, g2⟩ := kcell_spec hq
        obtain ⟨ha0, hat⟩ := hR.at g1 g2 ha
        obtain ⟨cell, q1, q3, q4, q5, q6⟩ := k_arr (tag := 103) (by decide) C (Nat.eq_of_beq_eq_true hb) hat
        obtain ⟨w, w1, w2⟩ := q6 _ _ i2
        cases w1
        refine W.zald C.1 C.2.1 q1 (q4.is q3) (by rw [q3]; exact fun h => by cases h) (by rw [q5]; exact i1) w2 rfl rfl hd ?_
        exact k2 α H locs ls lv _ hp hR hV hL hl (kvS_mk rfl hs2) h1 h2
      · cases h
    · cases h
  · cases h
/-- an array with one place changed -/
theorem k_elem {α : List Nat} {H1 : Heap} {a j : Nat} {q : kCel} {cell : Cell} {v w : Value} (h100 : 100 ≤ q.1) (q3 : cell.vm = .none) (q4 : kAr s cell (kTy q.1)) (q5 : cell.slots.size = q.2.length) (q6 : ∀ (j : Nat) (v : Value), q.2[j]? = some v → ∃ w, kv α v = some w ∧ cell.slots[j]? = some w) (hj : j < q.2.length) (hv : kv α v = some w) (hH : H1[a]? = some (cell.setSlot j w)) : kAt E s α H1 a (q.1, q.2.set j v) := by
  refine ⟨_, hH, q3, Or.inr ⟨h100, q4, ?_, fun i x hi => ?_⟩⟩
  · show (cell.slots.setIfInBounds j w).size = _
    simp [q5]
  · show ∃ w9, _ ∧ (cell.slots.setIfInBounds j w)[i]? = _
    by_cases hij : i = j
    · subst hij
      rw [List.getElem?_set_self hj] at hi
      cases hi
      exact ⟨w, hv, by rw [Array.getElem?_setIfInBounds_self_of_lt (by omega)]⟩
    · rw [List.getElem?_set_ne (Ne.symm hij)] at hi
      obtain ⟨w9, g1, g2⟩ := q6 i x hi
      exact ⟨w9, g1, by rw [Array.getElem?_setIfInBounds_ne (Ne.symm hij)]; exact g2⟩
def oIast (n : Nat) : kOp := fun fs => match fs.2.1 with
  | .int x :: .int i :: .ref a :: S => (match kcell n fs.2.2.1 a with
      | some q => bif Nat.beq q.1 100 then (match kidx q.2 i with
        | some _ => some (.inl (0, (fs.1, S, (fs.2.2.1.set (a - n) (q.1, q.2.set i.toNatClampNeg (.int x)), fs.2.2.2))))
        | none => none) else none
      | none => none)
  | _ => none
theorem ok_iastore {n : Nat} (C : kCx E XX σ zs p l e R s m args below meth c α0 cc nL nc0 ns0 res own ws) (hn : kn E = n) (hd : decode cc pc = .ok (.iastore, 1)) : kOK E p l e R s m args below meth c α0 nL nc0 ns0 res pc (kTo (pc + 1)) (oIast n) := by
  intro fs r h
  obtain ⟨L, S0, hh, nc, ns⟩ := fs
  unfold oIast at h
  split at h
  · rename_i x i a S hS
    simp only at hS
    subst hS
    split at h
    · rename_i q hq
      cases hb : (Nat.beq q.1 100) with
      | false => rw [hb] at h; cases h
      | true =>
      rw [hb] at h
      
      simp only [cond_true] at h
      split at h
      · rename_i y hx
        cases h
        refine ⟨Nat.le_refl _, Nat.le_refl _, fun _ _ k2 => ?_⟩
        intro α H locs ls lv st hp hR hV hL hl hs h1 h2
        obtain ⟨st0, rfl, hs0⟩ := kvS_int hs
        obtain ⟨st1, rfl, hs1⟩ := kvS_int hs0
        obtain ⟨a1, st, rfl, ha, hs2⟩ := kvS_ref hs1
        obtain ⟨i1, i2⟩ := kidx_spec hx
        subst hn
        obtain ⟨g1, g2⟩ := kcell_spec hq
        obtain ⟨ha0, hat⟩ := hR.at g1 g2 ha
        have hq1 : q.1 = 100 := Nat.eq_of_beq_eq_true hb
        obtain ⟨cell, q1, q3, q4, q5, q6⟩ := k_arr (tag := 100) (by decide) C hq1 hat
        have hil := (List.getElem?_eq_some_iff.mp i2).1
        refine W.iast C.1 C.2.1 q1 (q4.is q3) (by rw [q3]; exact fun h => by cases h) (by rw [q5]; exact i1) rfl rfl hd fun H' e5 e6 e7 => ?_
        
        exact k2 α H' _ ls lv st hp (hR.put g1 g2 ha (k_elem (by omega) q3 (by rw [hq1]; exact q4) q5 q6 hil rfl e5) e7) (hV.put e6 e7 ha0) hL hl hs2 h1 h2
      · cases h
    · cases h
  · cases h
def oLast (n : Nat) : kOp := fun fs => match fs.2.1 with
  | .long x :: .int i :: .ref a :: S => (match kcell n fs.2.2.1 a with
      | some q => bif Nat.beq q.1 101 then (match kidx q.2 i with
        | some _ => some (.inl (0, (fs.1, S, (fs.2.2.1.set (a - n) (q.1, q.2.set i.toNatClampNeg (.long x)), fs.2.2.2))))
        | none => none) else none
      | none => none)
  | _ => none
theorem ok_lastore {n : Nat} (C : kCx E XX σ zs p l e R s m args below meth c α0 cc nL nc0 ns0 res own ws) (hn : kn E = n) (hd : decode cc pc = .ok (.lastore, 1)) : kOK E p l e R s m args below meth c α0 nL nc0 ns0 res pc (kTo (pc + 1)) (oLast n) := by
  intro fs r h
  obtain ⟨L, S0, hh, nc, ns⟩ := fs
  unfold oLast at h
  split at h
  · rename_i x i a S hS
    simp only at hS
    subst hS
    split at h
    · rename_i q hq
      cases hb : (Nat.beq q.1 101) with
      | false => rw [hb] at h; cases h
      | true =>
      rw [hb] at h
      
      simp only [cond_true] at h
      split at h
      · rename_i y hx
        cases h
        refine ⟨Nat.le_refl _, Nat.le_refl _, fun _ _ k2 => ?_⟩
        intro α H locs ls lv st hp hR hV hL hl hs h1 h2
        obtain ⟨st0, rfl, hs0⟩ := kvS_long hs
        obtain ⟨st1, rfl, hs1⟩ := kvS_int hs0
        obtain ⟨a1, st, rfl, ha, hs2⟩ := kvS_ref hs1
        obtain ⟨i1, i2⟩ := kidx_spec hx
        subst hn
        obtain ⟨g1, g2⟩ := kcell_spec hq
        obtain ⟨ha0, hat⟩ := hR.at g1 g2 ha
        have hq1 : q.1 = 101 := Nat.eq_of_beq_eq_true hb
        obtain ⟨cell, q1, q3, q4, q5, q6⟩ := k_arr (tag := 101) (by decide) C hq1 hat
        have hil := (List.getElem?_eq_some_iff.mp i2).1
        refine W.last C.1 C.2.1 q1 (q4.is q3) (by rw [q3]; exact fun h => by cases h) (by rw [q5]; exact i1) rfl rfl hd fun H' e5 e6 e7 => ?_
        
        exact k2 α H' _ ls lv st hp (hR.put g1 g2 ha (k_elem (by omega) q3 (by rw [hq1]; exact q4) q5 q6 hil rfl e5) e7) (hV.put e6 e7 ha0) hL hl hs2 h1 h2
      · cases h
    · cases h
  · cases h
def oDast (n : Nat) : kOp := fun fs => match fs.2.1 with
  | .double x :: .int i :: .ref a :: S => (match kcell n fs.2.2.1 a with
      | some q => bif Nat.beq q.1 102 then (match kidx q.2 i with
        | some _ => some (.inl (0, (fs.1, S, (fs.2.2.1.set (a - n) (q.1, q.2.set i.toNatClampNeg (.double x)), fs.2.2.2))))
        | none => none) else none
      | none => none)
  | _ => none
theorem ok_dastore {n : Nat} (C : kCx E XX σ zs p l e R s m args below meth c α0 cc nL nc0 ns0 res own ws) (hn : kn E = n) (hd : decode cc pc = .ok (.dastore, 1)) : kOK E p l e R s m args below meth c α0 nL nc0 ns0 res pc (kTo (pc + 1)) (oDast n) := by
  intro fs r h
  obtain ⟨L, S0, hh, nc, ns⟩ := fs
  unfold oDast at h
  split at h
  · rename_i x i a S hS
    simp only at hS
    subst hS
    split at h
    · rename_i q hq
      cases hb : (Nat.beq q.1 102) with
      | false => rw [hb] at h; cases h
      | true =>
      rw [hb] at h
      
      simp only [cond_true] at h
      split at h
      · rename_i y hx
        cases h
        refine ⟨Nat.le_refl _, Nat.le_refl _, fun _ _ k2 => ?_⟩
        intro α H locs ls lv st hp hR hV hL hl hs h1 h2
        obtain ⟨st0, rfl, hs0⟩ := kvS_double hs
        obtain ⟨st1, rfl, hs1⟩ := kvS_int hs0
        obtain ⟨a1, st, rfl, ha, hs2⟩ := kvS_ref hs1
        obtain ⟨i1, i2⟩ := kidx_spec hx
        subst hn
        obtain ⟨g1, g2⟩ := kcell_spec hq
        obtain ⟨ha0, hat⟩ := hR.at g1 g2 ha
        have hq1 : q.1 = 102 := Nat.eq_of_beq_eq_true hb
        obtain ⟨cell, q1, q3, q4, q5, q6⟩ := k_arr (tag := 102) (by decide) C hq1 hat
        have hil := (List.getElem?_eq_some_iff.mp i2).1
        refine W.dast C.1 C.2.1 q1 (q4.is q3) (by rw [q3]; exact fun h => by cases h) (by rw [q5]; exact i1) rfl rfl hd fun H' e5 e6 e7 => ?_
        
        exact k2 α H' _ ls lv st hp (hR.put g1 g2 ha (k_elem (by omega) q3 (by rw [hq1]; exact q4) q5 q6 hil rfl e5) e7) (hV.put e6 e7 ha0) hL hl hs2 h1 h2
      · cases h
    · cases h
  · cases h
def oZast (n : Nat) : kOp := fun fs => match fs.2.1 with
  | .int x :: .int i :: .ref a :: S => (match kcell n fs.2.2.1 a with
      | some q => bif Nat.beq q.1 103 && (x == 0 || x == 1) then (match kidx q.2 i with
        | some _ => some (.inl (0, (fs.1, S, (fs.2.2.1.set (a - n) (q.1, q.2.set i.toNatClampNeg (.int x)), fs.2.2.2))))
        | none => none) else none
      | none => none)
  | _ => none
theorem ok_bastore {n : Nat} (C : kCx E XX σ zs p l e R s m args below meth c α0 cc nL nc0 ns0 res own ws) (hn : kn E = n) (hd : decode cc pc = .ok (.bastore, 1)) : kOK E p l e R s m args below meth c α0 nL nc0 ns0 res pc (kTo (pc + 1)) (oZast n) := by
  intro fs r h
  obtain ⟨L, S0, hh, nc, ns⟩ := fs
  unfold oZast at h
  split at h
  · rename_i x i a S hS
    simp only at hS
    subst hS
    split at h
    · rename_i q hq
      cases hb : (Nat.beq q.1 103 && (x == 0 || x == 1)) with
      | false => rw [hb] at h; cases h
      | true =>
      rw [hb] at h
      simp only [Bool.and_eq_true, Bool.or_eq_true, beq_iff_eq] at hb
      simp only [cond_true] at h
      split at h
      · rename_i y hx
        cases h
        refine ⟨Nat.le_refl _, Nat.le_refl _, fun _ _ k2 => ?_⟩
        intro α H locs ls lv st hp hR hV hL hl hs h1 h2
        obtain ⟨st0, rfl, hs0⟩ := kvS_int hs
        obtain ⟨st1, rfl, hs1⟩ := kvS_int hs0
        obtain ⟨a1, st, rfl, ha, hs2⟩ := kvS_ref hs1
        obtain ⟨i1, i2⟩ := kidx_spec hx
        subst hn
        obtain ⟨g1, g2⟩ := kcell_spec hq
        obtain ⟨ha0, hat⟩ := hR.at g1 g2 ha
        have hq1 : q.1 = 103 := Nat.eq_of_beq_eq_true hb.1
        obtain ⟨cell, q1, q3, q4, q5, q6⟩ := k_arr (tag := 103) (by decide) C hq1 hat
        have hil := (List.getElem?_eq_some_iff.mp i2).1
        refine W.zast C.1 C.2.1 q1 (q4.is q3) (by rw [q3]; exact fun h => by cases h) (by rw [q5]; exact i1) rfl rfl hd fun H' e5 e6 e7 => ?_
        rw [show narrow .boolean (.int x) = .int x by rcases hb.2 with rfl | rfl <;> rfl] at e5
        exact k2 α H' _ ls lv st hp (hR.put g1 g2 ha (k_elem (by omega) q3 (by rw [hq1]; exact q4) q5 q6 hil rfl e5) e7) (hV.put e6 e7 ha0) hL hl hs2 h1 h2
      · cases h
    · cases h
  · cases h
def oAlen (tb : List (List Int32)) : kOp := fun fs => match fs.2.1 with
  | .ref a :: S => match tb[a]? with
    | some t => some (.inl (0, (fs.1, .int (Int32.ofNat t.length) :: S, fs.2.2)))
    | none => (match kcell tb.length fs.2.2.1 a with
      | some q => bif Nat.ble 100 q.1 then some (.inl (0, (fs.1, .int (Int32.ofNat q.2.length) :: S, fs.2.2))) else none
      | none => none)
  | _ => none
theorem ok_alen {tb : List (List Int32)} (C : kCx E XX σ zs p l e R s m args below meth c α0 cc nL nc0 ns0 res own ws) (htb : ktb E = tb) (hd : decode cc pc = .ok (.arraylength, 1)) : kOK E p l e R s m args below meth c α0 nL nc0 ns0 res pc (kTo (pc + 1)) (oAlen tb) := by
  intro fs r h
  obtain ⟨L, S0, hh, nc, ns⟩ := fs
  unfold oAlen at h
  split at h
  · rename_i a S hS
    simp only at hS
    subst hS
    split at h
    · rename_i t ht
      cases h
      refine ⟨Nat.le_refl _, Nat.le_refl _, fun _ _ k2 => ?_⟩
      intro α H locs ls lv st hp hR hV hL hl hs h1 h2
      obtain ⟨a1, st, rfl, ha, hs2⟩ := kvS_ref hs
      subst htb
      have hsl : σ[a]? = some a1 := by
        have h8 := (List.getElem?_eq_some_iff.mp ht).1
        have h9 : a < σ.length := Nat.lt_of_lt_of_eq h8 C.2.2.2.2.2.2.1.1.2.1.symm
        have h10 := k_pre (List.getElem?_eq_getElem h9) (List.IsPrefix.trans C.2.2.2.2.2.2.2.2.1 hp)
        rw [ha] at h10
        rw [List.getElem?_eq_getElem h9, ← h10]
      have hT := C.2.2.2.2.2.2.1.2.2.1 a a1 t hsl ht
      exact va_tlen C.1 C.2.1 hT hV rfl hd (k2 α H locs ls lv _ hp hR hV hL hl (kvS_mk rfl hs2) h1 h2)
    · split at h
      · rename_i q hq
        cases hb : Nat.ble 100 q.1 with
        | false => rw [hb] at h; cases h
        | true =>
        rw [hb] at h
        cases h
        refine ⟨Nat.le_refl _, Nat.le_refl _, fun _ _ k2 => ?_⟩
        intro α H locs ls lv st hp hR hV hL hl hs h1 h2
        obtain ⟨a1, st, rfl, ha, hs2⟩ := kvS_ref hs
        subst htb
        obtain ⟨g1, g2⟩ := kcell_spec hq
        obtain ⟨ha0, hat⟩ := hR.at (show kn E ≤ a from g1) g2 ha
        obtain ⟨cell, q1, q3, q4, q5, q6⟩ := k_arr (tag := q.1) (Nat.le_of_ble_eq_true hb) C rfl hat
        refine W.alen (n := Int32.ofNat q.2.length) C.1 C.2.1 q1 (q4.is q3) (by rw [q5]) rfl rfl hd ?_
        exact k2 α H locs ls lv _ hp hR hV hL hl (kvS_mk rfl hs2) h1 h2
      · cases h
  · cases h
def kdef : Nat → Value := fun t => match t with
  | 100 => .int 0
  | 101 => .long 0
  | 102 => .double 0
  | 103 => .int 0
  | _ => .null
def oNewa (n tag : Nat) : kOp := fun fs => match fs.2.1 with
  | .int i :: S => bif decide (i < 0) || Nat.blt 1000000 i.toNatClampNeg then none else some (.inl (0, (fs.1, .ref (n + fs.2.2.1.length) :: S, (fs.2.2.1 ++ [(tag, List.replicate i.toNatClampNeg (kdef tag))], fs.2.2.2.1 + 1, fs.2.2.2.2 + i.toNatClampNeg))))
  | _ => none
theorem k_cv {U : State} {α : List Nat} {v : Value} (h : v = .int 0 ∨ v = .long 0 ∨ v = .double 0 ∨ v = .null) : kv α v = some v := by
  rcases h with rfl | rfl | rfl | rfl <;> rfl
theorem kdef_cv {α : List Nat} (t : Nat) : kv α (kdef t) = some (kdef t) := by
  unfold kdef
  split <;> rfl
theorem ok_newa {n tag : Nat} {atype : ArrayType} (C : kCx E XX σ zs p l e R s m args below meth c α0 cc nL nc0 ns0 res own ws) (hn : kn E = n) (h100 : 100 ≤ tag) (hty : newarray.typeOf atype = kTy tag) (hdv : defaultValue (kTy tag) = kdef tag) (hcb : componentBytes (kTy tag) ≤ 8) (hno : ∀ Cn, kTy tag ≠ .object Cn) (hw : Cond.arrayClass (kTy tag) ∈ ws) (hd : decode cc pc = .ok (.newarray atype, 2)) : kOK E p l e R s m args below meth c α0 nL nc0 ns0 res pc (kTo (pc + 2)) (oNewa n tag) := by
  intro fs r h
  obtain ⟨L, S0, hh, nc, ns⟩ := fs
  unfold oNewa at h
  split at h
  · rename_i i S hS
    simp only at hS
    subst hS
    cases hb : (decide (i < 0) || Nat.blt 1000000 i.toNatClampNeg) with
    | true => rw [hb] at h; cases h
    | false =>
    rw [hb] at h
    cases h
    simp only [Bool.or_eq_false_iff, decide_eq_false_iff_not] at hb
    have hle : i.toNatClampNeg ≤ 1000000 := by
      have h9 := hb.2
      unfold Nat.blt at h9
      have := Nat.not_le_of_not_ble_eq_true (by rw [h9]; decide)
      omega
    refine ⟨Nat.le_succ _, Nat.le_add_right _ _, fun b1 b2 k2 => ?_⟩
    intro α H locs ls lv st hp hR hV hL hl hs h1 h2
    dsimp only at b1 b2 h1 h2
    obtain ⟨st, rfl, hs2⟩ := kvS_int hs
    subst hn
    have hRc := C.2.2.2.2.2.2.2.2.2.2.1
    have hRs := C.2.2.2.2.2.2.2.2.2.2.2.1
    have hc1 : nc - nc0 + 1 ≤ R.cells := by rw [hRc]; omega
    have hc2 : ns - ns0 + i.toNatClampNeg ≤ R.slots := by rw [hRs]; omega
    refine W.newa C.1 C.2.1 (by rw [hty]; exact C.2.2.2.2.1 _ hw) rfl hd rfl hb.1 (by rw [hty]; calc
        _ ≤ 1000000 * 8 := Nat.mul_le_mul hle hcb
        _ ≤ _ := by decide) hc1 hc2 fun cA kA comp f1 f2 f3 => ?_
    generalize hH1 : H.push ({ cls := cA, slots := Array.replicate i.toNatClampNeg (defaultValue (newarray.typeOf atype)), vm := .none } : Cell) = H1
    have z1 : H1.size = H.size + 1 := by rw [← hH1, Array.size_push]
    have e1 : H1[H.size]? = some ({ cls := cA, slots := Array.replicate i.toNatClampNeg (defaultValue (newarray.typeOf atype)), vm := .none } : Cell) := by rw [← hH1, Array.getElem?_push_size]
    have o1 : ∀ q : Nat, q < H.size → H1[q]? = H[q]? := fun q hq => by rw [← hH1, Array.getElem?_push, if_neg (Nat.ne_of_lt hq)]
    have hbH : kb E ≤ H.size := Nat.le_trans C.2.2.2.2.2.2.1.1.2.2 hV.1
    have hat : kAt E s (α ++ [H.size]) H1 H.size (tag, List.replicate i.toNatClampNeg (kdef tag)) := by
      refine ⟨_, e1, rfl, Or.inr ⟨h100, ⟨kA, comp, f2, by rw [f3, hty], fun Cn hCn => absurd hCn (hno Cn)⟩, by simp, fun j v hj => ?_⟩⟩
      obtain ⟨hjl, hje⟩ := List.getElem?_eq_some_iff.mp hj
      simp at hjl hje
      subst hje
      refine ⟨kdef tag, kdef_cv tag, ?_⟩
      show (Array.replicate i.toNatClampNeg (defaultValue (newarray.typeOf atype)))[j]? = _
      rw [hty, hdv]
      simp [hjl]
    have hpp := List.prefix_append α [H.size]
    have k3 := k2 (α ++ [H.size]) H1 locs ls lv (.ref H.size :: st) (List.IsPrefix.trans hp hpp) (hR.push (Nat.le_refl _) hbH hat o1 hR.lt) ⟨by rw [z1]; exact Nat.le_succ_of_le hV.1, fun x g1 g2 => (o1 x (Nat.lt_of_lt_of_le g1 hV.1)).trans (hV.2.1 x g1 g2), hV.2.2⟩ (kvL_mono hpp hL) hl (kvS_mk (kv_ref (by
      show (α ++ [H.size])[kn E + hh.length]? = _
      rw [show kn E + hh.length = α.length by have := hR.1; dsimp only at this; omega, List.getElem?_append_right (Nat.le_refl _), Nat.sub_self]; rfl)) (kvS_mono hpp hs2)) (by dsimp only; omega) (by dsimp only; omega)
    dsimp only at k3 ⊢
    rw [show nc - nc0 + 1 = nc + 1 - nc0 by omega, show ns - ns0 + i.toNatClampNeg = ns + i.toNatClampNeg - ns0 by omega]
    exact k3
  · cases h
end KHEAP
end
section
/-! ===== references in arrays, new objects, throws, calls ===== -/
/-- many cells more -/
theorem kRep.pushs {E : kE} {U : State} {α : List Nat} {h cs : List kCel} {H H1 : Heap} (hr : kRep E U α h H) (hb : kb E ≤ H.size) (hn : ∀ (i : Nat) (c : kCel), cs[i]? = some c → kAt E U (α ++ (List.range cs.length).map (fun i => H.size + i)) H1 (H.size + i) c) (oq : ∀ q, q < H.size → H1[q]? = H[q]?) : kRep E U (α ++ (List.range cs.length).map (fun i => H.size + i)) (h ++ cs) H1 := by
  have hlen := hr.1
  have hlt := hr.lt
  have hβ : ∀ i, i < cs.length → ((List.range cs.length).map (fun i => H.size + i))[i]? = some (H.size + i) := fun i hi => by
    rw [List.getElem?_map, List.getElem?_range hi]; rfl
  have key : ∀ i x, kn E ≤ i → (α ++ (List.range cs.length).map (fun i => H.size + i))[i]? = some x → (α[i]? = some x ∧ x < H.size) ∨ (α.length ≤ i ∧ x = H.size + (i - α.length)) := by
    intro i x hi h1
    by_cases l : i < α.length
    · rw [List.getElem?_append_left l] at h1
      exact Or.inl ⟨h1, hlt i x hi h1⟩
    · rw [List.getElem?_append_right (by omega)] at h1
      have z : i - α.length < ((List.range cs.length).map (fun i => H.size + i)).length := (List.getElem?_eq_some_iff.mp h1).1
      simp only [List.length_map, List.length_range] at z
      rw [hβ _ z] at h1
      exact Or.inr ⟨by omega, (Option.some.inj h1).symm⟩
  refine ⟨by simp [hlen]; omega, fun i j x hi hj h1 h2 => ?_, fun k d hk => ?_⟩
  · rcases key i x hi h1 with ⟨g1, g2⟩ | ⟨g1, g2⟩ <;> rcases key j x hj h2 with ⟨f1, f2⟩ | ⟨f1, f2⟩
    · exact hr.2.1 i j x hi hj g1 f1
    · omega
    · omega
    · omega
  · by_cases l : k < h.length
    · rw [List.getElem?_append_left l] at hk
      obtain ⟨x, h1, h2, h3⟩ := hr.2.2 k d hk
      exact ⟨x, k_pre h1 (List.prefix_append _ _), h2, h3.kept (List.prefix_append _ _) (oq x h3.lt)⟩
    · rw [List.getElem?_append_right (by omega)] at hk
      have z : k - h.length < cs.length := (List.getElem?_eq_some_iff.mp hk).1
      refine ⟨H.size + (k - h.length), ?_, by omega, hn _ _ hk⟩
      rw [List.getElem?_append_right (by omega), show kn E + k - α.length = k - h.length by omega]
      exact hβ _ z
theorem vr_outer' (c : ClassId) (N h0 : Nat) : ∀ i : Nat, (Jvm.Free.Multi.outerC c N h0 i).vm = .none ∧ (Jvm.Free.Multi.outerC c N h0 i).slots.size = N ∧ ∀ j, j < N → (Jvm.Free.Multi.outerC c N h0 i).slots[j]? = some (if j < i then .ref (h0 + 1 + j) else .null)
  | 0 => ⟨rfl, by simp [Jvm.Free.Multi.outerC], fun j hj => by simp [Jvm.Free.Multi.outerC, hj]⟩
  | i + 1 => by
    obtain ⟨h1, h2, h3⟩ := vr_outer' c N h0 i
    refine ⟨h1, ?_, fun j hj => ?_⟩
    · show ((Jvm.Free.Multi.outerC c N h0 i).slots.setIfInBounds i _).size = N
      simp [h2]
    · show ((Jvm.Free.Multi.outerC c N h0 i).slots.setIfInBounds i _)[j]? = _
      by_cases e : j = i
      · subst e
        rw [Array.getElem?_setIfInBounds_self_of_lt (by omega)]
        simp
      · rw [Array.getElem?_setIfInBounds_ne (Ne.symm e), h3 j hj]
        by_cases h : j < i
        · simp [h, Nat.lt_succ_of_lt h]
        · simp [h, show ¬ j < i + 1 by omega]
def va_AOA (ty : FieldType) (U : State) : Prop := (Cond.arrayOver (.array ty)).before #[] U = true
theorem va_AOA.use {ty : FieldType} {A : Array Value} {U : State} (h : va_AOA ty U) : (Cond.arrayOver (.array ty)).before A U = true := h
theorem kTy_ref {t : Nat} (h : 104 ≤ t) : (kTy t).isReference = true := by
  unfold kTy
  split <;> first | rfl | omega
section KREF
variable {p : Program} {l : Launch} {e : Env} {R : Room} {s : State} {m : MethodId} {args : Array Value} {below : List Frame} {meth : Method} {c : Code}
variable {E : kE} {XX : State → Prop} {σ α0 : List Nat} {cc : ByteArray} {nL nc0 ns0 : Nat} {res : kRes} {pc pc' : Nat} {own : String} {ws : List Cond} {zs : List (String × String × Nat)}
def oAald (n : Nat) : kOp := fun fs => match fs.2.1 with
  | .int i :: .ref a :: S => (match kcell n fs.2.2.1 a with
      | some q => bif Nat.ble 104 q.1 then (match kidx q.2 i with
        | some v => some (.inl (0, (fs.1, v :: S, fs.2.2)))
        | none => none) else none
      | none => none)
  | _ => none
theorem ok_aaload {n : Nat} (C : kCx E XX σ zs p l e R s m args below meth c α0 cc nL nc0 ns0 res own ws) (hn : kn E = n) (hd : decode cc pc = .ok (.aaload, 1)) : kOK E p l e R s m args below meth c α0 nL nc0 ns0 res pc (kTo (pc + 1)) (oAald n) := by
  intro fs r h
  obtain ⟨L, S0, hh, nc, ns⟩ := fs
  unfold oAald at h
  split at h
  · rename_i i a S hS
    simp only at hS
    subst hS
    split at h
    · rename_i q hq
      cases hb : Nat.ble 104 q.1 with
      | false => rw [hb] at h; cases h
      | true =>
      rw [hb] at h
      simp only [cond_true] at h
      split at h
      · rename_i x hx
        cases h
        refine ⟨Nat.le_refl _, Nat.le_refl _, fun _ _ k2 => ?_⟩
        intro α H locs ls lv st hp hR hV hL hl hs h1 h2
        obtain ⟨st1, rfl, hs1⟩ := kvS_int hs
        obtain ⟨a1, st, rfl, ha, hs2⟩ := kvS_ref hs1
        obtain ⟨i1, i2⟩ := kidx_spec hx
        subst hn
        obtain ⟨g1, g2⟩ := kcell_spec hq
        obtain ⟨ha0, hat⟩ := hR.at g1 g2 ha
        have h104 := Nat.le_of_ble_eq_true hb
        obtain ⟨cell, q1, q3, q4, q5, q6⟩ := k_arr (tag := q.1) (by omega) C rfl hat
        obtain ⟨w, w1, w2⟩ := q6 _ _ i2
        refine W.aald C.1 C.2.1 q1 (q4.is q3) (kTy_ref h104) (by rw [q3]; exact fun h => by cases h) (by rw [q5]; exact i1) w2 rfl rfl hd ?_
        exact k2 α H locs ls lv _ hp hR hV hL hl (kvS_mk w1 hs2) h1 h2
      · cases h
    · cases h
  · cases h
/-- a reference to an object of the class ci into an array whose tag is t -/
def oAast (n t ci : Nat) : kOp := fun fs => match fs.2.1 with
  | .ref v :: .int i :: .ref a :: S => (match kcell n fs.2.2.1 a, kcell n fs.2.2.1 v with
      | some q, some u => bif Nat.beq q.1 t && Nat.beq u.1 ci then (match kidx q.2 i with
        | some _ => some (.inl (0, (fs.1, S, (fs.2.2.1.set (a - n) (q.1, q.2.set i.toNatClampNeg (.ref v)), fs.2.2.2))))
        | none => none) else none
      | _, _ => none)
  | _ => none
theorem ok_aastore {n t ci : Nat} {r0 : vw_C} {Cn : String} (C : kCx E XX σ zs p l e R s m args below meth c α0 cc nL nc0 ns0 res own ws) (hn : kn E = n) (h100 : 100 ≤ t) (hty : kTy t = .object Cn) (hc : (kcl E)[ci]? = some r0) (hasg : ∀ comp, s.vm.findClass Cn = some comp → s.vm.assignable (kdC E ci) comp = true) (hd : decode cc pc = .ok (.aastore, 1)) : kOK E p l e R s m args below meth c α0 nL nc0 ns0 res pc (kTo (pc + 1)) (oAast n t ci) := by
  intro fs r h
  obtain ⟨L, S0, hh, nc, ns⟩ := fs
  unfold oAast at h
  split at h
  · rename_i v i a S hS
    simp only at hS
    subst hS
    split at h
    · rename_i q u hq hu
      cases hb : (Nat.beq q.1 t && Nat.beq u.1 ci) with
      | false => rw [hb] at h; cases h
      | true =>
      rw [hb] at h
      simp only [Bool.and_eq_true] at hb
      simp only [cond_true] at h
      split at h
      · rename_i y hx
        cases h
        refine ⟨Nat.le_refl _, Nat.le_refl _, fun _ _ k2 => ?_⟩
        intro α H locs ls lv st hp hR hV hL hl hs h1 h2
        obtain ⟨v1, st0, rfl, hv, hs0⟩ := kvS_ref hs
        obtain ⟨st1, rfl, hs1⟩ := kvS_int hs0
        obtain ⟨a1, st, rfl, ha, hs2⟩ := kvS_ref hs1
        obtain ⟨i1, i2⟩ := kidx_spec hx
        subst hn
        obtain ⟨g1, g2⟩ := kcell_spec hq
        obtain ⟨f1, f2⟩ := kcell_spec hu
        obtain ⟨ha0, hat⟩ := hR.at g1 g2 ha
        obtain ⟨hv0, hvt⟩ := hR.at f1 f2 hv
        have hq1 : q.1 = t := Nat.eq_of_beq_eq_true hb.1
        have hu1 : u.1 = ci := Nat.eq_of_beq_eq_true hb.2
        obtain ⟨cell, q1, q3, q4, q5, q6⟩ := k_arr h100 C hq1 hat
        obtain ⟨cv, u1, u3, u4⟩ := hvt
        rw [hu1] at u4
        have hil := (List.getElem?_eq_some_iff.mp i2).1
        rcases u4 with ⟨rr, e1, e2, e3, e4⟩ | ⟨e1, -⟩
        · obtain ⟨kA, comp, z1, z2, z3⟩ := q4
          have hfc := z3 Cn hty
          obtain ⟨kcomp, hkc, -⟩ := Vm.findClass_spec hfc
          obtain ⟨-, -, kV, hkV, -⟩ := C.2.2.2.2.2.2.1.2.1 ci _ hc
          refine W.aast C.1 C.2.1 q1 (fun q h => by rw [q3] at h; cases h) (by rw [q3]; exact fun h => by cases h) z1 z2 (by rw [hty]; rfl) hkc ⟨fun z => i1 (Or.inl z), by rw [q5]; exact hil⟩ u1 (fun q h => by rw [u3] at h; cases h) (by rw [e2]; exact hkV) (by rw [e2]; exact hasg comp hfc) rfl rfl hd fun H' e5 e6 e7 => ?_
          exact k2 α H' _ ls lv st hp (hR.put g1 g2 ha (k_elem (by omega) q3 (by rw [hq1]; exact ⟨kA, comp, z1, z2, z3⟩) q5 q6 hil (kv_ref hv) e5) e7) (hV.put e6 e7 ha0) hL hl hs2 h1 h2
        · exact absurd (k_classlt C hc) (by omega)
      · cases h
    · cases h
  · cases h
def oNewq (n tag : Nat) : kOp := oNewa n tag
theorem ok_newq {n tag ix : Nat} {Cn : String} (C : kCx E XX σ zs p l e R s m args below meth c α0 cc nL nc0 ns0 res own ws) (hn : kn E = n) (h100 : 104 ≤ tag) (hty : kTy tag = .object Cn) (hw : Cond.classLink own ix Cn ∈ ws) (hov : va_AO Cn s) (hd : decode cc pc = .ok (.anewarray ix, 3)) : kOK E p l e R s m args below meth c α0 nL nc0 ns0 res pc (kTo (pc + 3)) (oNewq n tag) := by
  intro fs r h
  obtain ⟨L, S0, hh, nc, ns⟩ := fs
  unfold oNewq oNewa at h
  split at h
  · rename_i i S hS
    simp only at hS
    subst hS
    cases hb : (decide (i < 0) || Nat.blt 1000000 i.toNatClampNeg) with
    | true => rw [hb] at h; cases h
    | false =>
    rw [hb] at h
    cases h
    simp only [Bool.or_eq_false_iff, decide_eq_false_iff_not] at hb
    have hle : i.toNatClampNeg ≤ 1000000 := by
      have h9 := hb.2
      unfold Nat.blt at h9
      have := Nat.not_le_of_not_ble_eq_true (by rw [h9]; decide)
      omega
    refine ⟨Nat.le_succ _, Nat.le_add_right _ _, fun b1 b2 k2 => ?_⟩
    intro α H locs ls lv st hp hR hV hL hl hs h1 h2
    dsimp only at b1 b2 h1 h2
    obtain ⟨st, rfl, hs2⟩ := kvS_int hs
    subst hn
    have hRc := C.2.2.2.2.2.2.2.2.2.2.1
    have hRs := C.2.2.2.2.2.2.2.2.2.2.2.1
    have hc1 : nc - nc0 + 1 ≤ R.cells := by rw [hRc]; omega
    have hc2 : ns - ns0 + i.toNatClampNeg ≤ R.slots := by rw [hRs]; omega
    refine W.anew C.1 C.2.1 C.2.2.2.1 (C.2.2.2.2.1 _ hw) (va_AO.use hov) rfl hd rfl hb.1 (by omega) hc1 hc2 fun cA kA comp f1 f2 f3 f4 => ?_
    generalize hH1 : H.push ({ cls := cA, slots := Array.replicate i.toNatClampNeg .null, vm := .none } : Cell) = H1
    have z1 : H1.size = H.size + 1 := by rw [← hH1, Array.size_push]
    have e1 : H1[H.size]? = some ({ cls := cA, slots := Array.replicate i.toNatClampNeg .null, vm := .none } : Cell) := by rw [← hH1, Array.getElem?_push_size]
    have o1 : ∀ q : Nat, q < H.size → H1[q]? = H[q]? := fun q hq => by rw [← hH1, Array.getElem?_push, if_neg (Nat.ne_of_lt hq)]
    have hbH : kb E ≤ H.size := Nat.le_trans C.2.2.2.2.2.2.1.1.2.2 hV.1
    have hdn : kdef tag = .null := by
      unfold kdef
      split <;> first | rfl | omega
    have hat : kAt E s (α ++ [H.size]) H1 H.size (tag, List.replicate i.toNatClampNeg (kdef tag)) := by
      refine ⟨_, e1, rfl, Or.inr ⟨(show 100 ≤ tag by omega), ⟨kA, comp, f2, by rw [f3, hty], fun Dn hDn => ?_⟩, by simp, fun j v hj => ?_⟩⟩
      · rw [show (tag, List.replicate i.toNatClampNeg (kdef tag)).1 = tag from rfl, hty] at hDn
        cases hDn
        exact f4
      · obtain ⟨hjl, hje⟩ := List.getElem?_eq_some_iff.mp hj
        simp at hjl hje
        subst hje
        refine ⟨kdef tag, kdef_cv tag, ?_⟩
        show (Array.replicate i.toNatClampNeg Value.null)[j]? = _
        rw [hdn]
        simp [hjl]
    have hpp := List.prefix_append α [H.size]
    have k3 := k2 (α ++ [H.size]) H1 locs ls lv (.ref H.size :: st) (List.IsPrefix.trans hp hpp) (hR.push (Nat.le_refl _) hbH hat o1 hR.lt) ⟨by rw [z1]; exact Nat.le_succ_of_le hV.1, fun x g1 g2 => (o1 x (Nat.lt_of_lt_of_le g1 hV.1)).trans (hV.2.1 x g1 g2), hV.2.2⟩ (kvL_mono hpp hL) hl (kvS_mk (kv_ref (by
      show (α ++ [H.size])[kn E + hh.length]? = _
      rw [show kn E + hh.length = α.length by have := hR.1; dsimp only at this; omega, List.getElem?_append_right (Nat.le_refl _), Nat.sub_self]; rfl)) (kvS_mono hpp hs2)) (by dsimp only; omega) (by dsimp only; omega)
    dsimp only at k3 ⊢
    rw [show nc - nc0 + 1 = nc + 1 - nc0 by omega, show ns - ns0 + i.toNatClampNeg = ns + i.toNatClampNeg - ns0 by omega]
    exact k3
  · cases h
/-- new int[n][k] -/
def oMna (n : Nat) : kOp := fun fs => match fs.2.1 with
  | .int k :: .int i :: S => bif decide (i < 0) || (decide (k < 0) || (Nat.blt 1000 i.toNatClampNeg || Nat.blt 1000 k.toNatClampNeg)) then none else
      some (.inl (0, (fs.1, .ref (n + fs.2.2.1.length) :: S, (fs.2.2.1 ++ ((104, (List.range i.toNatClampNeg).map (fun j => Value.ref (n + fs.2.2.1.length + 1 + j))) :: List.replicate i.toNatClampNeg (100, List.replicate k.toNatClampNeg (.int 0))), fs.2.2.2.1 + 1 + i.toNatClampNeg, fs.2.2.2.2 + i.toNatClampNeg + i.toNatClampNeg * k.toNatClampNeg))))
  | _ => none
theorem k_mna {ix : Nat} (C : kCx E XX σ zs p l e R s m args below meth c α0 cc nL nc0 ns0 res own ws) (hw : Cond.classLink own ix ("[" ++ (FieldType.array .int).toString) ∈ ws) (hov : va_AOA .int s) (hwa : Cond.arrayClass .int ∈ ws) (hd : decode cc pc = .ok (.multianewarray ix 2, 4)) {i k : Int32} {H : Heap} {locs : List Loc} {cells slots : Nat} {ls : Array Slot} {st : List Value} {Q : State → Prop} (hi : ¬ i < 0) (hk : ¬ k < 0) (hi2 : i.toNatClampNeg ≤ 1000) (hk2 : k.toNatClampNeg ≤ 1000) (hc1 : cells + (1 + i.toNatClampNeg) ≤ R.cells) (hc2 : slots + (i.toNatClampNeg + i.toNatClampNeg * k.toNatClampNeg) ≤ R.slots)
    (kk : ∀ (H1 : Heap) (co cy : Cell), H1.size = H.size + 1 + i.toNatClampNeg → (∀ q, q < H.size → H1[q]? = H[q]?) → H1[H.size]? = some co → co.vm = .none → kAr s co (.array .int) → co.slots.size = i.toNatClampNeg → (∀ j, j < i.toNatClampNeg → co.slots[j]? = some (.ref (H.size + 1 + j))) → (∀ j, j < i.toNatClampNeg → H1[H.size + 1 + j]? = some cy) → cy.vm = .none → kAr s cy .int → cy.slots = Array.replicate k.toNatClampNeg (.int 0) →
      W p l e R s m args below meth c H1 locs (cells + 1 + i.toNatClampNeg) (slots + i.toNatClampNeg + i.toNatClampNeg * k.toNatClampNeg) Q (F0 m (pc + 4) ls (.ref H.size :: st))) : W p l e R s m args below meth c H locs cells slots Q (F0 m pc ls (.int k :: .int i :: st)) := by
  intro T hT Xs
  obtain ⟨vm₁, cA, cy, -, fA, fC, hO, hI, X', step⟩ := Xs.multianewarray2F C.1 C.2.2.2.1 (C.2.2.2.2.1 _ hw) (va_AOA.use hov) (C.2.2.2.2.1 _ hwa) (g := F0 m pc ls (.int k :: .int i :: st)) rfl (by rw [C.2.1]; exact hd) rfl hi hk (by omega) (by show k.toNatClampNeg * 4 ≤ _; omega) (by omega) rfl rfl hc1 hc2
  generalize hF : Jvm.Free.Multi.fill (T.setVm vm₁) cA cy i.toNatClampNeg k.toNatClampNeg (defaultValue .int) i.toNatClampNeg = F at X' step
  have hTh : (T.setVm vm₁).heap = H := hT
  obtain ⟨f1, f2, -, -⟩ := Jvm.Free.Multi.fill_facts (T.setVm vm₁) cA cy i.toNatClampNeg k.toNatClampNeg (defaultValue .int) i.toNatClampNeg
  rw [hF, hTh] at f1 f2
  have hold : ∀ x : Nat, x < H.size → F.heap[x]? = H[x]? := fun x hx => by
    have := Jvm.Free.Multi.fill_old (T.setVm vm₁) cA cy i.toNatClampNeg k.toNatClampNeg (defaultValue .int) (a := x) (by rw [hTh]; exact hx) i.toNatClampNeg
    rw [hF, hTh] at this
    exact this
  have hrow : ∀ j : Nat, j < i.toNatClampNeg → F.heap[H.size + 1 + j]? = some (Jvm.Free.Multi.innerC cy k.toNatClampNeg (defaultValue .int)) := fun j hj => by
    have := Jvm.Free.Multi.fill_inner (T.setVm vm₁) cA cy i.toNatClampNeg k.toNatClampNeg (defaultValue .int) i.toNatClampNeg j hj
    rw [hF, hTh] at this
    exact this
  have hout := vr_outer' cA i.toNatClampNeg H.size i.toNatClampNeg
  obtain ⟨o1, o2, o3⟩ := hout
  obtain ⟨-, kO, hkO, cmO, hkkO⟩ := (hO i.toNatClampNeg H.size i.toNatClampNeg).1
  obtain ⟨-, kI, hkI, cmI, hkkI⟩ := (hI k.toNatClampNeg (defaultValue .int)).1
  obtain ⟨t, a1, b1⟩ := kk F.heap _ _ (by rw [f1]) hold f2 o1 ⟨kO, cmO, hkO, hkkO, fun Cn h => by cases h⟩ o2 (fun j hj => by rw [o3 j hj, if_pos hj]) hrow rfl ⟨kI, cmI, hkI, hkkI, fun Cn h => by cases h⟩ rfl F rfl X'
  refine ⟨t, step t ?_, b1⟩
  rw [show T.heap.size = H.size by rw [hT]]
  exact a1
theorem ok_mna {n ix : Nat} (C : kCx E XX σ zs p l e R s m args below meth c α0 cc nL nc0 ns0 res own ws) (hn : kn E = n) (hw : Cond.classLink own ix ("[" ++ (FieldType.array .int).toString) ∈ ws) (hov : va_AOA .int s) (hwa : Cond.arrayClass .int ∈ ws) (hd : decode cc pc = .ok (.multianewarray ix 2, 4)) : kOK E p l e R s m args below meth c α0 nL nc0 ns0 res pc (kTo (pc + 4)) (oMna n) := by
  intro fs r h
  obtain ⟨L, S0, hh, nc, ns⟩ := fs
  unfold oMna at h
  split at h
  · rename_i k i S hS
    simp only at hS
    subst hS
    cases hb : (decide (i < 0) || (decide (k < 0) || (Nat.blt 1000 i.toNatClampNeg || Nat.blt 1000 k.toNatClampNeg))) with
    | true => rw [hb] at h; cases h
    | false =>
    rw [hb] at h
    cases h
    simp only [Bool.or_eq_false_iff, decide_eq_false_iff_not] at hb
    obtain ⟨hi, hk, hi2, hk2⟩ := hb
    have hi3 : i.toNatClampNeg ≤ 1000 := by
      unfold Nat.blt at hi2
      have := Nat.not_le_of_not_ble_eq_true (by rw [hi2]; decide)
      omega
    have hk3 : k.toNatClampNeg ≤ 1000 := by
      unfold Nat.blt at hk2
      have := Nat.not_le_of_not_ble_eq_true (by rw [hk2]; decide)
      omega
    refine ⟨by dsimp only; omega, by dsimp only; omega, fun b1 b2 k2 => ?_⟩
    intro α H locs ls lv st hp hR hV hL hl hs h1 h2
    dsimp only at b1 b2 h1 h2
    obtain ⟨st1, rfl, hs1⟩ := kvS_int hs
    obtain ⟨st, rfl, hs2⟩ := kvS_int hs1
    subst hn
    have hRc := C.2.2.2.2.2.2.2.2.2.2.1
    have hRs := C.2.2.2.2.2.2.2.2.2.2.2.1
    have hc1 : nc - nc0 + (1 + i.toNatClampNeg) ≤ R.cells := by rw [hRc]; omega
    have hc2 : ns - ns0 + (i.toNatClampNeg + i.toNatClampNeg * k.toNatClampNeg) ≤ R.slots := by rw [hRs]; omega
    refine k_mna C hw hov hwa hd hi hk hi3 hk3 hc1 hc2 fun H1 co cy z1 o1 e1 e2 e3 e4 e5 d1 d2 d3 d4 => ?_
    have hbH : kb E ≤ H.size := Nat.le_trans C.2.2.2.2.2.2.1.1.2.2 hV.1
    have hal : α.length = kn E + hh.length := hR.1
    generalize hcs : ((104, (List.range i.toNatClampNeg).map (fun j => Value.ref (kn E + hh.length + 1 + j))) :: List.replicate i.toNatClampNeg (100, List.replicate k.toNatClampNeg (.int 0)) : List kCel) = cs at k2
    have hcl : cs.length = i.toNatClampNeg + 1 := by rw [← hcs]; simp
    have hβ : ∀ j, j < cs.length → (α ++ (List.range cs.length).map (fun i => H.size + i))[kn E + hh.length + j]? = some (H.size + j) := fun j hj => by
      rw [List.getElem?_append_right (by omega), show kn E + hh.length + j - α.length = j by omega, List.getElem?_map, List.getElem?_range hj]; rfl
    have hn9 : ∀ (j : Nat) (q : kCel), cs[j]? = some q → kAt E s (α ++ (List.range cs.length).map (fun i => H.size + i)) H1 (H.size + j) q := by
      intro j q hj
      have hjl := (List.getElem?_eq_some_iff.mp hj).1
      rw [← hcs] at hj
      cases j with
      | zero =>
        cases hj
        refine ⟨co, e1, e2, Or.inr ⟨(show 100 ≤ 104 by decide), e3, by simp [e4], fun j v hv => ?_⟩⟩
        obtain ⟨g1, g2⟩ := List.getElem?_eq_some_iff.mp hv
        simp at g1 g2
        subst g2
        refine ⟨_, kv_ref (a := H.size + 1 + j) ?_, e5 j g1⟩
        have := hβ (1 + j) (by omega)
        rw [show kn E + hh.length + 1 + j = kn E + hh.length + (1 + j) by omega, this]
        congr 1
        omega
      | succ j =>
        rw [List.getElem?_cons_succ] at hj
        obtain ⟨g1, g2⟩ := List.getElem?_eq_some_iff.mp hj
        simp at g1 g2
        subst g2
        refine ⟨cy, by have := d1 j g1; rwa [show H.size + 1 + j = H.size + (j + 1) by omega] at this, d2, Or.inr ⟨(show 100 ≤ 100 by decide), d3, by simp [d4], fun j v hv => ?_⟩⟩
        obtain ⟨f1, f2⟩ := List.getElem?_eq_some_iff.mp hv
        simp at f1 f2
        subst f2
        refine ⟨.int 0, rfl, ?_⟩
        rw [d4]
        simp [f1]
    have hpp := List.prefix_append α ((List.range cs.length).map (fun i => H.size + i))
    have k3 := k2 (α ++ (List.range cs.length).map (fun i => H.size + i)) H1 locs ls lv (.ref H.size :: st) (List.IsPrefix.trans hp hpp) (hR.pushs hbH hn9 o1) ⟨by rw [z1]; have := hV.1; omega, fun x g1 g2 => (o1 x (Nat.lt_of_lt_of_le g1 hV.1)).trans (hV.2.1 x g1 g2), hV.2.2⟩ (kvL_mono hpp hL) hl (kvS_mk (kv_ref (by
      have := hβ 0 (by omega)
      exact this)) (kvS_mono hpp hs2)) (by dsimp only; omega) (by dsimp only; omega)
    dsimp only at k3 ⊢
    rw [show nc - nc0 + 1 + i.toNatClampNeg = nc + 1 + i.toNatClampNeg - nc0 by omega, show ns - ns0 + i.toNatClampNeg + i.toNatClampNeg * k.toNatClampNeg = ns + i.toNatClampNeg + i.toNatClampNeg * k.toNatClampNeg - ns0 by omega]
    exact k3
  · cases h
/-- new C -/
def oNew (n ci N : Nat) (ds : List Value) : kOp := fun fs => some (.inl (0, (fs.1, .ref (n + fs.2.2.1.length) :: fs.2.1, (fs.2.2.1 ++ [(ci, ds)], fs.2.2.2.1 + 1, fs.2.2.2.2 + N))))
theorem ok_new {n ci N ix : Nat} {Cn : String} {T : u_T} {ds : List Value} (C : kCx E XX σ zs p l e R s m args below meth c α0 cc nL nc0 ns0 res own ws) (hn : kn E = n) (hin : ∀ w ∈ u_ws Cn T N, w ∈ ws) (ty : Nat → FieldType) (hty : ∀ k, k < N → parseFieldDescriptor (T k).2.2.1 = some (ty k)) (hc : (kcl E)[ci]? = some (Cn, T, N)) (h1 : Cond.classLink own ix Cn ∈ ws) (h2 : Cond.instantiable Cn N ∈ ws) (h3 : Cond.initialized Cn ∈ ws) (hds : ds = (List.range N).map fun k => defaultValue (ty k)) (hd : decode cc pc = .ok (.new ix, 3)) : kOK E p l e R s m args below meth c α0 nL nc0 ns0 res pc (kTo (pc + 3)) (oNew n ci N ds) := by
  intro fs r h
  obtain ⟨L, S, hh, nc, ns⟩ := fs
  cases h
  refine ⟨Nat.le_succ _, Nat.le_add_right _ _, fun b1 b2 k2 => ?_⟩
  intro α H locs ls lv st hp hR hV hL hl hs g1 g2
  dsimp only at b1 b2 g1 g2
  subst hn
  have hRc := C.2.2.2.2.2.2.2.2.2.2.1
  have hRs := C.2.2.2.2.2.2.2.2.2.2.2.1
  have hc1 : nc - nc0 + 1 ≤ R.cells := by rw [hRc]; omega
  have hc2 : ns - ns0 + N ≤ R.slots := by rw [hRs]; omega
  have hts := C.2.2.2.2.1
  have hKn := C.2.2.2.2.2.2.1.2.1 ci _ hc
  refine W.newcK C.1 C.2.1 C.2.2.2.1 (hts _ h1) (hts _ h2) (hts _ h3) rfl hd hc1 hc2 hKn.2.1 rfl fun H1 kC hkC e1 z1 o1 => ?_
  have hbH : kb E ≤ H.size := Nat.le_trans C.2.2.2.2.2.2.1.1.2.2 hV.1
  have hB := u_born ty hts hin hKn hkC e1 hty
  have hat : kAt E s (α ++ [H.size]) H1 H.size (ci, ds) := by
    obtain ⟨cell, b1, b2, b3, b4⟩ := hB
    refine ⟨cell, b1, b3, Or.inl ⟨_, hc, b2, by rw [hds]; simp, fun j v hj => ?_⟩⟩
    rw [hds] at hj
    obtain ⟨f1, f2⟩ := List.getElem?_eq_some_iff.mp hj
    simp at f1 f2
    subst f2
    exact ⟨defaultValue (ty j), by cases ty j <;> rfl, b4 j f1⟩
  have hpp := List.prefix_append α [H.size]
  have k3 := k2 (α ++ [H.size]) H1 locs ls lv (.ref H.size :: st) (List.IsPrefix.trans hp hpp) (hR.push (Nat.le_refl _) hbH hat o1 hR.lt) ⟨by rw [z1]; exact Nat.le_succ_of_le hV.1, fun x g1 g2 => (o1 x (Nat.lt_of_lt_of_le g1 hV.1)).trans (hV.2.1 x g1 g2), hV.2.2⟩ (kvL_mono hpp hL) hl (kvS_mk (kv_ref (by
    show (α ++ [H.size])[kn E + hh.length]? = _
    rw [show kn E + hh.length = α.length by have := hR.1; dsimp only at this; omega, List.getElem?_append_right (Nat.le_refl _), Nat.sub_self]; rfl)) (kvS_mono hpp hs)) (by dsimp only; omega) (by dsimp only; omega)
  dsimp only at k3 ⊢
  rw [show nc - nc0 + 1 = nc + 1 - nc0 by omega, show ns - ns0 + N = ns + N - ns0 by omega]
  exact k3
/-- Object.<init> -/
def oObj : kOp := fun fs => match fs.2.1 with
  | .ref _ :: S => bif Nat.ble S.length 4 then some (.inl (0, (fs.1, S, fs.2.2))) else none
  | _ => none
theorem ok_obj {ix : Nat} (C : kCx E XX σ zs p l e R s m args below meth c α0 cc nL nc0 ns0 res own ws) (h1 : Cond.methodLink own ix Lib.objectInit ∈ ws) (h2 : Cond.instanceMethod Lib.objectInit ∈ ws) (h3 : Cond.code Lib.objectInit ⟨#[0xb1]⟩ 1 none ∈ ws) (hd : decode cc pc = .ok (.invokespecial ix, 3)) : kOK E p l e R s m args below meth c α0 nL nc0 ns0 res pc (kTo (pc + 3)) oObj := by
  intro fs r h
  obtain ⟨L, S0, hh, nc, ns⟩ := fs
  unfold oObj at h
  split at h
  · rename_i a S hS
    simp only at hS
    subst hS
    cases hb : Nat.ble S.length 4 with
    | false => rw [hb] at h; cases h
    | true =>
    rw [hb] at h
    cases h
    refine ⟨Nat.le_refl _, Nat.le_refl _, fun b1 b2 k2 => ?_⟩
    intro α H locs ls lv st hp hR hV hL hl hs g1 g2
    obtain ⟨a1, st, rfl, ha, hs2⟩ := kvS_ref hs
    have hts := C.2.2.2.2.1
    have hf := C.2.2.2.2.2.2.2.2.2.2.2.2.1
    have hlo := C.2.2.2.2.2.2.2.2.2.2.2.2.2
    have h4 := Nat.le_of_ble_eq_true hb
    have h5 := kvS_cats hs2
    refine W.objInit C.1 C.2.1 C.2.2.2.1 (hts _ h1) (hts _ h2) (hts _ h3) rfl (by rw [C.2.2.1]; exact hl.1) rfl hd (by omega) ?_ ?_
    · show 2 * 0 + _ + 12 ≤ _
      omega
    · exact k2 α H locs ls lv st hp hR hV hL hl hs2 g1 g2
  · cases h
/-- a cast to a class that the object's class is known to be of -/
def oCast (n ci : Nat) : kOp := fun fs => match fs.2.1 with
  | .ref a :: S => (match kcell n fs.2.2.1 a with
    | some q => bif Nat.beq q.1 ci then some (.inl (0, fs)) else none
    | none => none)
  | .null :: S => some (.inl (0, fs))
  | _ => none
theorem ok_cast {n ci ix : Nat} {Cn : String} {r0 : vw_C} (C : kCx E XX σ zs p l e R s m args below meth c α0 cc nL nc0 ns0 res own ws) (hn : kn E = n) (hc : (kcl E)[ci]? = some r0) (hw : Cond.classLink own ix Cn ∈ ws) (hx : va_Nw (.castable r0.1 Cn) s) (hd : decode cc pc = .ok (.checkcast ix, 3)) : kOK E p l e R s m args below meth c α0 nL nc0 ns0 res pc (kTo (pc + 3)) (oCast n ci) := by
  intro fs r h
  obtain ⟨L, S0, hh, nc, ns⟩ := fs
  unfold oCast at h
  split at h
  · rename_i a S hS
    simp only at hS
    subst hS
    split at h
    · rename_i q hq
      cases hb : Nat.beq q.1 ci with
      | false => rw [hb] at h; cases h
      | true =>
      rw [hb] at h
      cases h
      refine ⟨Nat.le_refl _, Nat.le_refl _, fun b1 b2 k2 => ?_⟩
      intro α H locs ls lv st hp hR hV hL hl hs g1 g2
      have hs0 := hs
      obtain ⟨a1, st, rfl, ha, hs2⟩ := kvS_ref hs
      subst hn
      obtain ⟨f1, f2⟩ := kcell_spec hq
      obtain ⟨ha0, cell, q1, q3, q4⟩ := hR.at f1 f2 ha
      rw [Nat.eq_of_beq_eq_true hb] at q4
      rcases q4 with ⟨rr, e1, e2, e3, e4⟩ | ⟨e1, -⟩
      · have hKn := C.2.2.2.2.2.2.1.2.1 ci _ hc
        exact va_castY C.1 C.2.1 C.2.2.2.1 (C.2.2.2.2.1 _ hw) hx ⟨cell, q1, by rw [q3]; rfl, by rw [e2]; exact hKn.2.1⟩ hd (k2 α H locs ls lv _ hp hR hV hL hl hs0 g1 g2)
      · exact absurd (k_classlt C hc) (by omega)
    · cases h
  · rename_i S hS
    simp only at hS
    subst hS
    cases h
    refine ⟨Nat.le_refl _, Nat.le_refl _, fun b1 b2 k2 => ?_⟩
    intro α H locs ls lv st hp hR hV hL hl hs g1 g2
    have hs0 := hs
    obtain ⟨st, rfl, hs2⟩ := kvS_null hs
    exact lv_castN C.1 C.2.1 hd (k2 α H locs ls lv _ hp hR hV hL hl hs0 g1 g2)
  · cases h
/-- throw new X(text) -/
def tThrow (k : Nat) : kOp := fun fs => bif Nat.ble fs.2.1.length 4 then some (.inr (.inr k, (fs.2.2.1, fs.2.2.2.1 + 1, fs.2.2.2.2 + 6))) else none
theorem ok_throw {k ik is ic sa : Nat} {text : String} {names : List String} {pcs : Nat → Nat} (C : kCx E XX σ zs p l e R s m args below meth c α0 cc nL nc0 ns0 res own ws) (hcls : Bundle.fit (kEx k) = true) (hnames : ∀ n ∈ names, Bundle.fit n = true) (hnl : names.length ≤ 3) (hk : Cond.classLink own ik (kEx k) ∈ ws) (hini : Cond.initialized (kEx k) ∈ ws) (hstr : vk_R own is text sa s) (hat : ∀ w ∈ vx_atS own ic (kEx k) names, w.before args s = true) (hgood : ∀ w ∈ Cond.classLink own ik (kEx k) :: Cond.initialized (kEx k) :: vx_atS own ic (kEx k) names, vx_ot w = true)
    (hU : vx_Zq Bundle.tN "UNASSIGNED_STACK" Bundle.steD (fun q => kb E ≤ q) s s.heap) (hN : vx_Zq Bundle.tN "SUPPRESSED_SENTINEL" Bundle.listD (fun q => kb E ≤ q) s s.heap)
    (d0 : decode cc pc = .ok (.new ik, 3)) (d3 : decode cc (pc + 3) = .ok (.dup, 1)) (d4 : decode cc (pc + 4) = .ok (.ldc is, 2)) (d6 : decode cc (pc + 6) = .ok (.invokespecial ic, 3)) (d9 : decode cc (pc + 9) = .ok (.athrow, 1)) (hout : ∀ x ∈ c.exceptionTable.toList, False) : kOK E p l e R s m args below meth c α0 nL nc0 ns0 res pc pcs (tThrow k) := by
  intro fs r h
  obtain ⟨L, S0, hh, nc, ns⟩ := fs
  unfold tThrow at h
  cases hb : Nat.ble S0.length 4 with
  | false => rw [hb] at h; cases h
  | true =>
  rw [hb] at h
  cases h
  refine ⟨Nat.le_succ _, Nat.le_add_right _ _, fun hq => ?_⟩
  subst hq
  intro α H locs ls lv st hp hR hV hL hl hs g1 g2
  dsimp only at g1 g2
  have hts := C.2.2.2.2.1
  have hRc := C.2.2.2.2.2.2.2.2.2.2.1
  have hRs := C.2.2.2.2.2.2.2.2.2.2.2.1
  have hf := C.2.2.2.2.2.2.2.2.2.2.2.2.1
  have hlo := C.2.2.2.2.2.2.2.2.2.2.2.2.2
  dsimp only at hRc hRs
  have h4 := Nat.le_of_ble_eq_true hb
  have h5 := kvS_cats hs
  dsimp only at h5
  have hc1 : nc - nc0 + 1 ≤ R.cells := by rw [hRc]; omega
  have hc2 : ns - ns0 + 6 ≤ R.slots := by rw [hRs]; omega
  exact vx_throwS C.1 C.2.1 C.2.2.2.2.2.2.2.2.2.1 C.2.2.2.1 hcls hnames (hts _ hk) (hts _ hini) hstr hat hgood hU hN hV (by rw [C.2.2.1]; exact hl.1) d0 d3 d4 d6 d9 (fun x hx => (hout x hx).elim) (by omega) (by omega) hc1 hc2 C.2.2.2.2.2.1
    (fun t hvm hz hq => ⟨⟨α, k, hp, rfl, rfl, (show kRep E t α hh t.heap from ⟨hR.1, hR.2.1, fun j d hj => by
      obtain ⟨x, y1, y2, y3⟩ := hR.2.2 j d hj
      exact ⟨x, y1, y2, (y3.kept (List.prefix_refl _) (hq x y3.lt)).moved hvm⟩⟩)⟩, ⟨Nat.le_trans hV.1 hz, fun q q1 q2 => (hq q (Nat.lt_of_lt_of_le q1 hV.1)).trans (hV.2.1 q q1 q2)⟩⟩)
    hV.2.2 (by dsimp only; omega) (by dsimp only; omega)
end KREF
end
section
/-! ===== calls; blocks; runs; the whole machine of methods, and that it is right ===== -/
abbrev kCall : Type := Nat → List Value → kHS → Option kRes
def oCall (cl : kCall) (mi n : Nat) : kOp := fun fs => bif Nat.ble n fs.2.1.length && Nat.ble fs.2.1.length (n + 4) then (match cl mi (fs.2.1.take n).reverse fs.2.2 with
  | some (.inl vo, hs) => some (.inl (0, (fs.1, vo.toList ++ fs.2.1.drop n, hs)))
  | some (.inr k, hs) => some (.inr (.inr k, hs))
  | none => none) else none
/-- a call of a method of an object: its class is looked at -/
def oCallV (cl : kCall) (mi n ci nS : Nat) : kOp := fun fs => match (fs.2.1.drop n) with
  | .ref a :: _ => (match kcell nS fs.2.2.1 a with
    | some q => bif Nat.beq q.1 ci then oCall cl mi (n + 1) fs else none
    | none => none)
  | _ => none
/-- a constructor's call: n arguments behind the object -/
def oCallI (cl : kCall) (mi n : Nat) : kOp := fun fs => match (fs.2.1.drop n) with
  | .ref _ :: _ => oCall cl mi (n + 1) fs
  | _ => none
def kPc (E : kE) (XX : State → Prop) (σ : List Nat) (zs : List (String × String × Nat)) (α0 : List Nat) (args : List Value) (hs : kHS) : Array Value → State → Prop := fun a U => (∃ av, kvS α0 args = some av ∧ a = av.toArray) ∧ kRep E U α0 hs.1 U.heap ∧ kKK E XX σ zs U ∧ σ <+: α0
/-- the contract of a method for these arguments and this heap: the result res -/
def kMet (E : kE) (XX : State → Prop) (σ : List Nat) (zs : List (String × String × Nat)) (l : Launch) (y : MethodName) (ws : List Cond) (d : Nat) (args : List Value) (hs : kHS) (res : kRes) : Prop :=
  hs.2.1 ≤ res.2.2.1 ∧ hs.2.2 ≤ res.2.2.2 ∧ ∀ α0 : List Nat, vx_Met l y ws ({ frames := d + 8, cells := res.2.2.1 - hs.2.1, slots := res.2.2.2 - hs.2.2, locals := 40 * d + 150 }) (kPc E XX σ zs α0 args hs) (kQc E α0 res) (kXc E α0 res) (res.2.2.1 - hs.2.1) (res.2.2.2 - hs.2.2) (fun q => kb E ≤ q)
theorem kPc_blind {E : kE} {XX : State → Prop} {σ : List Nat} {zs : List (String × String × Nat)} {α0 : List Nat} {args : List Value} {hs : kHS} (hst : kStab (kb E) XX) : FrameBlind (kPc E XX σ zs α0 args hs) := by
  intro a U g mk h
  obtain ⟨h1, h2, h3, h4⟩ := h
  exact ⟨h1, kRep.moved (u := U) (U := U.calling g mk a) (Vm.Alike.refl U.vm) h2, kKK.moved (U := U.calling g mk a) hst h3 (State.WarmedH.refl U) (Nat.le_refl _) (fun q _ => rfl), h4⟩
def kSnd (E : kE) (XX : State → Prop) (σ : List Nat) (zs : List (String × String × Nat)) (l : Launch) (Y : Nat → MethodName) (WS : Nat → List Cond) (d : Nat) (cl : kCall) : Prop := ∀ (mi : Nat) (args : List Value) (hs : kHS) (r : kRes), cl mi args hs = some r → kMet E XX σ zs l (Y mi) (WS mi) d args hs r
section KCALL
variable {p : Program} {l : Launch} {e : Env} {R : Room} {s : State} {m : MethodId} {args : Array Value} {below : List Frame} {meth : Method} {c : Code}
variable {E : kE} {XX : State → Prop} {σ α0 : List Nat} {cc : ByteArray} {nL nc0 ns0 : Nat} {res : kRes} {pc pc' : Nat} {own : String} {ws : List Cond} {zs : List (String × String × Nat)}
theorem k_run {α : List Nat} {H : Heap} {locs : List Loc} {cells slots mc ms : Nat} {ls : Array Slot} {st0 rest : List Value} {res1 : kRes} {av : Array Value} {Q : State → Prop} (hr : vx_Run p l e R s m args below meth c H locs cells slots mc ms (F0 m pc ls st0) rest (kQc E α res1 av) (kXc E α res1) (fun q => kb E ≤ q)) (hV : va_S (fun q => kb E ≤ q) s.heap H locs)
    (kx : ∀ (α' : List Nat) (k : Nat) (ce : Cell) (q9 : Addr) (H1 : Heap) (locs1 : List Loc), α <+: α' → res1.1 = .inr k → kRep E s α' res1.2.1 H1 → va_S (fun q => kb E ≤ q) s.heap H1 locs1 → H1[q9]? = some ce → ce.vm = .none → s.vm.findClass (kEx k) = some ce.cls → vx_W p l e R s m args below meth c H1 locs1 (cells + mc) (slots + ms) Q (F0 m pc ls rest) q9)
    (kk : ∀ (α' : List Nat) (vo wo : Option Value) (H1 : Heap) (locs1 : List Loc), α <+: α' → res1.1 = .inl vo → kvO α' vo = some wo → kRep E s α' res1.2.1 H1 → va_S (fun q => kb E ≤ q) s.heap H1 locs1 → W p l e R s m args below meth c H1 locs1 (cells + mc) (slots + ms) Q (F0 m (pc + 3) ls (wo.toList ++ rest))) : W p l e R s m args below meth c H locs cells slots Q (F0 m pc ls st0) := by
  intro T hT X
  rcases hr T hT X with ⟨v, st₀, t, T', L, h0, X', hL, e1, e2, ⟨⟨α', vo, wo, hp, hv, ho, hc, hRt⟩, hF⟩, st⟩ | ⟨q, st₀, t, T', L, Ex, ce, h0, X', hL, e1, e2, ⟨⟨α', k, hp, hk, hE, hRt⟩, hF⟩, hce, hcv, hcl, st⟩
  · cases ho
    obtain ⟨k1, k2, k3⟩ := vx_keep h0 e1 hV (fun _ _ h => h) (fun _ h => h) hL hF
    have hal : s.vm.Alike t.vm := by rw [← e2]; exact X'.warmed.alike
    have hR2 : kRep E s α' res1.2.1 T'.heap := by rw [e1]; exact hRt.moved hal.symm
    obtain ⟨t2, a1, b1⟩ := kk α' vo v T'.heap (locs ++ L) hp hv hc hR2 k3 T' rfl X'
    exact ⟨t2, st t2 a1, b1⟩
  · obtain ⟨k1, k2, k3⟩ := vx_keep h0 e1 hV (fun _ _ h => h) (fun _ h => h) hL hF
    have hal : s.vm.Alike t.vm := by rw [← e2]; exact X'.warmed.alike
    have hR2 : kRep E s α' res1.2.1 T'.heap := by rw [e1]; exact hRt.moved hal.symm
    obtain ⟨t2, a1, b1⟩ := kx α' k ce q T'.heap (locs ++ L) hp hk hR2 k3 (by rw [e1]; exact hce) hcv (by rw [hE]; exact hcl) T' rfl X'
    exact ⟨t2, st.trans a1, b1⟩
/-- what a call of the method gives the machine -/
def kRuns (E : kE) (p : Program) (l : Launch) (e : Env) (R : Room) (s : State) (m : MethodId) (args : Array Value) (below : List Frame) (meth : Method) (c : Code) (α0 : List Nat) (nL pc n : Nat) (args1 : List Value) (hs : kHS) (r : kRes) : Prop :=
  (hs.2.1 ≤ r.2.2.1 ∧ hs.2.2 ≤ r.2.2.2) ∧ ∀ (α : List Nat) (H : Heap) (locs : List Loc) (ls : Array Slot) (av rest : List Value) (cells slots : Nat), α0 <+: α → kRep E s α hs.1 H → va_S (fun q => kb E ≤ q) s.heap H locs → kvS α args1 = some av → args1.length = n → ls.size = nL → (rest.map fun v => v.category).sum ≤ 8 → cells + (r.2.2.1 - hs.2.1) ≤ R.cells → slots + (r.2.2.2 - hs.2.2) ≤ R.slots →
    vx_Run p l e R s m args below meth c H locs cells slots (r.2.2.1 - hs.2.1) (r.2.2.2 - hs.2.2) (F0 m pc ls (av.reverse ++ rest)) rest (kQc E α r av.toArray) (kXc E α r) (fun q => kb E ≤ q)
theorem ok_call {cl : kCall} {mi n : Nat} (C : kCx E XX σ zs p l e R s m args below meth c α0 cc nL nc0 ns0 res own ws) (hout : ∀ x ∈ c.exceptionTable.toList, False) {G : kFS → Prop} (hrun : ∀ (fs : kFS) (r : kRes), G fs → cl mi (fs.2.1.take n).reverse fs.2.2 = some r → kRuns E p l e R s m args below meth c α0 nL pc n (fs.2.1.take n).reverse fs.2.2 r) : ∀ (fs : kFS) (r : (Nat × kFS) ⊕ kRes), G fs → oCall cl mi n fs = some r → match r with
    | .inl q => fs.2.2.2.1 ≤ q.2.2.2.2.1 ∧ fs.2.2.2.2 ≤ q.2.2.2.2.2 ∧ (q.2.2.2.2.1 ≤ res.2.2.1 → q.2.2.2.2.2 ≤ res.2.2.2 → kW E p l e R s m args below meth c α0 nL nc0 ns0 (kQ E below args s α0 nc0 ns0 res) (kTo (pc + 3) q.1) q.2 → kW E p l e R s m args below meth c α0 nL nc0 ns0 (kQ E below args s α0 nc0 ns0 res) pc fs)
    | .inr q => fs.2.2.2.1 ≤ q.2.2.1 ∧ fs.2.2.2.2 ≤ q.2.2.2 ∧ (q = res → kW E p l e R s m args below meth c α0 nL nc0 ns0 (kQ E below args s α0 nc0 ns0 res) pc fs) := by
  intro fs r hG h
  obtain ⟨L, S, hs⟩ := fs
  unfold oCall at h
  cases hb : (Nat.ble n S.length && Nat.ble S.length (n + 4)) with
  | false => dsimp only at h; rw [hb] at h; cases h
  | true =>
  dsimp only at h
  rw [hb] at h
  simp only [cond_true] at h
  simp only [Bool.and_eq_true] at hb
  have hn1 := Nat.le_of_ble_eq_true hb.1
  have hn2 := Nat.le_of_ble_eq_true hb.2
  have hRc := C.2.2.2.2.2.2.2.2.2.2.1
  have hRs := C.2.2.2.2.2.2.2.2.2.2.2.1
  have split1 : ∀ (α : List Nat) (st : List Value), kvS α S = some st → ∃ x y, st = x ++ y ∧ kvS α (S.take n) = some x ∧ kvS α (S.drop n) = some y ∧ x.length = n ∧ y.length ≤ 4 := by
    intro α st hst
    obtain ⟨x, y, e1, e2, e3, e4⟩ := kvS_app (a := S.take n) (b := S.drop n) (by rw [List.take_append_drop]; exact hst)
    refine ⟨x, y, e1, e2, e3, by rw [e4, List.length_take]; omega, ?_⟩
    have := kvS_len e3
    rw [List.length_drop] at this
    omega
  split at h
  · rename_i vo hs1 hcl
    cases h
    obtain ⟨⟨m1, m2⟩, hru⟩ := hrun (L, S, hs) _ hG hcl
    dsimp only at m1 m2
    refine ⟨m1, m2, fun b1 b2 k2 => ?_⟩
    intro α H locs ls lv st hp hR hV hL hl hst g1 g2
    dsimp only at b1 b2 g1 g2
    obtain ⟨x, y, rfl, ex, ey, ex2, ey2⟩ := split1 α st hst
    have hcy := kvS_cats ey
    have hsy : (y.map fun v => v.category).sum ≤ 8 := by
      have := kvS_len ey
      omega
    have hq := hru α H locs ls x.reverse y (hs.2.1 - nc0) (hs.2.2 - ns0) hp hR hV (kvS_rev ex) (by simp; omega) hl.1 hsy (by dsimp only; rw [hRc]; omega) (by dsimp only; rw [hRs]; omega)
    rw [List.reverse_reverse] at hq
    refine k_run hq hV (fun α' k ce q9 H1 locs1 z1 z2 z3 z4 z5 z6 z7 => by cases z2) (fun α' vo2 wo H1 locs1 z1 z2 z3 z4 z5 => ?_)
    cases z2
    have hst2 : kvS α' (vo.toList ++ S.drop n) = some (wo.toList ++ y) := by
      refine kvS_appM ?_ (kvS_mono z1 ey)
      cases vo with
      | none => cases z3; rfl
      | some v =>
        simp only [kvO, Option.map_eq_some_iff] at z3
        obtain ⟨w9, w1, w2⟩ := z3
        subst w2
        exact kvS_mk w1 rfl
    have k3 := k2 α' H1 locs1 ls lv (wo.toList ++ y) (List.IsPrefix.trans hp z1) z4 z5 (kvL_mono z1 hL) hl hst2 (by dsimp only; omega) (by dsimp only; omega)
    dsimp only at k3 ⊢
    rw [show hs.2.1 - nc0 + (hs1.2.1 - hs.2.1) = hs1.2.1 - nc0 by omega, show hs.2.2 - ns0 + (hs1.2.2 - hs.2.2) = hs1.2.2 - ns0 by omega]
    exact k3
  · rename_i k hs1 hcl
    cases h
    obtain ⟨⟨m1, m2⟩, hru⟩ := hrun (L, S, hs) _ hG hcl
    dsimp only at m1 m2
    refine ⟨m1, m2, fun hq => ?_⟩
    subst hq
    intro α H locs ls lv st hp hR hV hL hl hst g1 g2
    dsimp only at g1 g2 hRc hRs
    obtain ⟨x, y, rfl, ex, ey, ex2, ey2⟩ := split1 α st hst
    have hcy := kvS_cats ey
    have hsy : (y.map fun v => v.category).sum ≤ 8 := by
      have := kvS_len ey
      omega
    have hq := hru α H locs ls x.reverse y (hs.2.1 - nc0) (hs.2.2 - ns0) hp hR hV (kvS_rev ex) (by simp; omega) hl.1 hsy (by dsimp only; rw [hRc]; omega) (by dsimp only; rw [hRs]; omega)
    rw [List.reverse_reverse] at hq
    refine k_run hq hV (fun α' k2 ce q9 H1 locs1 z1 z2 z3 z4 z5 z6 z7 => ?_) (fun α' vo2 wo H1 locs1 z1 z2 z3 z4 z5 => by cases z2)
    cases z2
    refine vx_out (fun x hx => (hout x hx).elim) C.2.2.2.2.2.1 z5 z6 z7 (fun t ht hal => ⟨⟨α', k, List.IsPrefix.trans hp z1, rfl, rfl, by rw [ht]; exact z3.moved hal⟩, z4.F ht⟩) z4.2.2 (by dsimp only; omega) (by dsimp only; omega)
  · cases h
/-- PreS for a callee -/
theorem k_pre_s {α : List Nat} {H : Heap} {locs : List Loc} {args1 av : List Value} {hs : kHS} (C : kCx E XX σ zs p l e R s m args below meth c α0 cc nL nc0 ns0 res own ws) (hp : α0 <+: α) (hR : kRep E s α hs.1 H) (hV : va_S (fun q => kb E ≤ q) s.heap H locs) (ha : kvS α args1 = some av) : PreS s H (kPc E XX σ zs α args1 hs) av := by
  refine ⟨kPc_blind C.2.2.2.2.2.2.2.1, fun U hU hW => ⟨⟨av, ha, rfl⟩, by rw [hU]; exact hR.moved hW.alike, kKK.moved C.2.2.2.2.2.2.2.1 C.2.2.2.2.2.2.1 hW (by rw [hU]; exact hV.1) (fun q hq => ?_), List.IsPrefix.trans C.2.2.2.2.2.2.2.2.1 hp⟩⟩
  rw [hU]
  exact hV.2.1 q (Nat.lt_of_lt_of_le hq C.2.2.2.2.2.2.1.1.2.2) (by omega)
theorem ok_callS {cl : kCall} {mi n d maxL ix : Nat} {y : MethodName} {bytes : ByteArray} {ret : Option FieldType} {wy wy' : List Cond} (C : kCx E XX σ zs p l e R s m args below meth c α0 cc nL nc0 ns0 res own ws) (hout : ∀ x ∈ c.exceptionTable.toList, False) (hf : d + 9 ≤ R.frames) (hlo : 40 * d + 190 ≤ R.locals) (hM : ∀ args1 hs r, cl mi args1 hs = some r → kMet E XX σ zs l y wy d args1 hs r) (hw : wy = Cond.code y bytes maxL ret :: wy') (hG : GoodIn ws (va_wsS own ix y wy)) (hml : maxL ≤ 21) (hdn : y.cls ≠ "java/lang/invoke/MethodHandle" ∧ y.cls ≠ "java/lang/invoke/VarHandle" ∧ (parseMethodDescriptor y.desc).map (fun d => d.parameters.length) = some n) (hd : decode cc pc = .ok (.invokestatic ix, 3)) : kOK E p l e R s m args below meth c α0 nL nc0 ns0 res pc (kTo (pc + 3)) (oCall cl mi n) := by
  intro fs r h
  refine ok_call C hout (G := fun _ => True) (fun fs r _ hcl => ?_) fs r trivial h
  obtain ⟨m1, m2, hme⟩ := hM _ _ _ hcl
  refine ⟨⟨m1, m2⟩, fun α H locs ls av rest cells slots hp hR hV ha hn hls hsy hc1 hc2 => ?_⟩
  exact vx_runS (As := av) (rest := rest) ⟨C.1, C.2.1, C.2.2.1, C.2.2.2.1, C.2.2.2.2.1⟩ (hme α) (va_cwS n C.2.2.2.2.1 hG hw rfl rfl hdn ⟨by show d + 8 + 1 ≤ _; omega, by show 8 + (maxL + 11) + (40 * d + 150) ≤ _; omega⟩) (k_pre_s C hp hR hV ha) rfl ((kvS_len ha).trans hn) hls rfl (lv_room hsy) hd ⟨hc1, hc2⟩
/-- a private static method of a nest mate -/
theorem ok_callSN {cl : kCall} {mi n d maxL ix : Nat} {y : MethodName} {bytes : ByteArray} {ret : Option FieldType} {wy wy' : List Cond} {host : String} (C : kCx E XX σ zs p l e R s m args below meth c α0 cc nL nc0 ns0 res own ws) (hout : ∀ x ∈ c.exceptionTable.toList, False) (hf : d + 9 ≤ R.frames) (hlo : 40 * d + 190 ≤ R.locals) (hM : ∀ args1 hs r, cl mi args1 hs = some r → kMet E XX σ zs l y wy d args1 hs r) (hw : wy = Cond.code y bytes maxL ret :: wy') (hG : GoodIn ws wy) (hst : Cond.static y ∈ ws) (hini : Cond.initialized y.cls ∈ ws) (hl : va_Nw (.methodLinkNest own ix y host) s) (hml : maxL ≤ 21) (hdn : y.cls ≠ "java/lang/invoke/MethodHandle" ∧ y.cls ≠ "java/lang/invoke/VarHandle" ∧ (parseMethodDescriptor y.desc).map (fun d => d.parameters.length) = some n) (hd : decode cc pc = .ok (.invokestatic ix, 3)) : kOK E p l e R s m args below meth c α0 nL nc0 ns0 res pc (kTo (pc + 3)) (oCall cl mi n) := by
  intro fs r h
  refine ok_call C hout (G := fun _ => True) (fun fs r _ hcl => ?_) fs r trivial h
  obtain ⟨m1, m2, hme⟩ := hM _ _ _ hcl
  refine ⟨⟨m1, m2⟩, fun α H locs ls av rest cells slots hp hR hV ha hn hls hsy hc1 hc2 => ?_⟩
  exact vx_runSN (As := av) (rest := rest) ⟨C.1, C.2.1, C.2.2.1, C.2.2.2.1, C.2.2.2.2.1⟩ (hme α) ⟨va_cnB n C.2.2.2.2.1 hG hw rfl rfl hl (C.2.2.2.2.1 _ hini) hdn ⟨by show d + 8 + 1 ≤ _; omega, by show 8 + (maxL + 11) + (40 * d + 150) ≤ _; omega⟩, C.2.2.2.2.1 _ hst, trivial⟩ (k_pre_s C hp hR hV ha) rfl ((kvS_len ha).trans hn) hls rfl (lv_room hsy) hd ⟨hc1, hc2⟩
/-- a constructor -/
theorem ok_callI {cl : kCall} {mi n d maxL ix : Nat} {y : MethodName} {bytes : ByteArray} {wy wy' : List Cond} (C : kCx E XX σ zs p l e R s m args below meth c α0 cc nL nc0 ns0 res own ws) (hout : ∀ x ∈ c.exceptionTable.toList, False) (hf : d + 9 ≤ R.frames) (hlo : 40 * d + 190 ≤ R.locals) (hM : ∀ args1 hs r, cl mi args1 hs = some r → kMet E XX σ zs l y wy d args1 hs r) (hw : wy = Cond.code y bytes maxL none :: wy') (hG : GoodIn ws wy) (hini : Cond.initialized y.cls ∈ ws) (hl : Cond.methodLink own ix y ∈ ws) (hin : Cond.instanceMethod y ∈ ws) (hy1 : y.name = "<init>") (hml : maxL ≤ 21) (hdn : y.cls ≠ "java/lang/invoke/MethodHandle" ∧ y.cls ≠ "java/lang/invoke/VarHandle" ∧ (parseMethodDescriptor y.desc).map (fun d => d.parameters.length) = some n) (hd : decode cc pc = .ok (.invokespecial ix, 3)) : kOK E p l e R s m args below meth c α0 nL nc0 ns0 res pc (kTo (pc + 3)) (oCallI cl mi n) := by
  intro fs r h
  unfold oCallI at h
  split at h
  · rename_i a S1 hS
    refine ok_call C hout (G := fun fs => ∃ a S1, fs.2.1.drop n = .ref a :: S1) (fun fs r hg hcl => ?_) fs r ⟨a, S1, hS⟩ h
    obtain ⟨a, S1, hS⟩ := hg
    obtain ⟨m1, m2, hme⟩ := hM _ _ _ hcl
    refine ⟨⟨m1, m2⟩, fun α H locs ls av rest cells slots hp hR hV ha hn hls hsy hc1 hc2 => ?_⟩
    have e0 : (fs.2.1.take (n + 1)).reverse = .ref a :: (fs.2.1.take n).reverse := by
      rw [List.take_add, hS, List.reverse_append]
      rfl
    rw [e0] at ha hn
    obtain ⟨b, av', rfl, hb, hav⟩ := kvS_ref ha
    rw [List.reverse_cons, List.append_assoc]
    exact vx_runI (b := b) (As := av') (rest := rest) ⟨C.1, C.2.1, C.2.2.1, C.2.2.2.1, C.2.2.2.2.1⟩ (hme α) (cwI n C.2.2.2.2.1 hG hw rfl rfl (C.2.2.2.2.1 _ hini) (C.2.2.2.2.1 _ hl) (C.2.2.2.2.1 _ hin) hy1 hdn ⟨by show d + 8 + 1 ≤ _; omega, by show 8 + (maxL + 11) + (40 * d + 150) ≤ _; omega⟩) (by rw [e0]; exact k_pre_s C hp hR hV ha) rfl (by have h1 := kvS_len hav; have h2 : (List.take n fs.2.1).reverse.length + 1 = n + 1 := hn; omega) hls rfl (lv_room hsy) hd ⟨hc1, hc2⟩
  · cases h
/-- a method of an object whose class is the method's -/
theorem ok_callV {cl : kCall} {mi n d maxL ix ci nS : Nat} {y : MethodName} {bytes : ByteArray} {ret : Option FieldType} {wy wy' : List Cond} {r0 : vw_C} (C : kCx E XX σ zs p l e R s m args below meth c α0 cc nL nc0 ns0 res own ws) (hnS : kn E = nS) (hout : ∀ x ∈ c.exceptionTable.toList, False) (hf : d + 9 ≤ R.frames) (hlo : 40 * d + 190 ≤ R.locals) (hM : ∀ args1 hs r, cl mi args1 hs = some r → kMet E XX σ zs l y wy d args1 hs r) (hw : wy = Cond.code y bytes maxL ret :: wy') (hc : (kcl E)[ci]? = some r0) (hG : GoodIn ws (wsV own ix r0.1 y wy)) (hml : maxL ≤ 21) (hdn : y.cls = r0.1 ∧ y.cls ≠ "java/lang/invoke/MethodHandle" ∧ y.cls ≠ "java/lang/invoke/VarHandle" ∧ (parseMethodDescriptor y.desc).map (fun d => d.parameters.length) = some n) (hd : decode cc pc = .ok (.invokevirtual ix, 3)) : kOK E p l e R s m args below meth c α0 nL nc0 ns0 res pc (kTo (pc + 3)) (oCallV cl mi n ci nS) := by
  intro fs r h
  unfold oCallV at h
  split at h
  · rename_i a S1 hS
    split at h
    · rename_i q hq
      cases hb : Nat.beq q.1 ci with
      | false => rw [hb] at h; cases h
      | true =>
      rw [hb] at h
      refine ok_call C hout (G := fun fs => ∃ a S1 q, fs.2.1.drop n = .ref a :: S1 ∧ kcell nS fs.2.2.1 a = some q ∧ q.1 = ci) (fun fs r hg hcl => ?_) fs r ⟨a, S1, q, hS, hq, Nat.eq_of_beq_eq_true hb⟩ h
      obtain ⟨a, S1, q, hS, hq, hqc⟩ := hg
      obtain ⟨m1, m2, hme⟩ := hM _ _ _ hcl
      refine ⟨⟨m1, m2⟩, fun α H locs ls av rest cells slots hp hR hV ha hn hls hsy hc1 hc2 => ?_⟩
      have e0 : (fs.2.1.take (n + 1)).reverse = .ref a :: (fs.2.1.take n).reverse := by
        rw [List.take_add, hS, List.reverse_append]
        rfl
      have hpre := k_pre_s C hp hR hV ha
      rw [e0] at ha hn
      obtain ⟨b, av', rfl, hb, hav⟩ := kvS_ref ha
      rw [List.reverse_cons, List.append_assoc]
      obtain ⟨g1, g2⟩ := kcell_spec hq
      subst hnS
      obtain ⟨hb0, cell, q1, q3, q4⟩ := hR.at g1 g2 hb
      rw [hqc] at q4
      rcases q4 with ⟨rr, e1, e2, e3, e4⟩ | ⟨e1, -⟩
      · have hKn := C.2.2.2.2.2.2.1.2.1 ci _ hc
        exact vx_runV (b := b) (As := av') (rest := rest) ⟨C.1, C.2.1, C.2.2.1, C.2.2.2.1, C.2.2.2.2.1⟩ (hme α) (cwV n C.2.2.2.2.1 hG hw rfl rfl hdn ⟨by show d + 8 + 1 ≤ _; omega, by show 8 + (maxL + 11) + (40 * d + 150) ≤ _; omega⟩) ⟨hpre.1, ⟨cell, q1, by rw [q3]; rfl, by rw [e2]; exact hKn.2.1⟩, hpre.2⟩ rfl (by have h1 := kvS_len hav; have h2 : (List.take n fs.2.1).reverse.length + 1 = n + 1 := hn; omega) hls rfl (lv_room hsy) hd ⟨hc1, hc2⟩
      · exact absurd (k_classlt C hc) (by omega)
    · cases h
  · cases h
end KCALL
end
section
/-! ===== blocks, runs, methods ===== -/
def kseq : List kOp → Nat → kFS → Option ((Nat × kFS) ⊕ kRes)
  | [], b, fs => some (.inl (b, fs))
  | o :: os, _, fs => match o fs with
    | some (.inl q) => kseq os q.1 q.2
    | some (.inr r) => some (.inr r)
    | none => none
def krun (bl : List (List kOp)) : Nat → Nat → kFS → Option kRes
  | 0 => fun _ _ => none
  | n + 1 => fun b fs => match bl[b]? with
    | none => none
    | some ops => match kseq ops 0 fs with
      | some (.inl q) => krun bl n q.1 q.2
      | some (.inr r) => some r
      | none => none
def ksz : List Value → Nat
  | [] => 0
  | v :: vs => v.category + ksz vs
/-- the methods: M gives a method's blocks, ML its places for locals; depth first, F blocks a run at most -/
def kcall (M : kCall → Nat → List (List kOp)) (ML : Nat → Nat) (F : Nat) : Nat → kCall
  | 0 => fun _ _ _ => none
  | d + 1 => fun mi args hs => bif Nat.ble (ksz args) (ML mi) then (match krun (M (kcall M ML F d) mi) F 0 (lv_args 0 args, [], hs) with
    | some r => bif Nat.ble hs.2.1 r.2.2.1 && Nat.ble hs.2.2 r.2.2.2 then some r else none
    | none => none) else none
theorem ksz_sl : ∀ vs : List Value, (lg_sl vs).length = ksz vs
  | [] => rfl
  | v :: vs => by
    have h := ksz_sl vs
    unfold lg_sl at h ⊢
    rw [List.flatMap_cons, List.length_append, h]
    rw [show ksz (v :: vs) = v.category + ksz vs from rfl]
    rcases lv_cat v with h1 | h1 <;> simp [h1]
theorem ksz_cv {α : List Nat} : ∀ {vs ws : List Value}, kvS α vs = some ws → ksz ws = ksz vs
  | [], ws, h => by cases h; rfl
  | v :: vs, ws, h => by
    obtain ⟨w, ws', rfl, h1, h2⟩ := kvS_cons h
    rw [show ksz (v :: vs) = v.category + ksz vs from rfl, show ksz (w :: ws') = w.category + ksz ws' from rfl, kv_cat h1, ksz_cv h2]
theorem kvL_args {α : List Nat} : ∀ {vs ws : List Value} (i : Nat), kvS α vs = some ws → kvL α (lv_args i vs) = some (lv_args i ws)
  | [], ws, i, h => by cases h; rfl
  | v :: vs, ws, i, h => by
    obtain ⟨w, ws', rfl, h1, h2⟩ := kvS_cons h
    unfold lv_args
    rw [kv_cat h1]
    exact kvL_mk h1 (kvL_args _ h2)
section KRUN
variable {p : Program} {l : Launch} {e : Env} {R : Room} {s : State} {m : MethodId} {args : Array Value} {below : List Frame} {meth : Method} {c : Code}
variable {E : kE} {XX : State → Prop} {σ α0 : List Nat} {cc : ByteArray} {nL nc0 ns0 : Nat} {res : kRes} {pc pc' : Nat} {own : String} {ws : List Cond} {zs : List (String × String × Nat)}
def kChain (E : kE) (p : Program) (l : Launch) (e : Env) (R : Room) (s : State) (m : MethodId) (args : Array Value) (below : List Frame) (meth : Method) (c : Code) (α0 : List Nat) (nL nc0 ns0 : Nat) (res : kRes) (pcs : Nat → Nat) : Nat → List kOp → Prop
  | _, [] => False
  | pc, o :: os => (os = [] ∧ kOK E p l e R s m args below meth c α0 nL nc0 ns0 res pc pcs o) ∨ (os ≠ [] ∧ ∃ pc', kOK E p l e R s m args below meth c α0 nL nc0 ns0 res pc (kTo pc') o ∧ kChain E p l e R s m args below meth c α0 nL nc0 ns0 res pcs pc' os)
theorem ch_last {pcs : Nat → Nat} {o : kOp} (h : kOK E p l e R s m args below meth c α0 nL nc0 ns0 res pc pcs o) : kChain E p l e R s m args below meth c α0 nL nc0 ns0 res pcs pc [o] := Or.inl ⟨rfl, h⟩
theorem ch_cons {pcs : Nat → Nat} {o o2 : kOp} {os : List kOp} (h : kOK E p l e R s m args below meth c α0 nL nc0 ns0 res pc (kTo pc') o) (t : kChain E p l e R s m args below meth c α0 nL nc0 ns0 res pcs pc' (o2 :: os)) : kChain E p l e R s m args below meth c α0 nL nc0 ns0 res pcs pc (o :: o2 :: os) := Or.inr ⟨by simp, pc', h, t⟩
theorem chain_ok {pcs : Nat → Nat} : ∀ (os : List kOp) (pc b0 : Nat), kChain E p l e R s m args below meth c α0 nL nc0 ns0 res pcs pc os → kOK E p l e R s m args below meth c α0 nL nc0 ns0 res pc pcs (kseq os b0)
  | [], pc, b0, h => h.elim
  | o :: os, pc, b0, h => by
    intro fs r hr
    unfold kseq at hr
    rcases h with ⟨rfl, h⟩ | ⟨hne, pc', h, ht⟩
    · split at hr
      · rename_i q hq
        unfold kseq at hr
        cases hr
        exact h fs _ hq
      · rename_i q hq
        cases hr
        exact h fs _ hq
      · cases hr
    · split at hr
      · rename_i q hq
        obtain ⟨a1, a2, a3⟩ := h fs _ hq
        have h2 := chain_ok os pc' q.1 ht q.2 r hr
        cases r with
        | inl q2 =>
          obtain ⟨b1, b2, b3⟩ := h2
          exact ⟨Nat.le_trans a1 b1, Nat.le_trans a2 b2, fun c1 c2 k => a3 (Nat.le_trans b1 c1) (Nat.le_trans b2 c2) (b3 c1 c2 k)⟩
        | inr q2 =>
          obtain ⟨b1, b2, b3⟩ := h2
          refine ⟨Nat.le_trans a1 b1, Nat.le_trans a2 b2, fun hq2 => ?_⟩
          subst hq2
          exact a3 b1 b2 (b3 rfl)
      · rename_i q hq
        cases hr
        exact h fs _ hq
      · cases hr
theorem run_ok {pcs : Nat → Nat} {bl : List (List kOp)} (hch : ∀ (b : Nat) (ops : List kOp), bl[b]? = some ops → kChain E p l e R s m args below meth c α0 nL nc0 ns0 res pcs (pcs b) ops) : ∀ (n b : Nat) (fs : kFS), krun bl n b fs = some res → (fs.2.2.2.1 ≤ res.2.2.1 ∧ fs.2.2.2.2 ≤ res.2.2.2) ∧ kW E p l e R s m args below meth c α0 nL nc0 ns0 (kQ E below args s α0 nc0 ns0 res) (pcs b) fs
  | 0, b, fs, h => by cases h
  | n + 1, b, fs, h => by
    unfold krun at h
    split at h
    · cases h
    · rename_i ops hops
      have h1 := chain_ok ops (pcs b) 0 (hch b ops hops)
      split at h
      · rename_i q hq
        obtain ⟨a1, a2, a3⟩ := h1 fs _ hq
        obtain ⟨⟨b1, b2⟩, b3⟩ := run_ok hch n q.1 q.2 h
        exact ⟨⟨Nat.le_trans a1 b1, Nat.le_trans a2 b2⟩, a3 b1 b2 b3⟩
      · rename_i q hq
        cases h
        obtain ⟨a1, a2, a3⟩ := h1 fs _ hq
        exact ⟨⟨a1, a2⟩, a3 rfl⟩
      · cases h
end KRUN
/-- the blocks of a method are right, where the methods that it calls are right one level below -/
def kMOK (E : kE) (XX : State → Prop) (σ : List Nat) (zs : List (String × String × Nat)) (l : Launch) (Y : Nat → MethodName) (WS : Nat → List Cond) (y : MethodName) (ws : List Cond) (cc : ByteArray) (maxL : Nat) (ret : Option FieldType) (bl : kCall → List (List kOp)) : Prop :=
  ∀ (d : Nat) (cl : kCall), kSnd E XX σ zs l Y WS d cl → ∀ (p : Program) (e : Env) (R : Room) (s : State) (m : MethodId) (args : Array Value) (below : List Frame) (meth : Method) (c : Code) (α0 : List Nat) (nc0 ns0 : Nat) (res : kRes), kCx E XX σ zs p l e R s m args below meth c α0 cc maxL nc0 ns0 res y.cls ws → d + 9 ≤ R.frames → 40 * d + 190 ≤ R.locals → meth.sig.returnType = ret → meth.name = y.name → (∀ x ∈ c.exceptionTable.toList, False) →
    ∃ pcs : Nat → Nat, pcs 0 = 0 ∧ ∀ (b : Nat) (ops : List kOp), (bl cl)[b]? = some ops → kChain E p l e R s m args below meth c α0 maxL nc0 ns0 res pcs (pcs b) ops
theorem met_of {E : kE} {XX : State → Prop} {σ : List Nat} {zs : List (String × String × Nat)} {l : Launch} {Y : Nat → MethodName} {WS : Nat → List Cond} {y : MethodName} {ws ws' : List Cond} {cc : ByteArray} {maxL d F : Nat} {ret : Option FieldType} {bl : kCall → List (List kOp)} {cl : kCall} {args1 : List Value} {hs : kHS} {res : kRes} (hst : kStab (kb E) XX) (hfl : l.stackTraces = false) (hy : plainName y.cls = true) (hw : ws = Cond.code y cc maxL ret :: ws') (hm : kMOK E XX σ zs l Y WS y ws cc maxL ret bl) (hS : kSnd E XX σ zs l Y WS d cl) (hz : ksz args1 ≤ maxL) (hr : krun (bl cl) F 0 (lv_args 0 args1, [], hs) = some res) (h1 : hs.2.1 ≤ res.2.2.1) (h2 : hs.2.2 ≤ res.2.2.2) : kMet E XX σ zs l y ws (d + 1) args1 hs res := by
  refine ⟨h1, h2, fun α0 => ?_⟩
  refine vx_ofW (cc := cc) (maxL := maxL) (ret := ret) hy hw ?_
  intro p e s m args below meth c s₁ B hml ht hP
  obtain ⟨⟨av, hav, rfl⟩, hR, hKK, hσ⟩ := hP
  have C : kCx E XX σ zs p l e (headSpec ws ({ frames := d + 1 + 8, cells := res.2.2.1 - hs.2.1, slots := res.2.2.2 - hs.2.2, locals := 40 * (d + 1) + 150 })).room s m av.toArray below meth c α0 cc maxL hs.2.1 hs.2.2 res y.cls ws := ⟨B.exec, B.bytes, hml, findClass_of_methodNamed B.named, atoms_spec (ws := ws) B.pre, B.notSynchronized, hKK, hst, hσ, hfl, rfl, rfl, (by show 8 ≤ d + 1 + 8; omega), (by show 150 ≤ 40 * (d + 1) + 150; omega)⟩
  obtain ⟨pcs, hp0, hch⟩ := hm d cl hS p e _ s m av.toArray below meth c α0 hs.2.1 hs.2.2 res C (by show d + 9 ≤ d + 1 + 8; omega) (by show 40 * d + 190 ≤ 40 * (d + 1) + 150; omega) B.returns (name_of_methodNamed B.named B.method).1 ht
  obtain ⟨-, k⟩ := run_ok hch F 0 _ hr
  have hl := lv_entry av (n := maxL) (by rw [ksz_sl, ksz_cv hav]; exact hz)
  rw [lg_entry_eq]
  have k2 := k α0 s.heap [] _ _ [] (List.prefix_refl _) hR va_S.rf (kvL_args 0 hav) hl rfl (Nat.le_refl _) (Nat.le_refl _)
  dsimp only at k2
  rw [Nat.sub_self, Nat.sub_self, hp0] at k2
  exact k2
/-- all methods at once -/
theorem kcall_ok {E : kE} {XX : State → Prop} {σ : List Nat} {zs : List (String × String × Nat)} {l : Launch} {Y : Nat → MethodName} {WS : Nat → List Cond} {CC : Nat → ByteArray} {ML : Nat → Nat} {RT : Nat → Option FieldType} {M : kCall → Nat → List (List kOp)} {F : Nat} {G : List Cond} (hst : kStab (kb E) XX) (hfl : l.stackTraces = false) (hy : ∀ mi, plainName (Y mi).cls = true) (hw : ∀ mi, WS mi = Cond.code (Y mi) (CC mi) (ML mi) (RT mi) :: G) (hm : ∀ mi, kMOK E XX σ zs l Y WS (Y mi) (WS mi) (CC mi) (ML mi) (RT mi) (fun cl => M cl mi)) : ∀ d, kSnd E XX σ zs l Y WS d (kcall M ML F d)
  | 0 => fun mi args hs r h => by cases h
  | d + 1 => fun mi args hs r h => by
    have ih := kcall_ok (F := F) hst hfl hy hw hm d
    unfold kcall at h
    cases hb : Nat.ble (ksz args) (ML mi) with
    | false => rw [hb] at h; cases h
    | true =>
    rw [hb] at h
    simp only [cond_true] at h
    split at h
    · rename_i r1 hr1
      cases hb2 : (Nat.ble hs.2.1 r1.2.2.1 && Nat.ble hs.2.2 r1.2.2.2) with
      | false => rw [hb2] at h; cases h
      | true =>
      rw [hb2] at h
      cases h
      simp only [Bool.and_eq_true] at hb2
      exact met_of hst hfl (hy mi) (hw mi) (hm mi) ih (Nat.le_of_ble_eq_true hb) hr1 (Nat.le_of_ble_eq_true hb2.1) (Nat.le_of_ble_eq_true hb2.2)
    · cases h
end
