/-! ===== the classes, the tables of ints, the methods; the words that are used ===== -/
def kCl : List vw_C := [(RJ6, TJ6, 1), (RJx35411, TJx35411, 4), (RJx4a65c, TJx4a65c, 3), (RX0, TX0, 10), (RX1, TX1, 5), (RX4, TX4, 6), (RX6, TX6, 2), (RX8, TX8, 6), (RX9, TX9, 11), (RX10, TX10, 5), (RX11, TX11, 6), (RX12, TX12, 11)]
theorem kcl_at {E : kE} (hE : kcl E = kCl) (i : Nat) {r : vw_C} (h : kCl[i]? = some r) : (kcl E)[i]? = some r := by rw [hE]; exact h
def kZs : List (String × String × Nat) := [("Bijectory", "STEP_FROM", 0), ("Bijectory", "STEP_TO", 1), ("Bijectory", "PATH_COUNTS", 2), ("Bijectory", "ORDER_COUNTS", 3), ("Bijectory", "TENS", 4), ("BijectoryModel", "FROM", 5), ("BijectoryModel", "TO", 6)]
theorem zin_0 : ("Bijectory", "STEP_FROM", 0) ∈ kZs := List.mem_of_getElem? (i := 0) rfl
theorem zin_1 : ("Bijectory", "STEP_TO", 1) ∈ kZs := List.mem_of_getElem? (i := 1) rfl
theorem zin_2 : ("Bijectory", "PATH_COUNTS", 2) ∈ kZs := List.mem_of_getElem? (i := 2) rfl
theorem zin_3 : ("Bijectory", "ORDER_COUNTS", 3) ∈ kZs := List.mem_of_getElem? (i := 3) rfl
theorem zin_4 : ("Bijectory", "TENS", 4) ∈ kZs := List.mem_of_getElem? (i := 4) rfl
theorem zin_5 : ("BijectoryModel", "FROM", 5) ∈ kZs := List.mem_of_getElem? (i := 5) rfl
theorem zin_6 : ("BijectoryModel", "TO", 6) ∈ kZs := List.mem_of_getElem? (i := 6) rfl
def kYs : List MethodName := [yX5_at, yX5_at_, yX5_put, yX5_put_, yX3_isPath, yX3_isUp, yX3_rise, yX3_part, yX3_pairsOfFirst, yX3_pairsOfLast, yX3_graft, yX3_backward, yX3_roll, yX3_valueOf, yX3_peaks, yX3_returns, yX3_greatestHeight, yX3_area, yX2_isOrder, yX2_at, yX2_ofRank, yX2_freeNumber, yX2_shape, yX2_invert, yX2_turn, yX2_sort, yX2_valueOf, yX2_drops, yX2_inversions, yX2_records, yX2_unmoved, yX2_timesContained, yX2_chosen, yX2_patternOf, yX7_node, yX7_leftOf, yX7_rightOf, yX7_mirror, yX7_label, yX7_valueOf, yJ6_bitCount_0f7a4, yX4_init, yX4_of, yX4_listPaths, yX4_listOrders, yX4_listImages, yX4_listValues, yX4_imageCode, yX4_valueByCode, yX4_codes, yX4_count, yX4_codeOf, yX4_rankOf, yX4_through, yX4_valueOf, yX4_countOf, yX4_isInOrderBehind, yX0_init, yX0_append, yX0_stepAt, yX0_isMove, yX6_init, yX6_take, yX6_countDistinct, yX6_countUnmoved, yX6_followRounds, yX6_roundLength, yX6_commonMultiple, yX6_forget, yX6_meet, yX8_init, yX8_go, yX1_init, yX1_note, yX9_init, yX9_size, yX9_map, yX9_then, yX9_walker, yX9_claim, yX9_send, yX9_trial, yX9_objects, yX9_unrank, yX9_rank, yX9_statistic, yX9_spread, yX9_signs, yX9_alike, yX9_contains, yX9_sorted, yX9_ofMap, yX9_image, yX9_source, yX9_rounds, yX9_period, yX9_against, yX9_cancels, yX9_ofWalker, yX9_ofClaim, yX9_many, yX9_mean, yX9_digest, yX9_digestOfObjects, yX9_digestOfMap, yX9_needStep, yX9_needFamily, yX9_needStatistic, yX9_needRank, yX9_chartAt, yX9_walkerAt, yX9_claimAt, yX9_signOf, yX9_patternLength, yX9_tryClaim, yX9_firstAgainst, yX9_isPairedOff, yX9_refutedClaims]
def kCCs : List ByteArray := [cX5_at, cX5_at_, cX5_put, cX5_put_, cX3_isPath, cX3_isUp, cX3_rise, cX3_part, cX3_pairsOfFirst, cX3_pairsOfLast, cX3_graft, cX3_backward, cX3_roll, cX3_valueOf, cX3_peaks, cX3_returns, cX3_greatestHeight, cX3_area, cX2_isOrder, cX2_at, cX2_ofRank, cX2_freeNumber, cX2_shape, cX2_invert, cX2_turn, cX2_sort, cX2_valueOf, cX2_drops, cX2_inversions, cX2_records, cX2_unmoved, cX2_timesContained, cX2_chosen, cX2_patternOf, cX7_node, cX7_leftOf, cX7_rightOf, cX7_mirror, cX7_label, cX7_valueOf, cJ6_bitCount_0f7a4, cX4_init, cX4_of, cX4_listPaths, cX4_listOrders, cX4_listImages, cX4_listValues, cX4_imageCode, cX4_valueByCode, cX4_codes, cX4_count, cX4_codeOf, cX4_rankOf, cX4_through, cX4_valueOf, cX4_countOf, cX4_isInOrderBehind, cX0_init, cX0_append, cX0_stepAt, cX0_isMove, cX6_init, cX6_take, cX6_countDistinct, cX6_countUnmoved, cX6_followRounds, cX6_roundLength, cX6_commonMultiple, cX6_forget, cX6_meet, cX8_init, cX8_go, cX1_init, cX1_note, cX9_init, cX9_size, cX9_map, cX9_then, cX9_walker, cX9_claim, cX9_send, cX9_trial, cX9_objects, cX9_unrank, cX9_rank, cX9_statistic, cX9_spread, cX9_signs, cX9_alike, cX9_contains, cX9_sorted, cX9_ofMap, cX9_image, cX9_source, cX9_rounds, cX9_period, cX9_against, cX9_cancels, cX9_ofWalker, cX9_ofClaim, cX9_many, cX9_mean, cX9_digest, cX9_digestOfObjects, cX9_digestOfMap, cX9_needStep, cX9_needFamily, cX9_needStatistic, cX9_needRank, cX9_chartAt, cX9_walkerAt, cX9_claimAt, cX9_signOf, cX9_patternLength, cX9_tryClaim, cX9_firstAgainst, cX9_isPairedOff, cX9_refutedClaims]
def kMLs : List Nat := [2, 4, 3, 5, 4, 2, 2, 3, 4, 4, 6, 4, 6, 3, 4, 5, 5, 5, 6, 5, 8, 5, 7, 4, 5, 6, 3, 4, 5, 6, 4, 6, 5, 6, 4, 3, 2, 6, 7, 7, 1, 4, 4, 3, 2, 5, 6, 3, 4, 2, 2, 3, 6, 5, 4, 4, 5, 2, 2, 2, 1, 2, 5, 4, 4, 5, 5, 4, 2, 2, 3, 3, 4, 3, 1, 4, 2, 4, 4, 6, 7, 3, 2, 3, 3, 4, 4, 5, 6, 4, 4, 4, 4, 5, 3, 3, 5, 5, 4, 4, 2, 5, 5, 7, 7, 1, 1, 1, 3, 3, 3, 3, 1, 2, 4, 6, 6, 3]
def kRTs : List (Option FieldType) := [(some .int), (some .int), none, none, (some .boolean), (some .boolean), (some .int), (some .int), (some .int), (some .int), (some .int), (some .int), (some .int), (some .int), (some .int), (some .int), (some .int), (some .int), (some .boolean), (some .int), (some .int), (some .int), (some .int), (some .int), (some .int), (some .int), (some .int), (some .int), (some .int), (some .int), (some .int), (some .int), (some .int), (some .int), (some .int), (some .int), (some .int), (some .int), (some .int), (some .int), (some .int), none, (some (.object "Bijectory$Realm")), none, none, none, none, (some .int), (some .int), (some (.array .int)), (some .int), (some .int), (some .int), (some .int), (some .int), (some .int), (some .boolean), none, none, (some .int), (some .boolean), none, none, (some .int), (some .int), none, (some .int), (some .long), none, (some .boolean), none, none, none, none, none, (some .int), (some .int), (some .int), (some .int), (some .int), (some .int), (some .boolean), (some .int), (some .int), (some .int), (some .int), (some .int), (some .int), (some .boolean), (some .int), (some .int), (some .int), (some .int), (some .int), (some .int), (some .long), (some .int), (some .boolean), (some .int), (some .int), (some .int), (some .double), (some .long), (some .long), (some .long), none, none, none, none, (some (.object "Bijectory$Chart")), (some (.object "Bijectory$Walker")), (some (.object "Bijectory$Claim")), (some .int), (some .int), (some .boolean), (some .int), (some .boolean), (some .int)]
def kY (mi : Nat) : MethodName := (kYs[mi]?).getD yX5_at
def kCC (mi : Nat) : ByteArray := (kCCs[mi]?).getD cX5_at
def kML (mi : Nat) : Nat := (kMLs[mi]?).getD 0
def kRT (mi : Nat) : Option FieldType := (kRTs[mi]?).getD none
def kWS (mi : Nat) : List Cond := kws (kY mi) (kCC mi) (kML mi) (kRT mi)
theorem k_same {p : Program} {l : Launch} {e : Env} {R : Room} {s : State} {m : MethodId} {args : Array Value} {below : List Frame} {meth : Method} {c : Code} {E : kE} {XX : State → Prop} {σ α0 : List Nat} {cc : ByteArray} {nL nc0 ns0 : Nat} {res : kRes} {own : String} {ws : List Cond} {zs : List (String × String × Nat)} (C : kCx E XX σ zs p l e R s m args below meth c α0 cc nL nc0 ns0 res own ws) {ci : Nat} {r0 : vw_C} (hc : (kcl E)[ci]? = some r0) {comp : ClassId} (h : s.vm.findClass r0.1 = some comp) : s.vm.assignable (kdC E ci) comp = true := by
  have hK := (C.2.2.2.2.2.2.1.2.1 ci _ hc).2
  have e1 : comp = kdC E ci := Option.some.inj (h.symm.trans hK.1)
  subst e1
  exact va_assign hK
theorem inG_X9 : ∀ w ∈ wsX90, w ∈ kG := by decide +kernel
theorem inG_X0 : ∀ w ∈ wsX00, w ∈ kG := by decide +kernel
theorem inG_X1 : ∀ w ∈ wsX10, w ∈ kG := by decide +kernel
theorem inG_X4 : ∀ w ∈ wsX40, w ∈ kG := by decide +kernel
theorem inG_X6 : ∀ w ∈ wsX60, w ∈ kG := by decide +kernel
theorem inG_X8 : ∀ w ∈ wsX80, w ∈ kG := by decide +kernel
theorem gw_0 : (.code yX3_rise cX3_rise 2 (some .int) : Cond) ∈ kG := kG_of (by decide +kernel) rfl
theorem gw_1 : (.methodLink "Bijectory$Paths" 9 yX3_rise : Cond) ∈ kG := kG_of (by decide +kernel) rfl
theorem gw_2 : (.static yX3_rise : Cond) ∈ kG := kG_of (by decide +kernel) rfl
theorem gw_3 : (.initialized "Bijectory$Paths" : Cond) ∈ kG := kG_of (by decide +kernel) rfl
theorem gw_4 : (.code yX3_pairsOfLast cX3_pairsOfLast 4 (some .int) : Cond) ∈ kG := kG_of (by decide +kernel) rfl
theorem gw_5 : (.methodLink "Bijectory$Paths" 15 yX3_pairsOfLast : Cond) ∈ kG := kG_of (by decide +kernel) rfl
theorem gw_6 : (.static yX3_pairsOfLast : Cond) ∈ kG := kG_of (by decide +kernel) rfl
theorem gw_7 : (.code yX3_part cX3_part 3 (some .int) : Cond) ∈ kG := kG_of (by decide +kernel) rfl
theorem gw_8 : (.methodLink "Bijectory$Paths" 18 yX3_part : Cond) ∈ kG := kG_of (by decide +kernel) rfl
theorem gw_9 : (.static yX3_part : Cond) ∈ kG := kG_of (by decide +kernel) rfl
theorem gw_10 : (.code yX3_graft cX3_graft 6 (some .int) : Cond) ∈ kG := kG_of (by decide +kernel) rfl
theorem gw_11 : (.methodLink "Bijectory$Paths" 22 yX3_graft : Cond) ∈ kG := kG_of (by decide +kernel) rfl
theorem gw_12 : (.static yX3_graft : Cond) ∈ kG := kG_of (by decide +kernel) rfl
theorem gw_13 : (.code yX7_node cX7_node 4 (some .int) : Cond) ∈ kG := kG_of (by decide +kernel) rfl
theorem gw_14 : (.methodLink "Bijectory$Paths" 25 yX7_node : Cond) ∈ kG := kG_of (by decide +kernel) rfl
theorem gw_15 : (.static yX7_node : Cond) ∈ kG := kG_of (by decide +kernel) rfl
theorem gw_16 : (.initialized "Bijectory$Trees" : Cond) ∈ kG := kG_of (by decide +kernel) rfl
theorem gw_17 : (.code yX3_isUp cX3_isUp 2 (some .boolean) : Cond) ∈ kG := kG_of (by decide +kernel) rfl
theorem gw_18 : (.methodLink "Bijectory$Paths" 31 yX3_isUp : Cond) ∈ kG := kG_of (by decide +kernel) rfl
theorem gw_19 : (.static yX3_isUp : Cond) ∈ kG := kG_of (by decide +kernel) rfl
theorem gw_20 : (.code yX3_pairsOfFirst cX3_pairsOfFirst 4 (some .int) : Cond) ∈ kG := kG_of (by decide +kernel) rfl
theorem gw_21 : (.methodLink "Bijectory$Paths" 35 yX3_pairsOfFirst : Cond) ∈ kG := kG_of (by decide +kernel) rfl
theorem gw_22 : (.static yX3_pairsOfFirst : Cond) ∈ kG := kG_of (by decide +kernel) rfl
theorem gw_23 : (.code yX3_peaks cX3_peaks 4 (some .int) : Cond) ∈ kG := kG_of (by decide +kernel) rfl
theorem gw_24 : (.methodLink "Bijectory$Paths" 38 yX3_peaks : Cond) ∈ kG := kG_of (by decide +kernel) rfl
theorem gw_25 : (.static yX3_peaks : Cond) ∈ kG := kG_of (by decide +kernel) rfl
theorem gw_26 : (.code yX3_returns cX3_returns 5 (some .int) : Cond) ∈ kG := kG_of (by decide +kernel) rfl
theorem gw_27 : (.methodLink "Bijectory$Paths" 41 yX3_returns : Cond) ∈ kG := kG_of (by decide +kernel) rfl
theorem gw_28 : (.static yX3_returns : Cond) ∈ kG := kG_of (by decide +kernel) rfl
theorem gw_29 : (.code yX3_greatestHeight cX3_greatestHeight 5 (some .int) : Cond) ∈ kG := kG_of (by decide +kernel) rfl
theorem gw_30 : (.methodLink "Bijectory$Paths" 44 yX3_greatestHeight : Cond) ∈ kG := kG_of (by decide +kernel) rfl
theorem gw_31 : (.static yX3_greatestHeight : Cond) ∈ kG := kG_of (by decide +kernel) rfl
theorem gw_32 : (.code yX3_area cX3_area 5 (some .int) : Cond) ∈ kG := kG_of (by decide +kernel) rfl
theorem gw_33 : (.methodLink "Bijectory$Paths" 47 yX3_area : Cond) ∈ kG := kG_of (by decide +kernel) rfl
theorem gw_34 : (.static yX3_area : Cond) ∈ kG := kG_of (by decide +kernel) rfl
theorem gw_35 : (.methodLink "Bijectory$Paths" 50 Lib.Math.max.name : Cond) ∈ kG := kG_of (by decide +kernel) rfl
theorem gw_36 : (.static Lib.Math.max.name : Cond) ∈ kG := kG_of (by decide +kernel) rfl
theorem gw_37 : (.initialized "java/lang/Math" : Cond) ∈ kG := kG_of (by decide +kernel) rfl
theorem gw_38 : (.code Lib.Math.max.name Lib.Math.max.code 2 (some .int) : Cond) ∈ kG := kG_of (by decide +kernel) rfl
theorem gw_39 : (.code yX5_at cX5_at 2 (some .int) : Cond) ∈ kG := kG_of (by decide +kernel) rfl
theorem gw_40 : (.methodLink "Bijectory$Orders" 13 yX5_at : Cond) ∈ kG := kG_of (by decide +kernel) rfl
theorem gw_41 : (.static yX5_at : Cond) ∈ kG := kG_of (by decide +kernel) rfl
theorem gw_42 : (.initialized "Bijectory$Rows" : Cond) ∈ kG := kG_of (by decide +kernel) rfl
theorem gw_43 : (.code yX2_freeNumber cX2_freeNumber 5 (some .int) : Cond) ∈ kG := kG_of (by decide +kernel) rfl
theorem gw_44 : (.methodLink "Bijectory$Orders" 19 yX2_freeNumber : Cond) ∈ kG := kG_of (by decide +kernel) rfl
theorem gw_45 : (.static yX2_freeNumber : Cond) ∈ kG := kG_of (by decide +kernel) rfl
theorem gw_46 : (.initialized "Bijectory$Orders" : Cond) ∈ kG := kG_of (by decide +kernel) rfl
theorem gw_47 : (.code yX2_at cX2_at 5 (some .int) : Cond) ∈ kG := kG_of (by decide +kernel) rfl
theorem gw_48 : (.methodLink "Bijectory$Orders" 25 yX2_at : Cond) ∈ kG := kG_of (by decide +kernel) rfl
theorem gw_49 : (.static yX2_at : Cond) ∈ kG := kG_of (by decide +kernel) rfl
theorem gw_50 : (.code yX2_shape cX2_shape 7 (some .int) : Cond) ∈ kG := kG_of (by decide +kernel) rfl
theorem gw_51 : (.methodLink "Bijectory$Orders" 28 yX2_shape : Cond) ∈ kG := kG_of (by decide +kernel) rfl
theorem gw_52 : (.static yX2_shape : Cond) ∈ kG := kG_of (by decide +kernel) rfl
theorem gw_53 : (.methodLink "Bijectory$Orders" 32 yX7_node : Cond) ∈ kG := kG_of (by decide +kernel) rfl
theorem gw_54 : (.code yX2_drops cX2_drops 4 (some .int) : Cond) ∈ kG := kG_of (by decide +kernel) rfl
theorem gw_55 : (.methodLink "Bijectory$Orders" 40 yX2_drops : Cond) ∈ kG := kG_of (by decide +kernel) rfl
theorem gw_56 : (.static yX2_drops : Cond) ∈ kG := kG_of (by decide +kernel) rfl
theorem gw_57 : (.code yX2_inversions cX2_inversions 5 (some .int) : Cond) ∈ kG := kG_of (by decide +kernel) rfl
theorem gw_58 : (.methodLink "Bijectory$Orders" 43 yX2_inversions : Cond) ∈ kG := kG_of (by decide +kernel) rfl
theorem gw_59 : (.static yX2_inversions : Cond) ∈ kG := kG_of (by decide +kernel) rfl
theorem gw_60 : (.code yX2_records cX2_records 6 (some .int) : Cond) ∈ kG := kG_of (by decide +kernel) rfl
theorem gw_61 : (.methodLink "Bijectory$Orders" 46 yX2_records : Cond) ∈ kG := kG_of (by decide +kernel) rfl
theorem gw_62 : (.static yX2_records : Cond) ∈ kG := kG_of (by decide +kernel) rfl
theorem gw_63 : (.code yX2_unmoved cX2_unmoved 4 (some .int) : Cond) ∈ kG := kG_of (by decide +kernel) rfl
theorem gw_64 : (.methodLink "Bijectory$Orders" 49 yX2_unmoved : Cond) ∈ kG := kG_of (by decide +kernel) rfl
theorem gw_65 : (.static yX2_unmoved : Cond) ∈ kG := kG_of (by decide +kernel) rfl
theorem gw_66 : (.code yJ6_bitCount_0f7a4 cJ6_bitCount_0f7a4 1 (some .int) : Cond) ∈ kG := kG_of (by decide +kernel) rfl
theorem gw_67 : (.methodLink "Bijectory$Orders" 52 yJ6_bitCount_0f7a4 : Cond) ∈ kG := kG_of (by decide +kernel) rfl
theorem gw_68 : (.static yJ6_bitCount_0f7a4 : Cond) ∈ kG := kG_of (by decide +kernel) rfl
theorem gw_69 : (.initialized "java/lang/Integer" : Cond) ∈ kG := kG_of (by decide +kernel) rfl
theorem gw_70 : (.code yX2_chosen cX2_chosen 5 (some .int) : Cond) ∈ kG := kG_of (by decide +kernel) rfl
theorem gw_71 : (.methodLink "Bijectory$Orders" 58 yX2_chosen : Cond) ∈ kG := kG_of (by decide +kernel) rfl
theorem gw_72 : (.static yX2_chosen : Cond) ∈ kG := kG_of (by decide +kernel) rfl
theorem gw_73 : (.code yX2_patternOf cX2_patternOf 6 (some .int) : Cond) ∈ kG := kG_of (by decide +kernel) rfl
theorem gw_74 : (.methodLink "Bijectory$Orders" 61 yX2_patternOf : Cond) ∈ kG := kG_of (by decide +kernel) rfl
theorem gw_75 : (.static yX2_patternOf : Cond) ∈ kG := kG_of (by decide +kernel) rfl
theorem gw_76 : (.methodLink "Bijectory$Trees" 9 yX3_part : Cond) ∈ kG := kG_of (by decide +kernel) rfl
theorem gw_77 : (.methodLink "Bijectory$Trees" 15 yX3_pairsOfFirst : Cond) ∈ kG := kG_of (by decide +kernel) rfl
theorem gw_78 : (.code yX7_leftOf cX7_leftOf 3 (some .int) : Cond) ∈ kG := kG_of (by decide +kernel) rfl
theorem gw_79 : (.methodLink "Bijectory$Trees" 19 yX7_leftOf : Cond) ∈ kG := kG_of (by decide +kernel) rfl
theorem gw_80 : (.static yX7_leftOf : Cond) ∈ kG := kG_of (by decide +kernel) rfl
theorem gw_81 : (.code yX7_mirror cX7_mirror 6 (some .int) : Cond) ∈ kG := kG_of (by decide +kernel) rfl
theorem gw_82 : (.methodLink "Bijectory$Trees" 24 yX7_mirror : Cond) ∈ kG := kG_of (by decide +kernel) rfl
theorem gw_83 : (.static yX7_mirror : Cond) ∈ kG := kG_of (by decide +kernel) rfl
theorem gw_84 : (.code yX7_rightOf cX7_rightOf 2 (some .int) : Cond) ∈ kG := kG_of (by decide +kernel) rfl
theorem gw_85 : (.methodLink "Bijectory$Trees" 27 yX7_rightOf : Cond) ∈ kG := kG_of (by decide +kernel) rfl
theorem gw_86 : (.static yX7_rightOf : Cond) ∈ kG := kG_of (by decide +kernel) rfl
theorem gw_87 : (.methodLink "Bijectory$Trees" 30 yX7_node : Cond) ∈ kG := kG_of (by decide +kernel) rfl
theorem gw_88 : (.code yX7_label cX7_label 7 (some .int) : Cond) ∈ kG := kG_of (by decide +kernel) rfl
theorem gw_89 : (.methodLink "Bijectory$Trees" 34 yX7_label : Cond) ∈ kG := kG_of (by decide +kernel) rfl
theorem gw_90 : (.static yX7_label : Cond) ∈ kG := kG_of (by decide +kernel) rfl
theorem gw_91 : (.methodLink "Bijectory$Trees" 41 yX5_at : Cond) ∈ kG := kG_of (by decide +kernel) rfl
theorem gw_92 : (.code yX7_valueOf cX7_valueOf 7 (some .int) : Cond) ∈ kG := kG_of (by decide +kernel) rfl
theorem gw_93 : (.methodLink "Bijectory$Trees" 47 yX7_valueOf : Cond) ∈ kG := kG_of (by decide +kernel) rfl
theorem gw_94 : (.static yX7_valueOf : Cond) ∈ kG := kG_of (by decide +kernel) rfl
theorem gw_95 : (.methodLink "Bijectory$Trees" 50 Lib.Math.max.name : Cond) ∈ kG := kG_of (by decide +kernel) rfl
theorem gw_96 : (.constant "java/lang/Integer" 265 (1431655765) : Cond) ∈ kG := kG_of (by decide +kernel) rfl
theorem gw_97 : (.constant "java/lang/Integer" 266 (858993459) : Cond) ∈ kG := kG_of (by decide +kernel) rfl
theorem gw_98 : (.constant "java/lang/Integer" 267 (252645135) : Cond) ∈ kG := kG_of (by decide +kernel) rfl
theorem gw_99 : (.methodLink "Bijectory$Realm" 3 Lib.objectInit : Cond) ∈ kG := kG_of (by decide +kernel) rfl
theorem gw_100 : (.instanceMethod Lib.objectInit : Cond) ∈ kG := kG_of (by decide +kernel) rfl
theorem gw_101 : (.code Lib.objectInit ⟨#[0xb1]⟩ 1 none : Cond) ∈ kG := kG_of (by decide +kernel) rfl
theorem gw_102 : (.methodLink "Bijectory$Realm" 13 yX5_at : Cond) ∈ kG := kG_of (by decide +kernel) rfl
theorem gw_103 : (.methodLink "Bijectory$Realm" 19 Lib.Math.max.name : Cond) ∈ kG := kG_of (by decide +kernel) rfl
theorem gw_104 : (.fieldLink "Bijectory$Realm" 28 "Bijectory$Realm" "size" "I" : Cond) ∈ kG := kG_of (by decide +kernel) rfl
theorem gw_105 : (.arrayClass .int : Cond) ∈ kG := kG_of (by decide +kernel) rfl
theorem gw_106 : (.fieldLink "Bijectory$Realm" 34 "Bijectory$Realm" "paths" "[I" : Cond) ∈ kG := kG_of (by decide +kernel) rfl
theorem gw_107 : (.fieldLink "Bijectory$Realm" 37 "Bijectory$Realm" "orders" "[I" : Cond) ∈ kG := kG_of (by decide +kernel) rfl
theorem gw_108 : (.classLink "Bijectory$Realm" 40 "[[I" : Cond) ∈ kG := kG_of (by decide +kernel) rfl
theorem gw_109 : (.fieldLink "Bijectory$Realm" 42 "Bijectory$Realm" "images" "[[I" : Cond) ∈ kG := kG_of (by decide +kernel) rfl
theorem gw_110 : (.fieldLink "Bijectory$Realm" 45 "Bijectory$Realm" "values" "[[I" : Cond) ∈ kG := kG_of (by decide +kernel) rfl
theorem gw_111 : (.fieldLink "Bijectory$Realm" 48 "Bijectory$Realm" "counts" "[[I" : Cond) ∈ kG := kG_of (by decide +kernel) rfl
theorem gw_112 : (.classLink "Bijectory$Realm" 29 "Bijectory$Realm" : Cond) ∈ kG := kG_of (by decide +kernel) rfl
theorem gw_113 : (.instantiable "Bijectory$Realm" 6 : Cond) ∈ kG := kG_of (by decide +kernel) rfl
theorem gw_114 : (.initialized "Bijectory$Realm" : Cond) ∈ kG := kG_of (by decide +kernel) rfl
theorem gw_115 : (.code yX4_init cX4_init 4 none : Cond) ∈ kG := kG_of (by decide +kernel) rfl
theorem gw_116 : (.methodLink "Bijectory$Realm" 51 yX4_init : Cond) ∈ kG := kG_of (by decide +kernel) rfl
theorem gw_117 : (.instanceMethod yX4_init : Cond) ∈ kG := kG_of (by decide +kernel) rfl
theorem gw_118 : (.code yX4_listPaths cX4_listPaths 3 none : Cond) ∈ kG := kG_of (by decide +kernel) rfl
theorem gw_119 : (.methodLink "Bijectory$Realm" 54 yX4_listPaths : Cond) ∈ kG := kG_of (by decide +kernel) rfl
theorem gw_120 : (.instanceMethod yX4_listPaths : Cond) ∈ kG := kG_of (by decide +kernel) rfl
theorem gw_121 : (.selects "Bijectory$Realm" yX4_listPaths yX4_listPaths : Cond) ∈ kG := kG_of (by decide +kernel) rfl
theorem gw_122 : (.code yX4_listOrders cX4_listOrders 2 none : Cond) ∈ kG := kG_of (by decide +kernel) rfl
theorem gw_123 : (.methodLink "Bijectory$Realm" 57 yX4_listOrders : Cond) ∈ kG := kG_of (by decide +kernel) rfl
theorem gw_124 : (.instanceMethod yX4_listOrders : Cond) ∈ kG := kG_of (by decide +kernel) rfl
theorem gw_125 : (.selects "Bijectory$Realm" yX4_listOrders yX4_listOrders : Cond) ∈ kG := kG_of (by decide +kernel) rfl
theorem gw_126 : (.code yX4_listImages cX4_listImages 5 none : Cond) ∈ kG := kG_of (by decide +kernel) rfl
theorem gw_127 : (.methodLink "Bijectory$Realm" 60 yX4_listImages : Cond) ∈ kG := kG_of (by decide +kernel) rfl
theorem gw_128 : (.instanceMethod yX4_listImages : Cond) ∈ kG := kG_of (by decide +kernel) rfl
theorem gw_129 : (.selects "Bijectory$Realm" yX4_listImages yX4_listImages : Cond) ∈ kG := kG_of (by decide +kernel) rfl
theorem gw_130 : (.code yX4_listValues cX4_listValues 6 none : Cond) ∈ kG := kG_of (by decide +kernel) rfl
theorem gw_131 : (.methodLink "Bijectory$Realm" 63 yX4_listValues : Cond) ∈ kG := kG_of (by decide +kernel) rfl
theorem gw_132 : (.instanceMethod yX4_listValues : Cond) ∈ kG := kG_of (by decide +kernel) rfl
theorem gw_133 : (.selects "Bijectory$Realm" yX4_listValues yX4_listValues : Cond) ∈ kG := kG_of (by decide +kernel) rfl
theorem gw_134 : (.code yX3_isPath cX3_isPath 4 (some .boolean) : Cond) ∈ kG := kG_of (by decide +kernel) rfl
theorem gw_135 : (.methodLink "Bijectory$Realm" 67 yX3_isPath : Cond) ∈ kG := kG_of (by decide +kernel) rfl
theorem gw_136 : (.static yX3_isPath : Cond) ∈ kG := kG_of (by decide +kernel) rfl
theorem gw_137 : (.code yX5_put cX5_put 3 none : Cond) ∈ kG := kG_of (by decide +kernel) rfl
theorem gw_138 : (.methodLink "Bijectory$Realm" 73 yX5_put : Cond) ∈ kG := kG_of (by decide +kernel) rfl
theorem gw_139 : (.static yX5_put : Cond) ∈ kG := kG_of (by decide +kernel) rfl
theorem gw_140 : (.code yX2_ofRank cX2_ofRank 8 (some .int) : Cond) ∈ kG := kG_of (by decide +kernel) rfl
theorem gw_141 : (.methodLink "Bijectory$Realm" 77 yX2_ofRank : Cond) ∈ kG := kG_of (by decide +kernel) rfl
theorem gw_142 : (.static yX2_ofRank : Cond) ∈ kG := kG_of (by decide +kernel) rfl
theorem gw_143 : (.code yX4_count cX4_count 2 (some .int) : Cond) ∈ kG := kG_of (by decide +kernel) rfl
theorem gw_144 : (.methodLink "Bijectory$Realm" 88 yX4_count : Cond) ∈ kG := kG_of (by decide +kernel) rfl
theorem gw_145 : (.instanceMethod yX4_count : Cond) ∈ kG := kG_of (by decide +kernel) rfl
theorem gw_146 : (.selects "Bijectory$Realm" yX4_count yX4_count : Cond) ∈ kG := kG_of (by decide +kernel) rfl
theorem gw_147 : (.code yX4_codeOf cX4_codeOf 3 (some .int) : Cond) ∈ kG := kG_of (by decide +kernel) rfl
theorem gw_148 : (.methodLink "Bijectory$Realm" 92 yX4_codeOf : Cond) ∈ kG := kG_of (by decide +kernel) rfl
theorem gw_149 : (.instanceMethod yX4_codeOf : Cond) ∈ kG := kG_of (by decide +kernel) rfl
theorem gw_150 : (.selects "Bijectory$Realm" yX4_codeOf yX4_codeOf : Cond) ∈ kG := kG_of (by decide +kernel) rfl
theorem gw_151 : (.code yX4_imageCode cX4_imageCode 3 (some .int) : Cond) ∈ kG := kG_of (by decide +kernel) rfl
theorem gw_152 : (.methodLink "Bijectory$Realm" 95 yX4_imageCode : Cond) ∈ kG := kG_of (by decide +kernel) rfl
theorem gw_153 : (.static yX4_imageCode : Cond) ∈ kG := kG_of (by decide +kernel) rfl
theorem gw_154 : (.code yX4_rankOf cX4_rankOf 6 (some .int) : Cond) ∈ kG := kG_of (by decide +kernel) rfl
theorem gw_155 : (.methodLink "Bijectory$Realm" 99 yX4_rankOf : Cond) ∈ kG := kG_of (by decide +kernel) rfl
theorem gw_156 : (.instanceMethod yX4_rankOf : Cond) ∈ kG := kG_of (by decide +kernel) rfl
theorem gw_157 : (.selects "Bijectory$Realm" yX4_rankOf yX4_rankOf : Cond) ∈ kG := kG_of (by decide +kernel) rfl
theorem gw_158 : (.code yX5_put_ cX5_put_ 5 none : Cond) ∈ kG := kG_of (by decide +kernel) rfl
theorem gw_159 : (.methodLink "Bijectory$Realm" 102 yX5_put_ : Cond) ∈ kG := kG_of (by decide +kernel) rfl
theorem gw_160 : (.static yX5_put_ : Cond) ∈ kG := kG_of (by decide +kernel) rfl
theorem gw_161 : (.code yX4_valueByCode cX4_valueByCode 4 (some .int) : Cond) ∈ kG := kG_of (by decide +kernel) rfl
theorem gw_162 : (.methodLink "Bijectory$Realm" 105 yX4_valueByCode : Cond) ∈ kG := kG_of (by decide +kernel) rfl
theorem gw_163 : (.static yX4_valueByCode : Cond) ∈ kG := kG_of (by decide +kernel) rfl
theorem gw_164 : (.code yX5_at_ cX5_at_ 4 (some .int) : Cond) ∈ kG := kG_of (by decide +kernel) rfl
theorem gw_165 : (.methodLink "Bijectory$Realm" 109 yX5_at_ : Cond) ∈ kG := kG_of (by decide +kernel) rfl
theorem gw_166 : (.static yX5_at_ : Cond) ∈ kG := kG_of (by decide +kernel) rfl
theorem gw_167 : (.code yX3_backward cX3_backward 4 (some .int) : Cond) ∈ kG := kG_of (by decide +kernel) rfl
theorem gw_168 : (.methodLink "Bijectory$Realm" 120 yX3_backward : Cond) ∈ kG := kG_of (by decide +kernel) rfl
theorem gw_169 : (.static yX3_backward : Cond) ∈ kG := kG_of (by decide +kernel) rfl
theorem gw_170 : (.code yX3_roll cX3_roll 6 (some .int) : Cond) ∈ kG := kG_of (by decide +kernel) rfl
theorem gw_171 : (.methodLink "Bijectory$Realm" 123 yX3_roll : Cond) ∈ kG := kG_of (by decide +kernel) rfl
theorem gw_172 : (.static yX3_roll : Cond) ∈ kG := kG_of (by decide +kernel) rfl
theorem gw_173 : (.code yX2_invert cX2_invert 4 (some .int) : Cond) ∈ kG := kG_of (by decide +kernel) rfl
theorem gw_174 : (.methodLink "Bijectory$Realm" 132 yX2_invert : Cond) ∈ kG := kG_of (by decide +kernel) rfl
theorem gw_175 : (.static yX2_invert : Cond) ∈ kG := kG_of (by decide +kernel) rfl
theorem gw_176 : (.code yX2_turn cX2_turn 5 (some .int) : Cond) ∈ kG := kG_of (by decide +kernel) rfl
theorem gw_177 : (.methodLink "Bijectory$Realm" 135 yX2_turn : Cond) ∈ kG := kG_of (by decide +kernel) rfl
theorem gw_178 : (.static yX2_turn : Cond) ∈ kG := kG_of (by decide +kernel) rfl
theorem gw_179 : (.code yX2_sort cX2_sort 6 (some .int) : Cond) ∈ kG := kG_of (by decide +kernel) rfl
theorem gw_180 : (.methodLink "Bijectory$Realm" 138 yX2_sort : Cond) ∈ kG := kG_of (by decide +kernel) rfl
theorem gw_181 : (.static yX2_sort : Cond) ∈ kG := kG_of (by decide +kernel) rfl
theorem gw_182 : (.code yX3_valueOf cX3_valueOf 3 (some .int) : Cond) ∈ kG := kG_of (by decide +kernel) rfl
theorem gw_183 : (.methodLink "Bijectory$Realm" 141 yX3_valueOf : Cond) ∈ kG := kG_of (by decide +kernel) rfl
theorem gw_184 : (.static yX3_valueOf : Cond) ∈ kG := kG_of (by decide +kernel) rfl
theorem gw_185 : (.code yX2_valueOf cX2_valueOf 3 (some .int) : Cond) ∈ kG := kG_of (by decide +kernel) rfl
theorem gw_186 : (.methodLink "Bijectory$Realm" 145 yX2_valueOf : Cond) ∈ kG := kG_of (by decide +kernel) rfl
theorem gw_187 : (.static yX2_valueOf : Cond) ∈ kG := kG_of (by decide +kernel) rfl
theorem gw_188 : (.code yX4_codes cX4_codes 2 (some (.array .int)) : Cond) ∈ kG := kG_of (by decide +kernel) rfl
theorem gw_189 : (.methodLink "Bijectory$Realm" 146 yX4_codes : Cond) ∈ kG := kG_of (by decide +kernel) rfl
theorem gw_190 : (.instanceMethod yX4_codes : Cond) ∈ kG := kG_of (by decide +kernel) rfl
theorem gw_191 : (.selects "Bijectory$Realm" yX4_codes yX4_codes : Cond) ∈ kG := kG_of (by decide +kernel) rfl
theorem gw_192 : (.fieldLink "Bijectory$Realm" 150 "Bijectory$Chart" "length" "I" : Cond) ∈ kG := kG_of (by decide +kernel) rfl
theorem gw_193 : (.code yX0_stepAt cX0_stepAt 2 (some .int) : Cond) ∈ kG := kG_of (by decide +kernel) rfl
theorem gw_194 : (.methodLink "Bijectory$Realm" 155 yX0_stepAt : Cond) ∈ kG := kG_of (by decide +kernel) rfl
theorem gw_195 : (.instanceMethod yX0_stepAt : Cond) ∈ kG := kG_of (by decide +kernel) rfl
theorem gw_196 : (.selects "Bijectory$Chart" yX0_stepAt yX0_stepAt : Cond) ∈ kG := kG_of (by decide +kernel) rfl
theorem gw_197 : (.initialized "Bijectory$Chart" : Cond) ∈ kG := kG_of (by decide +kernel) rfl
theorem gw_198 : (.methodLink "Bijectory$Chart" 3 Lib.objectInit : Cond) ∈ kG := kG_of (by decide +kernel) rfl
theorem gw_199 : (.fieldLink "Bijectory$Chart" 9 "Bijectory$Chart" "steps" "[I" : Cond) ∈ kG := kG_of (by decide +kernel) rfl
theorem gw_200 : (.methodLink "Bijectory$Chart" 15 yX5_put : Cond) ∈ kG := kG_of (by decide +kernel) rfl
theorem gw_201 : (.fieldLink "Bijectory$Chart" 21 "Bijectory$Chart" "length" "I" : Cond) ∈ kG := kG_of (by decide +kernel) rfl
theorem gw_202 : (.methodLink "Bijectory$Chart" 28 yX5_at : Cond) ∈ kG := kG_of (by decide +kernel) rfl
theorem gw_203 : (.fieldLink "Bijectory$Chart" 32 "Bijectory$Chart" "from" "I" : Cond) ∈ kG := kG_of (by decide +kernel) rfl
theorem gw_204 : (.fieldLink "Bijectory$Chart" 38 "Bijectory$Chart" "to" "I" : Cond) ∈ kG := kG_of (by decide +kernel) rfl
theorem gw_205 : (.fieldLink "Bijectory$Chart" 41 "Bijectory$Chart" "surveyed" "I" : Cond) ∈ kG := kG_of (by decide +kernel) rfl
theorem gw_206 : (.methodLink "Bijectory$Survey" 3 Lib.objectInit : Cond) ∈ kG := kG_of (by decide +kernel) rfl
theorem gw_207 : (.methodLink "Bijectory$Survey" 13 yX5_at : Cond) ∈ kG := kG_of (by decide +kernel) rfl
theorem gw_208 : (.methodLink "Bijectory$Survey" 19 Lib.Math.max.name : Cond) ∈ kG := kG_of (by decide +kernel) rfl
theorem gw_209 : (.fieldLink "Bijectory$Survey" 25 "Bijectory$Survey" "ends" "[I" : Cond) ∈ kG := kG_of (by decide +kernel) rfl
theorem gw_210 : (.arrayClass .boolean : Cond) ∈ kG := kG_of (by decide +kernel) rfl
theorem gw_211 : (.fieldLink "Bijectory$Survey" 30 "Bijectory$Survey" "met" "[Z" : Cond) ∈ kG := kG_of (by decide +kernel) rfl
theorem gw_212 : (.fieldLink "Bijectory$Survey" 34 "Bijectory$Chart" "surveyed" "I" : Cond) ∈ kG := kG_of (by decide +kernel) rfl
theorem gw_213 : (.fieldLink "Bijectory$Survey" 40 "Bijectory$Realm" "size" "I" : Cond) ∈ kG := kG_of (by decide +kernel) rfl
theorem gw_214 : (.fieldLink "Bijectory$Survey" 45 "Bijectory$Chart" "from" "I" : Cond) ∈ kG := kG_of (by decide +kernel) rfl
theorem gw_215 : (.methodLink "Bijectory$Survey" 48 yX4_count : Cond) ∈ kG := kG_of (by decide +kernel) rfl
theorem gw_216 : (.code yX4_through cX4_through 5 (some .int) : Cond) ∈ kG := kG_of (by decide +kernel) rfl
theorem gw_217 : (.methodLink "Bijectory$Survey" 52 yX4_through : Cond) ∈ kG := kG_of (by decide +kernel) rfl
theorem gw_218 : (.instanceMethod yX4_through : Cond) ∈ kG := kG_of (by decide +kernel) rfl
theorem gw_219 : (.selects "Bijectory$Realm" yX4_through yX4_through : Cond) ∈ kG := kG_of (by decide +kernel) rfl
theorem gw_220 : (.methodLink "Bijectory$Survey" 56 yX5_put : Cond) ∈ kG := kG_of (by decide +kernel) rfl
theorem gw_221 : (.code yX6_countDistinct cX6_countDistinct 4 (some .int) : Cond) ∈ kG := kG_of (by decide +kernel) rfl
theorem gw_222 : (.methodLink "Bijectory$Survey" 60 yX6_countDistinct : Cond) ∈ kG := kG_of (by decide +kernel) rfl
theorem gw_223 : (.instanceMethod yX6_countDistinct : Cond) ∈ kG := kG_of (by decide +kernel) rfl
theorem gw_224 : (.selects "Bijectory$Survey" yX6_countDistinct yX6_countDistinct : Cond) ∈ kG := kG_of (by decide +kernel) rfl
theorem gw_225 : (.initialized "Bijectory$Survey" : Cond) ∈ kG := kG_of (by decide +kernel) rfl
theorem gw_226 : (.fieldLink "Bijectory$Survey" 63 "Bijectory$Chart" "distinct" "I" : Cond) ∈ kG := kG_of (by decide +kernel) rfl
theorem gw_227 : (.code yX0_isMove cX0_isMove 1 (some .boolean) : Cond) ∈ kG := kG_of (by decide +kernel) rfl
theorem gw_228 : (.methodLink "Bijectory$Survey" 66 yX0_isMove : Cond) ∈ kG := kG_of (by decide +kernel) rfl
theorem gw_229 : (.instanceMethod yX0_isMove : Cond) ∈ kG := kG_of (by decide +kernel) rfl
theorem gw_230 : (.selects "Bijectory$Chart" yX0_isMove yX0_isMove : Cond) ∈ kG := kG_of (by decide +kernel) rfl
theorem gw_231 : (.code yX6_countUnmoved cX6_countUnmoved 4 (some .int) : Cond) ∈ kG := kG_of (by decide +kernel) rfl
theorem gw_232 : (.methodLink "Bijectory$Survey" 70 yX6_countUnmoved : Cond) ∈ kG := kG_of (by decide +kernel) rfl
theorem gw_233 : (.instanceMethod yX6_countUnmoved : Cond) ∈ kG := kG_of (by decide +kernel) rfl
theorem gw_234 : (.selects "Bijectory$Survey" yX6_countUnmoved yX6_countUnmoved : Cond) ∈ kG := kG_of (by decide +kernel) rfl
theorem gw_235 : (.fieldLink "Bijectory$Survey" 73 "Bijectory$Chart" "unmoved" "I" : Cond) ∈ kG := kG_of (by decide +kernel) rfl
theorem gw_236 : (.fieldLink "Bijectory$Survey" 76 "Bijectory$Chart" "rounds" "I" : Cond) ∈ kG := kG_of (by decide +kernel) rfl
theorem gw_237 : (.constantLong "Bijectory$Survey" 79 (-1) : Cond) ∈ kG := kG_of (by decide +kernel) rfl
theorem gw_238 : (.fieldLink "Bijectory$Survey" 81 "Bijectory$Chart" "period" "J" : Cond) ∈ kG := kG_of (by decide +kernel) rfl
theorem gw_239 : (.code yX6_followRounds cX6_followRounds 5 none : Cond) ∈ kG := kG_of (by decide +kernel) rfl
theorem gw_240 : (.methodLink "Bijectory$Survey" 85 yX6_followRounds : Cond) ∈ kG := kG_of (by decide +kernel) rfl
theorem gw_241 : (.instanceMethod yX6_followRounds : Cond) ∈ kG := kG_of (by decide +kernel) rfl
theorem gw_242 : (.selects "Bijectory$Survey" yX6_followRounds yX6_followRounds : Cond) ∈ kG := kG_of (by decide +kernel) rfl
theorem gw_243 : (.code yX6_forget cX6_forget 2 none : Cond) ∈ kG := kG_of (by decide +kernel) rfl
theorem gw_244 : (.methodLink "Bijectory$Survey" 89 yX6_forget : Cond) ∈ kG := kG_of (by decide +kernel) rfl
theorem gw_245 : (.instanceMethod yX6_forget : Cond) ∈ kG := kG_of (by decide +kernel) rfl
theorem gw_246 : (.selects "Bijectory$Survey" yX6_forget yX6_forget : Cond) ∈ kG := kG_of (by decide +kernel) rfl
theorem gw_247 : (.code yX6_meet cX6_meet 2 (some .boolean) : Cond) ∈ kG := kG_of (by decide +kernel) rfl
theorem gw_248 : (.methodLink "Bijectory$Survey" 92 yX6_meet : Cond) ∈ kG := kG_of (by decide +kernel) rfl
theorem gw_249 : (.instanceMethod yX6_meet : Cond) ∈ kG := kG_of (by decide +kernel) rfl
theorem gw_250 : (.selects "Bijectory$Survey" yX6_meet yX6_meet : Cond) ∈ kG := kG_of (by decide +kernel) rfl
theorem gw_251 : (.code yX6_roundLength cX6_roundLength 5 (some .int) : Cond) ∈ kG := kG_of (by decide +kernel) rfl
theorem gw_252 : (.methodLink "Bijectory$Survey" 96 yX6_roundLength : Cond) ∈ kG := kG_of (by decide +kernel) rfl
theorem gw_253 : (.instanceMethod yX6_roundLength : Cond) ∈ kG := kG_of (by decide +kernel) rfl
theorem gw_254 : (.selects "Bijectory$Survey" yX6_roundLength yX6_roundLength : Cond) ∈ kG := kG_of (by decide +kernel) rfl
theorem gw_255 : (.code yX6_commonMultiple cX6_commonMultiple 4 (some .long) : Cond) ∈ kG := kG_of (by decide +kernel) rfl
theorem gw_256 : (.methodLink "Bijectory$Survey" 99 yX6_commonMultiple : Cond) ∈ kG := kG_of (by decide +kernel) rfl
theorem gw_257 : (.static yX6_commonMultiple : Cond) ∈ kG := kG_of (by decide +kernel) rfl
theorem gw_258 : (.methodLink "Bijectory$Walker" 1 Lib.objectInit : Cond) ∈ kG := kG_of (by decide +kernel) rfl
theorem gw_259 : (.fieldLink "Bijectory$Walker" 7 "Bijectory$Walker" "homeFamily" "I" : Cond) ∈ kG := kG_of (by decide +kernel) rfl
theorem gw_260 : (.fieldLink "Bijectory$Walker" 13 "Bijectory$Walker" "home" "I" : Cond) ∈ kG := kG_of (by decide +kernel) rfl
theorem gw_261 : (.fieldLink "Bijectory$Walker" 16 "Bijectory$Walker" "family" "I" : Cond) ∈ kG := kG_of (by decide +kernel) rfl
theorem gw_262 : (.fieldLink "Bijectory$Walker" 19 "Bijectory$Walker" "place" "I" : Cond) ∈ kG := kG_of (by decide +kernel) rfl
theorem gw_263 : (.fieldLink "Bijectory$Walker" 22 "Bijectory$Walker" "trips" "I" : Cond) ∈ kG := kG_of (by decide +kernel) rfl
theorem gw_264 : (.fieldLink "Bijectory$Walker" 25 "Bijectory$Walker" "backs" "I" : Cond) ∈ kG := kG_of (by decide +kernel) rfl
theorem gw_265 : (.methodLink "Bijectory$Claim" 1 Lib.objectInit : Cond) ∈ kG := kG_of (by decide +kernel) rfl
theorem gw_266 : (.fieldLink "Bijectory$Claim" 7 "Bijectory$Claim" "map" "I" : Cond) ∈ kG := kG_of (by decide +kernel) rfl
theorem gw_267 : (.fieldLink "Bijectory$Claim" 13 "Bijectory$Claim" "which" "I" : Cond) ∈ kG := kG_of (by decide +kernel) rfl
theorem gw_268 : (.fieldLink "Bijectory$Claim" 16 "Bijectory$Claim" "other" "I" : Cond) ∈ kG := kG_of (by decide +kernel) rfl
theorem gw_269 : (.fieldLink "Bijectory$Claim" 19 "Bijectory$Claim" "tried" "I" : Cond) ∈ kG := kG_of (by decide +kernel) rfl
theorem gw_270 : (.fieldLink "Bijectory$Claim" 22 "Bijectory$Claim" "refuted" "I" : Cond) ∈ kG := kG_of (by decide +kernel) rfl
theorem gw_271 : (.methodLink "Bijectory" 1 Lib.objectInit : Cond) ∈ kG := kG_of (by decide +kernel) rfl
theorem gw_272 : (.classLink "Bijectory" 9 "Bijectory$Realm" : Cond) ∈ kG := kG_of (by decide +kernel) rfl
theorem gw_273 : (.fieldLink "Bijectory" 11 "Bijectory" "realms" "[LBijectory$Realm;" : Cond) ∈ kG := kG_of (by decide +kernel) rfl
theorem gw_274 : (.classLink "Bijectory" 15 "Bijectory$Survey" : Cond) ∈ kG := kG_of (by decide +kernel) rfl
theorem gw_275 : (.instantiable "Bijectory$Survey" 2 : Cond) ∈ kG := kG_of (by decide +kernel) rfl
theorem gw_276 : (.code yX6_init cX6_init 2 none : Cond) ∈ kG := kG_of (by decide +kernel) rfl
theorem gw_277 : (.methodLink "Bijectory" 17 yX6_init : Cond) ∈ kG := kG_of (by decide +kernel) rfl
theorem gw_278 : (.instanceMethod yX6_init : Cond) ∈ kG := kG_of (by decide +kernel) rfl
theorem gw_279 : (.fieldLink "Bijectory" 18 "Bijectory" "survey" "LBijectory$Survey;" : Cond) ∈ kG := kG_of (by decide +kernel) rfl
theorem gw_280 : (.classLink "Bijectory" 22 "Bijectory$Chart" : Cond) ∈ kG := kG_of (by decide +kernel) rfl
theorem gw_281 : (.fieldLink "Bijectory" 24 "Bijectory" "charts" "[LBijectory$Chart;" : Cond) ∈ kG := kG_of (by decide +kernel) rfl
theorem gw_282 : (.classLink "Bijectory" 28 "Bijectory$Walker" : Cond) ∈ kG := kG_of (by decide +kernel) rfl
theorem gw_283 : (.fieldLink "Bijectory" 30 "Bijectory" "walkers" "[LBijectory$Walker;" : Cond) ∈ kG := kG_of (by decide +kernel) rfl
theorem gw_284 : (.classLink "Bijectory" 34 "Bijectory$Claim" : Cond) ∈ kG := kG_of (by decide +kernel) rfl
theorem gw_285 : (.fieldLink "Bijectory" 36 "Bijectory" "claims" "[LBijectory$Claim;" : Cond) ∈ kG := kG_of (by decide +kernel) rfl
theorem gw_286 : (.code yX4_of cX4_of 4 (some (.object "Bijectory$Realm")) : Cond) ∈ kG := kG_of (by decide +kernel) rfl
theorem gw_287 : (.methodLink "Bijectory" 40 yX4_of : Cond) ∈ kG := kG_of (by decide +kernel) rfl
theorem gw_288 : (.static yX4_of : Cond) ∈ kG := kG_of (by decide +kernel) rfl
theorem gw_289 : (.fieldLink "Bijectory" 44 "Bijectory" "realm" "LBijectory$Realm;" : Cond) ∈ kG := kG_of (by decide +kernel) rfl
theorem gw_290 : (.classLink "Bijectory" 48 "java/lang/IllegalArgumentException" : Cond) ∈ kG := kG_of (by decide +kernel) rfl
theorem gw_291 : (.initialized "java/lang/IllegalArgumentException" : Cond) ∈ kG := kG_of (by decide +kernel) rfl
theorem gw_292 : (.fieldLink "Bijectory" 55 "Bijectory" "walkerCount" "I" : Cond) ∈ kG := kG_of (by decide +kernel) rfl
theorem gw_293 : (.code yX9_needStep cX9_needStep 1 none : Cond) ∈ kG := kG_of (by decide +kernel) rfl
theorem gw_294 : (.methodLink "Bijectory" 59 yX9_needStep : Cond) ∈ kG := kG_of (by decide +kernel) rfl
theorem gw_295 : (.static yX9_needStep : Cond) ∈ kG := kG_of (by decide +kernel) rfl
theorem gw_296 : (.initialized "Bijectory" : Cond) ∈ kG := kG_of (by decide +kernel) rfl
theorem gw_297 : (.fieldLink "Bijectory" 63 "Bijectory" "chartCount" "I" : Cond) ∈ kG := kG_of (by decide +kernel) rfl
theorem gw_298 : (.classLink "Bijectory" 66 "java/lang/IllegalStateException" : Cond) ∈ kG := kG_of (by decide +kernel) rfl
theorem gw_299 : (.initialized "java/lang/IllegalStateException" : Cond) ∈ kG := kG_of (by decide +kernel) rfl
theorem gw_300 : (.instantiable "Bijectory$Chart" 10 : Cond) ∈ kG := kG_of (by decide +kernel) rfl
theorem gw_301 : (.code yX0_init cX0_init 2 none : Cond) ∈ kG := kG_of (by decide +kernel) rfl
theorem gw_302 : (.methodLink "Bijectory" 71 yX0_init : Cond) ∈ kG := kG_of (by decide +kernel) rfl
theorem gw_303 : (.instanceMethod yX0_init : Cond) ∈ kG := kG_of (by decide +kernel) rfl
theorem gw_304 : (.code yX9_chartAt cX9_chartAt 3 (some (.object "Bijectory$Chart")) : Cond) ∈ kG := kG_of (by decide +kernel) rfl
theorem gw_305 : (.methodLink "Bijectory" 73 yX9_chartAt : Cond) ∈ kG := kG_of (by decide +kernel) rfl
theorem gw_306 : (.instanceMethod yX9_chartAt : Cond) ∈ kG := kG_of (by decide +kernel) rfl
theorem gw_307 : (.selects "Bijectory" yX9_chartAt yX9_chartAt : Cond) ∈ kG := kG_of (by decide +kernel) rfl
theorem gw_308 : (.fieldLink "Bijectory" 77 "Bijectory$Chart" "length" "I" : Cond) ∈ kG := kG_of (by decide +kernel) rfl
theorem gw_309 : (.fieldLink "Bijectory" 82 "Bijectory$Chart" "claimed" "Z" : Cond) ∈ kG := kG_of (by decide +kernel) rfl
theorem gw_310 : (.fieldLink "Bijectory" 88 "Bijectory" "STEP_FROM" "[I" : Cond) ∈ kG := kG_of (by decide +kernel) rfl
theorem gw_311 : (.methodLink "Bijectory" 92 yX5_at : Cond) ∈ kG := kG_of (by decide +kernel) rfl
theorem gw_312 : (.fieldLink "Bijectory" 98 "Bijectory$Chart" "to" "I" : Cond) ∈ kG := kG_of (by decide +kernel) rfl
theorem gw_313 : (.code yX0_append cX0_append 2 none : Cond) ∈ kG := kG_of (by decide +kernel) rfl
theorem gw_314 : (.methodLink "Bijectory" 103 yX0_append : Cond) ∈ kG := kG_of (by decide +kernel) rfl
theorem gw_315 : (.instanceMethod yX0_append : Cond) ∈ kG := kG_of (by decide +kernel) rfl
theorem gw_316 : (.selects "Bijectory$Chart" yX0_append yX0_append : Cond) ∈ kG := kG_of (by decide +kernel) rfl
theorem gw_317 : (.code yX9_needFamily cX9_needFamily 1 none : Cond) ∈ kG := kG_of (by decide +kernel) rfl
theorem gw_318 : (.methodLink "Bijectory" 106 yX9_needFamily : Cond) ∈ kG := kG_of (by decide +kernel) rfl
theorem gw_319 : (.static yX9_needFamily : Cond) ∈ kG := kG_of (by decide +kernel) rfl
theorem gw_320 : (.methodLink "Bijectory" 109 yX4_rankOf : Cond) ∈ kG := kG_of (by decide +kernel) rfl
theorem gw_321 : (.instantiable "Bijectory$Walker" 6 : Cond) ∈ kG := kG_of (by decide +kernel) rfl
theorem gw_322 : (.initialized "Bijectory$Walker" : Cond) ∈ kG := kG_of (by decide +kernel) rfl
theorem gw_323 : (.code yX8_init cX8_init 3 none : Cond) ∈ kG := kG_of (by decide +kernel) rfl
theorem gw_324 : (.methodLink "Bijectory" 117 yX8_init : Cond) ∈ kG := kG_of (by decide +kernel) rfl
theorem gw_325 : (.instanceMethod yX8_init : Cond) ∈ kG := kG_of (by decide +kernel) rfl
theorem gw_326 : (.code yX9_needStatistic cX9_needStatistic 1 none : Cond) ∈ kG := kG_of (by decide +kernel) rfl
theorem gw_327 : (.methodLink "Bijectory" 120 yX9_needStatistic : Cond) ∈ kG := kG_of (by decide +kernel) rfl
theorem gw_328 : (.static yX9_needStatistic : Cond) ∈ kG := kG_of (by decide +kernel) rfl
theorem gw_329 : (.fieldLink "Bijectory" 123 "Bijectory" "claimCount" "I" : Cond) ∈ kG := kG_of (by decide +kernel) rfl
theorem gw_330 : (.instantiable "Bijectory$Claim" 5 : Cond) ∈ kG := kG_of (by decide +kernel) rfl
theorem gw_331 : (.initialized "Bijectory$Claim" : Cond) ∈ kG := kG_of (by decide +kernel) rfl
theorem gw_332 : (.code yX1_init cX1_init 4 none : Cond) ∈ kG := kG_of (by decide +kernel) rfl
theorem gw_333 : (.methodLink "Bijectory" 128 yX1_init : Cond) ∈ kG := kG_of (by decide +kernel) rfl
theorem gw_334 : (.instanceMethod yX1_init : Cond) ∈ kG := kG_of (by decide +kernel) rfl
theorem gw_335 : (.code yX9_tryClaim cX9_tryClaim 4 (some .boolean) : Cond) ∈ kG := kG_of (by decide +kernel) rfl
theorem gw_336 : (.methodLink "Bijectory" 131 yX9_tryClaim : Cond) ∈ kG := kG_of (by decide +kernel) rfl
theorem gw_337 : (.instanceMethod yX9_tryClaim : Cond) ∈ kG := kG_of (by decide +kernel) rfl
theorem gw_338 : (.selects "Bijectory" yX9_tryClaim yX9_tryClaim : Cond) ∈ kG := kG_of (by decide +kernel) rfl
theorem gw_339 : (.code yX9_walkerAt cX9_walkerAt 3 (some (.object "Bijectory$Walker")) : Cond) ∈ kG := kG_of (by decide +kernel) rfl
theorem gw_340 : (.methodLink "Bijectory" 135 yX9_walkerAt : Cond) ∈ kG := kG_of (by decide +kernel) rfl
theorem gw_341 : (.instanceMethod yX9_walkerAt : Cond) ∈ kG := kG_of (by decide +kernel) rfl
theorem gw_342 : (.selects "Bijectory" yX9_walkerAt yX9_walkerAt : Cond) ∈ kG := kG_of (by decide +kernel) rfl
theorem gw_343 : (.fieldLink "Bijectory" 141 "Bijectory$Chart" "from" "I" : Cond) ∈ kG := kG_of (by decide +kernel) rfl
theorem gw_344 : (.fieldLink "Bijectory" 144 "Bijectory$Walker" "family" "I" : Cond) ∈ kG := kG_of (by decide +kernel) rfl
theorem gw_345 : (.methodLink "Bijectory" 149 yX0_isMove : Cond) ∈ kG := kG_of (by decide +kernel) rfl
theorem gw_346 : (.fieldLink "Bijectory" 155 "Bijectory$Walker" "place" "I" : Cond) ∈ kG := kG_of (by decide +kernel) rfl
theorem gw_347 : (.methodLink "Bijectory" 158 yX4_through : Cond) ∈ kG := kG_of (by decide +kernel) rfl
theorem gw_348 : (.code yX8_go cX8_go 3 none : Cond) ∈ kG := kG_of (by decide +kernel) rfl
theorem gw_349 : (.methodLink "Bijectory" 162 yX8_go : Cond) ∈ kG := kG_of (by decide +kernel) rfl
theorem gw_350 : (.instanceMethod yX8_go : Cond) ∈ kG := kG_of (by decide +kernel) rfl
theorem gw_351 : (.selects "Bijectory$Walker" yX8_go yX8_go : Cond) ∈ kG := kG_of (by decide +kernel) rfl
theorem gw_352 : (.fieldLink "Bijectory" 165 "Bijectory" "tripsEver" "I" : Cond) ∈ kG := kG_of (by decide +kernel) rfl
theorem gw_353 : (.methodLink "Bijectory" 168 yX4_codeOf : Cond) ∈ kG := kG_of (by decide +kernel) rfl
theorem gw_354 : (.code yX9_claimAt cX9_claimAt 3 (some (.object "Bijectory$Claim")) : Cond) ∈ kG := kG_of (by decide +kernel) rfl
theorem gw_355 : (.methodLink "Bijectory" 171 yX9_claimAt : Cond) ∈ kG := kG_of (by decide +kernel) rfl
theorem gw_356 : (.instanceMethod yX9_claimAt : Cond) ∈ kG := kG_of (by decide +kernel) rfl
theorem gw_357 : (.selects "Bijectory" yX9_claimAt yX9_claimAt : Cond) ∈ kG := kG_of (by decide +kernel) rfl
theorem gw_358 : (.fieldLink "Bijectory" 175 "Bijectory$Claim" "map" "I" : Cond) ∈ kG := kG_of (by decide +kernel) rfl
theorem gw_359 : (.methodLink "Bijectory" 178 yX4_count : Cond) ∈ kG := kG_of (by decide +kernel) rfl
theorem gw_360 : (.code yX9_needRank cX9_needRank 3 none : Cond) ∈ kG := kG_of (by decide +kernel) rfl
theorem gw_361 : (.methodLink "Bijectory" 182 yX9_needRank : Cond) ∈ kG := kG_of (by decide +kernel) rfl
theorem gw_362 : (.instanceMethod yX9_needRank : Cond) ∈ kG := kG_of (by decide +kernel) rfl
theorem gw_363 : (.selects "Bijectory" yX9_needRank yX9_needRank : Cond) ∈ kG := kG_of (by decide +kernel) rfl
theorem gw_364 : (.code yX4_valueOf cX4_valueOf 4 (some .int) : Cond) ∈ kG := kG_of (by decide +kernel) rfl
theorem gw_365 : (.methodLink "Bijectory" 185 yX4_valueOf : Cond) ∈ kG := kG_of (by decide +kernel) rfl
theorem gw_366 : (.instanceMethod yX4_valueOf : Cond) ∈ kG := kG_of (by decide +kernel) rfl
theorem gw_367 : (.selects "Bijectory$Realm" yX4_valueOf yX4_valueOf : Cond) ∈ kG := kG_of (by decide +kernel) rfl
theorem gw_368 : (.code yX4_countOf cX4_countOf 4 (some .int) : Cond) ∈ kG := kG_of (by decide +kernel) rfl
theorem gw_369 : (.methodLink "Bijectory" 189 yX4_countOf : Cond) ∈ kG := kG_of (by decide +kernel) rfl
theorem gw_370 : (.instanceMethod yX4_countOf : Cond) ∈ kG := kG_of (by decide +kernel) rfl
theorem gw_371 : (.selects "Bijectory$Realm" yX4_countOf yX4_countOf : Cond) ∈ kG := kG_of (by decide +kernel) rfl
theorem gw_372 : (.code yX9_signOf cX9_signOf 1 (some .int) : Cond) ∈ kG := kG_of (by decide +kernel) rfl
theorem gw_373 : (.methodLink "Bijectory" 192 yX9_signOf : Cond) ∈ kG := kG_of (by decide +kernel) rfl
theorem gw_374 : (.static yX9_signOf : Cond) ∈ kG := kG_of (by decide +kernel) rfl
theorem gw_375 : (.code yX9_patternLength cX9_patternLength 2 (some .int) : Cond) ∈ kG := kG_of (by decide +kernel) rfl
theorem gw_376 : (.methodLink "Bijectory" 195 yX9_patternLength : Cond) ∈ kG := kG_of (by decide +kernel) rfl
theorem gw_377 : (.static yX9_patternLength : Cond) ∈ kG := kG_of (by decide +kernel) rfl
theorem gw_378 : (.fieldLink "Bijectory" 200 "Bijectory$Realm" "size" "I" : Cond) ∈ kG := kG_of (by decide +kernel) rfl
theorem gw_379 : (.code yX2_timesContained cX2_timesContained 6 (some .int) : Cond) ∈ kG := kG_of (by decide +kernel) rfl
theorem gw_380 : (.methodLink "Bijectory" 203 yX2_timesContained : Cond) ∈ kG := kG_of (by decide +kernel) rfl
theorem gw_381 : (.static yX2_timesContained : Cond) ∈ kG := kG_of (by decide +kernel) rfl
theorem gw_382 : (.code yX4_isInOrderBehind cX4_isInOrderBehind 5 (some .boolean) : Cond) ∈ kG := kG_of (by decide +kernel) rfl
theorem gw_383 : (.methodLink "Bijectory" 211 yX4_isInOrderBehind : Cond) ∈ kG := kG_of (by decide +kernel) rfl
theorem gw_384 : (.instanceMethod yX4_isInOrderBehind : Cond) ∈ kG := kG_of (by decide +kernel) rfl
theorem gw_385 : (.selects "Bijectory$Realm" yX4_isInOrderBehind yX4_isInOrderBehind : Cond) ∈ kG := kG_of (by decide +kernel) rfl
theorem gw_386 : (.code yX6_take cX6_take 5 none : Cond) ∈ kG := kG_of (by decide +kernel) rfl
theorem gw_387 : (.methodLink "Bijectory" 217 yX6_take : Cond) ∈ kG := kG_of (by decide +kernel) rfl
theorem gw_388 : (.instanceMethod yX6_take : Cond) ∈ kG := kG_of (by decide +kernel) rfl
theorem gw_389 : (.selects "Bijectory$Survey" yX6_take yX6_take : Cond) ∈ kG := kG_of (by decide +kernel) rfl
theorem gw_390 : (.fieldLink "Bijectory" 221 "Bijectory$Chart" "distinct" "I" : Cond) ∈ kG := kG_of (by decide +kernel) rfl
theorem gw_391 : (.fieldLink "Bijectory" 224 "Bijectory$Chart" "unmoved" "I" : Cond) ∈ kG := kG_of (by decide +kernel) rfl
theorem gw_392 : (.fieldLink "Bijectory" 227 "Bijectory$Chart" "rounds" "I" : Cond) ∈ kG := kG_of (by decide +kernel) rfl
theorem gw_393 : (.fieldLink "Bijectory" 230 "Bijectory$Chart" "period" "J" : Cond) ∈ kG := kG_of (by decide +kernel) rfl
theorem gw_394 : (.code yX9_firstAgainst cX9_firstAgainst 6 (some .int) : Cond) ∈ kG := kG_of (by decide +kernel) rfl
theorem gw_395 : (.methodLink "Bijectory" 234 yX9_firstAgainst : Cond) ∈ kG := kG_of (by decide +kernel) rfl
theorem gw_396 : (.instanceMethod yX9_firstAgainst : Cond) ∈ kG := kG_of (by decide +kernel) rfl
theorem gw_397 : (.selects "Bijectory" yX9_firstAgainst yX9_firstAgainst : Cond) ∈ kG := kG_of (by decide +kernel) rfl
theorem gw_398 : (.code yX9_isPairedOff cX9_isPairedOff 6 (some .boolean) : Cond) ∈ kG := kG_of (by decide +kernel) rfl
theorem gw_399 : (.methodLink "Bijectory" 238 yX9_isPairedOff : Cond) ∈ kG := kG_of (by decide +kernel) rfl
theorem gw_400 : (.instanceMethod yX9_isPairedOff : Cond) ∈ kG := kG_of (by decide +kernel) rfl
theorem gw_401 : (.selects "Bijectory" yX9_isPairedOff yX9_isPairedOff : Cond) ∈ kG := kG_of (by decide +kernel) rfl
theorem gw_402 : (.fieldLink "Bijectory" 244 "Bijectory$Walker" "homeFamily" "I" : Cond) ∈ kG := kG_of (by decide +kernel) rfl
theorem gw_403 : (.fieldLink "Bijectory" 247 "Bijectory$Walker" "home" "I" : Cond) ∈ kG := kG_of (by decide +kernel) rfl
theorem gw_404 : (.fieldLink "Bijectory" 250 "Bijectory$Walker" "trips" "I" : Cond) ∈ kG := kG_of (by decide +kernel) rfl
theorem gw_405 : (.fieldLink "Bijectory" 253 "Bijectory$Walker" "backs" "I" : Cond) ∈ kG := kG_of (by decide +kernel) rfl
theorem gw_406 : (.fieldLink "Bijectory" 256 "Bijectory$Claim" "which" "I" : Cond) ∈ kG := kG_of (by decide +kernel) rfl
theorem gw_407 : (.fieldLink "Bijectory" 259 "Bijectory$Claim" "other" "I" : Cond) ∈ kG := kG_of (by decide +kernel) rfl
theorem gw_408 : (.fieldLink "Bijectory" 262 "Bijectory$Claim" "tried" "I" : Cond) ∈ kG := kG_of (by decide +kernel) rfl
theorem gw_409 : (.fieldLink "Bijectory" 265 "Bijectory$Claim" "refuted" "I" : Cond) ∈ kG := kG_of (by decide +kernel) rfl
theorem gw_410 : (.code yX9_refutedClaims cX9_refutedClaims 3 (some .int) : Cond) ∈ kG := kG_of (by decide +kernel) rfl
theorem gw_411 : (.methodLink "Bijectory" 270 yX9_refutedClaims : Cond) ∈ kG := kG_of (by decide +kernel) rfl
theorem gw_412 : (.instanceMethod yX9_refutedClaims : Cond) ∈ kG := kG_of (by decide +kernel) rfl
theorem gw_413 : (.selects "Bijectory" yX9_refutedClaims yX9_refutedClaims : Cond) ∈ kG := kG_of (by decide +kernel) rfl
theorem gw_414 : (.fieldLink "Bijectory" 274 "Bijectory" "trialsEver" "I" : Cond) ∈ kG := kG_of (by decide +kernel) rfl
theorem gw_415 : (.constantLong "Bijectory" 277 (9503) : Cond) ∈ kG := kG_of (by decide +kernel) rfl
theorem gw_416 : (.code yX9_digestOfObjects cX9_digestOfObjects 7 (some .long) : Cond) ∈ kG := kG_of (by decide +kernel) rfl
theorem gw_417 : (.methodLink "Bijectory" 279 yX9_digestOfObjects : Cond) ∈ kG := kG_of (by decide +kernel) rfl
theorem gw_418 : (.instanceMethod yX9_digestOfObjects : Cond) ∈ kG := kG_of (by decide +kernel) rfl
theorem gw_419 : (.selects "Bijectory" yX9_digestOfObjects yX9_digestOfObjects : Cond) ∈ kG := kG_of (by decide +kernel) rfl
theorem gw_420 : (.code yX9_digestOfMap cX9_digestOfMap 7 (some .long) : Cond) ∈ kG := kG_of (by decide +kernel) rfl
theorem gw_421 : (.methodLink "Bijectory" 283 yX9_digestOfMap : Cond) ∈ kG := kG_of (by decide +kernel) rfl
theorem gw_422 : (.instanceMethod yX9_digestOfMap : Cond) ∈ kG := kG_of (by decide +kernel) rfl
theorem gw_423 : (.selects "Bijectory" yX9_digestOfMap yX9_digestOfMap : Cond) ∈ kG := kG_of (by decide +kernel) rfl
theorem gw_424 : (.constantLong "Bijectory" 287 (31) : Cond) ∈ kG := kG_of (by decide +kernel) rfl
theorem gw_425 : (.code yX9_ofWalker cX9_ofWalker 4 (some .int) : Cond) ∈ kG := kG_of (by decide +kernel) rfl
theorem gw_426 : (.methodLink "Bijectory" 289 yX9_ofWalker : Cond) ∈ kG := kG_of (by decide +kernel) rfl
theorem gw_427 : (.instanceMethod yX9_ofWalker : Cond) ∈ kG := kG_of (by decide +kernel) rfl
theorem gw_428 : (.selects "Bijectory" yX9_ofWalker yX9_ofWalker : Cond) ∈ kG := kG_of (by decide +kernel) rfl
theorem gw_429 : (.code yX9_ofClaim cX9_ofClaim 4 (some .int) : Cond) ∈ kG := kG_of (by decide +kernel) rfl
theorem gw_430 : (.methodLink "Bijectory" 292 yX9_ofClaim : Cond) ∈ kG := kG_of (by decide +kernel) rfl
theorem gw_431 : (.instanceMethod yX9_ofClaim : Cond) ∈ kG := kG_of (by decide +kernel) rfl
theorem gw_432 : (.selects "Bijectory" yX9_ofClaim yX9_ofClaim : Cond) ∈ kG := kG_of (by decide +kernel) rfl
theorem gw_433 : (.code yX9_sorted cX9_sorted 4 (some .int) : Cond) ∈ kG := kG_of (by decide +kernel) rfl
theorem gw_434 : (.methodLink "Bijectory" 295 yX9_sorted : Cond) ∈ kG := kG_of (by decide +kernel) rfl
theorem gw_435 : (.instanceMethod yX9_sorted : Cond) ∈ kG := kG_of (by decide +kernel) rfl
theorem gw_436 : (.selects "Bijectory" yX9_sorted yX9_sorted : Cond) ∈ kG := kG_of (by decide +kernel) rfl
theorem gw_437 : (.code yX9_many cX9_many 2 (some .int) : Cond) ∈ kG := kG_of (by decide +kernel) rfl
theorem gw_438 : (.methodLink "Bijectory" 298 yX9_many : Cond) ∈ kG := kG_of (by decide +kernel) rfl
theorem gw_439 : (.instanceMethod yX9_many : Cond) ∈ kG := kG_of (by decide +kernel) rfl
theorem gw_440 : (.selects "Bijectory" yX9_many yX9_many : Cond) ∈ kG := kG_of (by decide +kernel) rfl
theorem gw_441 : (.code yX9_objects cX9_objects 2 (some .int) : Cond) ∈ kG := kG_of (by decide +kernel) rfl
theorem gw_442 : (.methodLink "Bijectory" 301 yX9_objects : Cond) ∈ kG := kG_of (by decide +kernel) rfl
theorem gw_443 : (.instanceMethod yX9_objects : Cond) ∈ kG := kG_of (by decide +kernel) rfl
theorem gw_444 : (.selects "Bijectory" yX9_objects yX9_objects : Cond) ∈ kG := kG_of (by decide +kernel) rfl
theorem gw_445 : (.code yX9_signs cX9_signs 5 (some .int) : Cond) ∈ kG := kG_of (by decide +kernel) rfl
theorem gw_446 : (.methodLink "Bijectory" 304 yX9_signs : Cond) ∈ kG := kG_of (by decide +kernel) rfl
theorem gw_447 : (.instanceMethod yX9_signs : Cond) ∈ kG := kG_of (by decide +kernel) rfl
theorem gw_448 : (.selects "Bijectory" yX9_signs yX9_signs : Cond) ∈ kG := kG_of (by decide +kernel) rfl
theorem gw_449 : (.code yX9_ofMap cX9_ofMap 4 (some .int) : Cond) ∈ kG := kG_of (by decide +kernel) rfl
theorem gw_450 : (.methodLink "Bijectory" 307 yX9_ofMap : Cond) ∈ kG := kG_of (by decide +kernel) rfl
theorem gw_451 : (.instanceMethod yX9_ofMap : Cond) ∈ kG := kG_of (by decide +kernel) rfl
theorem gw_452 : (.selects "Bijectory" yX9_ofMap yX9_ofMap : Cond) ∈ kG := kG_of (by decide +kernel) rfl
theorem gw_453 : (.code yX9_image cX9_image 4 (some .int) : Cond) ∈ kG := kG_of (by decide +kernel) rfl
theorem gw_454 : (.methodLink "Bijectory" 310 yX9_image : Cond) ∈ kG := kG_of (by decide +kernel) rfl
theorem gw_455 : (.instanceMethod yX9_image : Cond) ∈ kG := kG_of (by decide +kernel) rfl
theorem gw_456 : (.selects "Bijectory" yX9_image yX9_image : Cond) ∈ kG := kG_of (by decide +kernel) rfl
theorem gw_457 : (.code yX9_rounds cX9_rounds 3 (some .int) : Cond) ∈ kG := kG_of (by decide +kernel) rfl
theorem gw_458 : (.methodLink "Bijectory" 313 yX9_rounds : Cond) ∈ kG := kG_of (by decide +kernel) rfl
theorem gw_459 : (.instanceMethod yX9_rounds : Cond) ∈ kG := kG_of (by decide +kernel) rfl
theorem gw_460 : (.selects "Bijectory" yX9_rounds yX9_rounds : Cond) ∈ kG := kG_of (by decide +kernel) rfl
theorem gw_461 : (.code yX9_period cX9_period 3 (some .long) : Cond) ∈ kG := kG_of (by decide +kernel) rfl
theorem gw_462 : (.methodLink "Bijectory" 315 yX9_period : Cond) ∈ kG := kG_of (by decide +kernel) rfl
theorem gw_463 : (.instanceMethod yX9_period : Cond) ∈ kG := kG_of (by decide +kernel) rfl
theorem gw_464 : (.selects "Bijectory" yX9_period yX9_period : Cond) ∈ kG := kG_of (by decide +kernel) rfl
theorem gw_465 : (.code yX9_against cX9_against 5 (some .int) : Cond) ∈ kG := kG_of (by decide +kernel) rfl
theorem gw_466 : (.methodLink "Bijectory" 318 yX9_against : Cond) ∈ kG := kG_of (by decide +kernel) rfl
theorem gw_467 : (.instanceMethod yX9_against : Cond) ∈ kG := kG_of (by decide +kernel) rfl
theorem gw_468 : (.selects "Bijectory" yX9_against yX9_against : Cond) ∈ kG := kG_of (by decide +kernel) rfl
theorem gw_469 : (.classLink "Bijectory" 323 "java/lang/IndexOutOfBoundsException" : Cond) ∈ kG := kG_of (by decide +kernel) rfl
theorem gw_470 : (.initialized "java/lang/IndexOutOfBoundsException" : Cond) ∈ kG := kG_of (by decide +kernel) rfl
theorem gw_471 : (.code yX2_isOrder cX2_isOrder 6 (some .boolean) : Cond) ∈ kG := kG_of (by decide +kernel) rfl
theorem gw_472 : (.methodLink "Bijectory" 338 yX2_isOrder : Cond) ∈ kG := kG_of (by decide +kernel) rfl
theorem gw_473 : (.static yX2_isOrder : Cond) ∈ kG := kG_of (by decide +kernel) rfl
theorem gw_474 : (.code yX1_note cX1_note 3 none : Cond) ∈ kG := kG_of (by decide +kernel) rfl
theorem gw_475 : (.methodLink "Bijectory" 341 yX1_note : Cond) ∈ kG := kG_of (by decide +kernel) rfl
theorem gw_476 : (.instanceMethod yX1_note : Cond) ∈ kG := kG_of (by decide +kernel) rfl
theorem gw_477 : (.selects "Bijectory$Claim" yX1_note yX1_note : Cond) ∈ kG := kG_of (by decide +kernel) rfl
def kxW : List Cond := [.fieldLinkNest "Bijectory$Orders" 9 "Bijectory" "ORDER_COUNTS" "[I" "Bijectory", .fieldLinkNest "Bijectory$Orders" 37 "Bijectory" "TENS" "[I" "Bijectory", .fieldLinkNest "Bijectory$Trees" 37 "Bijectory" "TENS" "[I" "Bijectory", .fieldLinkNest "Bijectory$Realm" 9 "Bijectory" "PATH_COUNTS" "[I" "Bijectory", .fieldLinkNest "Bijectory$Realm" 25 "Bijectory" "ORDER_COUNTS" "[I" "Bijectory", .arrayOver (.array .int), .fieldLinkNest "Bijectory$Realm" 82 "Bijectory" "STEP_FROM" "[I" "Bijectory", .fieldLinkNest "Bijectory$Realm" 85 "Bijectory" "STEP_TO" "[I" "Bijectory", .methodLinkNest "Bijectory$Realm" 112 yX3_graft "Bijectory", .methodLinkNest "Bijectory$Realm" 115 yX7_mirror "Bijectory", .methodLinkNest "Bijectory$Realm" 126 yX7_label "Bijectory", .methodLinkNest "Bijectory$Realm" 129 yX2_shape "Bijectory", .methodLinkNest "Bijectory$Realm" 144 yX7_valueOf "Bijectory", .fieldLinkNest "Bijectory$Chart" 25 "Bijectory" "STEP_FROM" "[I" "Bijectory", .fieldLinkNest "Bijectory$Chart" 35 "Bijectory" "STEP_TO" "[I" "Bijectory", .fieldLinkNest "Bijectory$Survey" 9 "Bijectory" "ORDER_COUNTS" "[I" "Bijectory", .arrayOver (.object "Bijectory$Realm"), .arrayOver (.object "Bijectory$Chart"), .arrayOver (.object "Bijectory$Walker"), .arrayOver (.object "Bijectory$Claim"), .castable "java/lang/IllegalArgumentException" "java/lang/IllegalArgumentException", .superclass "java/lang/Throwable" "java/lang/Object", .declares ⟨"java/lang/RuntimeException", "<init>", "(Ljava/lang/String;)V"⟩, .declares ⟨"java/lang/Exception", "<init>", "(Ljava/lang/String;)V"⟩, .declares ⟨"java/lang/Throwable", "<init>", "(Ljava/lang/String;)V"⟩, .castable "java/lang/IllegalStateException" "java/lang/IllegalStateException", .castable "java/lang/IndexOutOfBoundsException" "java/lang/IndexOutOfBoundsException"]
def kStr : List (String × Nat × String) := [("Bijectory", 50, "size is not 1 to 6"), ("Bijectory", 68, "there are 8 MAPS"), ("Bijectory", 80, "the MAP has 6 STEPS"), ("Bijectory", 86, "the MAP is in a CLAIM"), ("Bijectory", 101, "the STEP does not go from where the MAP goes to"), ("Bijectory", 113, "no such CODE"), ("Bijectory", 115, "there are 4 WALKERS"), ("Bijectory", 126, "there are 8 CLAIMS"), ("Bijectory", 139, "often is not 1 to 60"), ("Bijectory", 147, "the MAP is not FROM the WALKER\'s FAMILY"), ("Bijectory", 153, "the MAP is no MOVE"), ("Bijectory", 198, "pattern is no order of 1 to 2, 3 or 4"), ("Bijectory", 209, "times is not 0 to 6"), ("Bijectory", 215, "what is not 0 to 7"), ("Bijectory", 242, "what is not 0 to 4"), ("Bijectory", 268, "what is not 0 to 6"), ("Bijectory", 321, "step is not 0 to 10"), ("Bijectory", 325, "family is not 0 to 2"), ("Bijectory", 328, "a statistic is not 0 to 3"), ("Bijectory", 330, "there is no such RANK"), ("Bijectory", 332, "there is no such MAP"), ("Bijectory", 334, "there is no such WALKER"), ("Bijectory", 336, "there is no such CLAIM")]
def kXX (b : Nat) (U : State) : Prop := (∀ w ∈ kxW, va_Nw w U) ∧ (∀ q ∈ kStr, ∃ sa, vk_R q.1 q.2.1 q.2.2 sa U) ∧ vx_Zq Bundle.tN "UNASSIGNED_STACK" Bundle.steD (fun q => b ≤ q) U U.heap ∧ vx_Zq Bundle.tN "SUPPRESSED_SENTINEL" Bundle.listD (fun q => b ≤ q) U U.heap ∧ True
theorem xw_0 {b : Nat} {U : State} (h : kXX b U) : va_Nw (.fieldLinkNest "Bijectory$Orders" 9 "Bijectory" "ORDER_COUNTS" "[I" "Bijectory") U := h.1 _ (List.mem_of_getElem? (i := 0) rfl)
theorem xw_1 {b : Nat} {U : State} (h : kXX b U) : va_Nw (.fieldLinkNest "Bijectory$Orders" 37 "Bijectory" "TENS" "[I" "Bijectory") U := h.1 _ (List.mem_of_getElem? (i := 1) rfl)
theorem xw_2 {b : Nat} {U : State} (h : kXX b U) : va_Nw (.fieldLinkNest "Bijectory$Trees" 37 "Bijectory" "TENS" "[I" "Bijectory") U := h.1 _ (List.mem_of_getElem? (i := 2) rfl)
theorem xw_3 {b : Nat} {U : State} (h : kXX b U) : va_Nw (.fieldLinkNest "Bijectory$Realm" 9 "Bijectory" "PATH_COUNTS" "[I" "Bijectory") U := h.1 _ (List.mem_of_getElem? (i := 3) rfl)
theorem xw_4 {b : Nat} {U : State} (h : kXX b U) : va_Nw (.fieldLinkNest "Bijectory$Realm" 25 "Bijectory" "ORDER_COUNTS" "[I" "Bijectory") U := h.1 _ (List.mem_of_getElem? (i := 4) rfl)
theorem xw_5 {b : Nat} {U : State} (h : kXX b U) : va_Nw (.arrayOver (.array .int)) U := h.1 _ (List.mem_of_getElem? (i := 5) rfl)
theorem xw_6 {b : Nat} {U : State} (h : kXX b U) : va_Nw (.fieldLinkNest "Bijectory$Realm" 82 "Bijectory" "STEP_FROM" "[I" "Bijectory") U := h.1 _ (List.mem_of_getElem? (i := 6) rfl)
theorem xw_7 {b : Nat} {U : State} (h : kXX b U) : va_Nw (.fieldLinkNest "Bijectory$Realm" 85 "Bijectory" "STEP_TO" "[I" "Bijectory") U := h.1 _ (List.mem_of_getElem? (i := 7) rfl)
theorem xw_8 {b : Nat} {U : State} (h : kXX b U) : va_Nw (.methodLinkNest "Bijectory$Realm" 112 yX3_graft "Bijectory") U := h.1 _ (List.mem_of_getElem? (i := 8) rfl)
theorem xw_9 {b : Nat} {U : State} (h : kXX b U) : va_Nw (.methodLinkNest "Bijectory$Realm" 115 yX7_mirror "Bijectory") U := h.1 _ (List.mem_of_getElem? (i := 9) rfl)
theorem xw_10 {b : Nat} {U : State} (h : kXX b U) : va_Nw (.methodLinkNest "Bijectory$Realm" 126 yX7_label "Bijectory") U := h.1 _ (List.mem_of_getElem? (i := 10) rfl)
theorem xw_11 {b : Nat} {U : State} (h : kXX b U) : va_Nw (.methodLinkNest "Bijectory$Realm" 129 yX2_shape "Bijectory") U := h.1 _ (List.mem_of_getElem? (i := 11) rfl)
theorem xw_12 {b : Nat} {U : State} (h : kXX b U) : va_Nw (.methodLinkNest "Bijectory$Realm" 144 yX7_valueOf "Bijectory") U := h.1 _ (List.mem_of_getElem? (i := 12) rfl)
theorem xw_13 {b : Nat} {U : State} (h : kXX b U) : va_Nw (.fieldLinkNest "Bijectory$Chart" 25 "Bijectory" "STEP_FROM" "[I" "Bijectory") U := h.1 _ (List.mem_of_getElem? (i := 13) rfl)
theorem xw_14 {b : Nat} {U : State} (h : kXX b U) : va_Nw (.fieldLinkNest "Bijectory$Chart" 35 "Bijectory" "STEP_TO" "[I" "Bijectory") U := h.1 _ (List.mem_of_getElem? (i := 14) rfl)
theorem xw_15 {b : Nat} {U : State} (h : kXX b U) : va_Nw (.fieldLinkNest "Bijectory$Survey" 9 "Bijectory" "ORDER_COUNTS" "[I" "Bijectory") U := h.1 _ (List.mem_of_getElem? (i := 15) rfl)
theorem xw_16 {b : Nat} {U : State} (h : kXX b U) : va_Nw (.arrayOver (.object "Bijectory$Realm")) U := h.1 _ (List.mem_of_getElem? (i := 16) rfl)
theorem xw_17 {b : Nat} {U : State} (h : kXX b U) : va_Nw (.arrayOver (.object "Bijectory$Chart")) U := h.1 _ (List.mem_of_getElem? (i := 17) rfl)
theorem xw_18 {b : Nat} {U : State} (h : kXX b U) : va_Nw (.arrayOver (.object "Bijectory$Walker")) U := h.1 _ (List.mem_of_getElem? (i := 18) rfl)
theorem xw_19 {b : Nat} {U : State} (h : kXX b U) : va_Nw (.arrayOver (.object "Bijectory$Claim")) U := h.1 _ (List.mem_of_getElem? (i := 19) rfl)
theorem xw_20 {b : Nat} {U : State} (h : kXX b U) : va_Nw (.castable "java/lang/IllegalArgumentException" "java/lang/IllegalArgumentException") U := h.1 _ (List.mem_of_getElem? (i := 20) rfl)
theorem xw_21 {b : Nat} {U : State} (h : kXX b U) : va_Nw (.superclass "java/lang/Throwable" "java/lang/Object") U := h.1 _ (List.mem_of_getElem? (i := 21) rfl)
theorem xw_22 {b : Nat} {U : State} (h : kXX b U) : va_Nw (.declares ⟨"java/lang/RuntimeException", "<init>", "(Ljava/lang/String;)V"⟩) U := h.1 _ (List.mem_of_getElem? (i := 22) rfl)
theorem xw_23 {b : Nat} {U : State} (h : kXX b U) : va_Nw (.declares ⟨"java/lang/Exception", "<init>", "(Ljava/lang/String;)V"⟩) U := h.1 _ (List.mem_of_getElem? (i := 23) rfl)
theorem xw_24 {b : Nat} {U : State} (h : kXX b U) : va_Nw (.declares ⟨"java/lang/Throwable", "<init>", "(Ljava/lang/String;)V"⟩) U := h.1 _ (List.mem_of_getElem? (i := 24) rfl)
theorem xw_25 {b : Nat} {U : State} (h : kXX b U) : va_Nw (.castable "java/lang/IllegalStateException" "java/lang/IllegalStateException") U := h.1 _ (List.mem_of_getElem? (i := 25) rfl)
theorem xw_26 {b : Nat} {U : State} (h : kXX b U) : va_Nw (.castable "java/lang/IndexOutOfBoundsException" "java/lang/IndexOutOfBoundsException") U := h.1 _ (List.mem_of_getElem? (i := 26) rfl)
theorem st_0 {b : Nat} {U : State} (h : kXX b U) : ∃ sa, vk_R "Bijectory" 50 "size is not 1 to 6" sa U := h.2.1 _ (List.mem_of_getElem? (i := 0) rfl)
theorem st_1 {b : Nat} {U : State} (h : kXX b U) : ∃ sa, vk_R "Bijectory" 68 "there are 8 MAPS" sa U := h.2.1 _ (List.mem_of_getElem? (i := 1) rfl)
theorem st_2 {b : Nat} {U : State} (h : kXX b U) : ∃ sa, vk_R "Bijectory" 80 "the MAP has 6 STEPS" sa U := h.2.1 _ (List.mem_of_getElem? (i := 2) rfl)
theorem st_3 {b : Nat} {U : State} (h : kXX b U) : ∃ sa, vk_R "Bijectory" 86 "the MAP is in a CLAIM" sa U := h.2.1 _ (List.mem_of_getElem? (i := 3) rfl)
theorem st_4 {b : Nat} {U : State} (h : kXX b U) : ∃ sa, vk_R "Bijectory" 101 "the STEP does not go from where the MAP goes to" sa U := h.2.1 _ (List.mem_of_getElem? (i := 4) rfl)
theorem st_5 {b : Nat} {U : State} (h : kXX b U) : ∃ sa, vk_R "Bijectory" 113 "no such CODE" sa U := h.2.1 _ (List.mem_of_getElem? (i := 5) rfl)
theorem st_6 {b : Nat} {U : State} (h : kXX b U) : ∃ sa, vk_R "Bijectory" 115 "there are 4 WALKERS" sa U := h.2.1 _ (List.mem_of_getElem? (i := 6) rfl)
theorem st_7 {b : Nat} {U : State} (h : kXX b U) : ∃ sa, vk_R "Bijectory" 126 "there are 8 CLAIMS" sa U := h.2.1 _ (List.mem_of_getElem? (i := 7) rfl)
theorem st_8 {b : Nat} {U : State} (h : kXX b U) : ∃ sa, vk_R "Bijectory" 139 "often is not 1 to 60" sa U := h.2.1 _ (List.mem_of_getElem? (i := 8) rfl)
theorem st_9 {b : Nat} {U : State} (h : kXX b U) : ∃ sa, vk_R "Bijectory" 147 "the MAP is not FROM the WALKER\'s FAMILY" sa U := h.2.1 _ (List.mem_of_getElem? (i := 9) rfl)
theorem st_10 {b : Nat} {U : State} (h : kXX b U) : ∃ sa, vk_R "Bijectory" 153 "the MAP is no MOVE" sa U := h.2.1 _ (List.mem_of_getElem? (i := 10) rfl)
theorem st_11 {b : Nat} {U : State} (h : kXX b U) : ∃ sa, vk_R "Bijectory" 198 "pattern is no order of 1 to 2, 3 or 4" sa U := h.2.1 _ (List.mem_of_getElem? (i := 11) rfl)
theorem st_12 {b : Nat} {U : State} (h : kXX b U) : ∃ sa, vk_R "Bijectory" 209 "times is not 0 to 6" sa U := h.2.1 _ (List.mem_of_getElem? (i := 12) rfl)
theorem st_13 {b : Nat} {U : State} (h : kXX b U) : ∃ sa, vk_R "Bijectory" 215 "what is not 0 to 7" sa U := h.2.1 _ (List.mem_of_getElem? (i := 13) rfl)
theorem st_14 {b : Nat} {U : State} (h : kXX b U) : ∃ sa, vk_R "Bijectory" 242 "what is not 0 to 4" sa U := h.2.1 _ (List.mem_of_getElem? (i := 14) rfl)
theorem st_15 {b : Nat} {U : State} (h : kXX b U) : ∃ sa, vk_R "Bijectory" 268 "what is not 0 to 6" sa U := h.2.1 _ (List.mem_of_getElem? (i := 15) rfl)
theorem st_16 {b : Nat} {U : State} (h : kXX b U) : ∃ sa, vk_R "Bijectory" 321 "step is not 0 to 10" sa U := h.2.1 _ (List.mem_of_getElem? (i := 16) rfl)
theorem st_17 {b : Nat} {U : State} (h : kXX b U) : ∃ sa, vk_R "Bijectory" 325 "family is not 0 to 2" sa U := h.2.1 _ (List.mem_of_getElem? (i := 17) rfl)
theorem st_18 {b : Nat} {U : State} (h : kXX b U) : ∃ sa, vk_R "Bijectory" 328 "a statistic is not 0 to 3" sa U := h.2.1 _ (List.mem_of_getElem? (i := 18) rfl)
theorem st_19 {b : Nat} {U : State} (h : kXX b U) : ∃ sa, vk_R "Bijectory" 330 "there is no such RANK" sa U := h.2.1 _ (List.mem_of_getElem? (i := 19) rfl)
theorem st_20 {b : Nat} {U : State} (h : kXX b U) : ∃ sa, vk_R "Bijectory" 332 "there is no such MAP" sa U := h.2.1 _ (List.mem_of_getElem? (i := 20) rfl)
theorem st_21 {b : Nat} {U : State} (h : kXX b U) : ∃ sa, vk_R "Bijectory" 334 "there is no such WALKER" sa U := h.2.1 _ (List.mem_of_getElem? (i := 21) rfl)
theorem st_22 {b : Nat} {U : State} (h : kXX b U) : ∃ sa, vk_R "Bijectory" 336 "there is no such CLAIM" sa U := h.2.1 _ (List.mem_of_getElem? (i := 22) rfl)
theorem k_hat {args : Array Value} {s : State} {c0 : Cond} {b : Nat} {L : List Cond} (hts : ∀ w ∈ c0 :: kG, w.before args s = true) (h : kXX b s) (h1 : (L.filter goodWord).all (fun w => decide (w ∈ lw_tbl)) = true) (h2 : (L.filter (fun w => !goodWord w)).all (fun w => decide (w ∈ kxW) && w.onTables) = true) : ∀ w ∈ L, w.before args s = true := by
  intro w hw
  by_cases hg : goodWord w = true
  · exact hts w (kG_in (kG_of (of_decide_eq_true (List.all_eq_true.mp h1 w (List.mem_filter.mpr ⟨hw, hg⟩))) hg))
  · have h3 := List.all_eq_true.mp h2 w (List.mem_filter.mpr ⟨hw, by simp [hg]⟩)
    simp only [Bool.and_eq_true, decide_eq_true_eq] at h3
    exact va_Nw.use h3.2 (h.1 w h3.1)
theorem at_0 {args : Array Value} {s : State} {c0 : Cond} {b : Nat} (hts : ∀ w ∈ c0 :: kG, w.before args s = true) (h : kXX b s) : ∀ w ∈ vx_atS "Bijectory" 52 (kEx 0) ["java/lang/RuntimeException", "java/lang/Exception"], w.before args s = true := k_hat hts h (by decide +kernel) (by decide +kernel)
theorem at_1 {args : Array Value} {s : State} {c0 : Cond} {b : Nat} (hts : ∀ w ∈ c0 :: kG, w.before args s = true) (h : kXX b s) : ∀ w ∈ vx_atS "Bijectory" 70 (kEx 1) ["java/lang/RuntimeException", "java/lang/Exception"], w.before args s = true := k_hat hts h (by decide +kernel) (by decide +kernel)
theorem at_2 {args : Array Value} {s : State} {c0 : Cond} {b : Nat} (hts : ∀ w ∈ c0 :: kG, w.before args s = true) (h : kXX b s) : ∀ w ∈ vx_atS "Bijectory" 327 (kEx 2) ["java/lang/RuntimeException", "java/lang/Exception"], w.before args s = true := k_hat hts h (by decide +kernel) (by decide +kernel)
theorem gd_0 : ∀ w ∈ Cond.classLink "Bijectory" 48 (kEx 0) :: Cond.initialized (kEx 0) :: vx_atS "Bijectory" 52 (kEx 0) ["java/lang/RuntimeException", "java/lang/Exception"], vx_ot w = true := fun w hw => List.all_eq_true.mp (show (Cond.classLink "Bijectory" 48 (kEx 0) :: Cond.initialized (kEx 0) :: vx_atS "Bijectory" 52 (kEx 0) ["java/lang/RuntimeException", "java/lang/Exception"]).all vx_ot = true by decide +kernel) w hw
theorem gd_1 : ∀ w ∈ Cond.classLink "Bijectory" 66 (kEx 1) :: Cond.initialized (kEx 1) :: vx_atS "Bijectory" 70 (kEx 1) ["java/lang/RuntimeException", "java/lang/Exception"], vx_ot w = true := fun w hw => List.all_eq_true.mp (show (Cond.classLink "Bijectory" 66 (kEx 1) :: Cond.initialized (kEx 1) :: vx_atS "Bijectory" 70 (kEx 1) ["java/lang/RuntimeException", "java/lang/Exception"]).all vx_ot = true by decide +kernel) w hw
theorem gd_2 : ∀ w ∈ Cond.classLink "Bijectory" 323 (kEx 2) :: Cond.initialized (kEx 2) :: vx_atS "Bijectory" 327 (kEx 2) ["java/lang/RuntimeException", "java/lang/Exception"], vx_ot w = true := fun w hw => List.all_eq_true.mp (show (Cond.classLink "Bijectory" 323 (kEx 2) :: Cond.initialized (kEx 2) :: vx_atS "Bijectory" 327 (kEx 2) ["java/lang/RuntimeException", "java/lang/Exception"]).all vx_ot = true by decide +kernel) w hw
theorem sn_0 {E : kE} {XX : State → Prop} {σ : List Nat} {zs : List (String × String × Nat)} {l : Launch} {d : Nat} {cl : kCall} (hS : kSnd E XX σ zs l kY kWS d cl) : ∀ args1 hs r, cl 0 args1 hs = some r → kMet E XX σ zs l yX5_at (kws yX5_at cX5_at 2 (some .int)) d args1 hs r := hS 0
theorem sn_1 {E : kE} {XX : State → Prop} {σ : List Nat} {zs : List (String × String × Nat)} {l : Launch} {d : Nat} {cl : kCall} (hS : kSnd E XX σ zs l kY kWS d cl) : ∀ args1 hs r, cl 1 args1 hs = some r → kMet E XX σ zs l yX5_at_ (kws yX5_at_ cX5_at_ 4 (some .int)) d args1 hs r := hS 1
theorem sn_2 {E : kE} {XX : State → Prop} {σ : List Nat} {zs : List (String × String × Nat)} {l : Launch} {d : Nat} {cl : kCall} (hS : kSnd E XX σ zs l kY kWS d cl) : ∀ args1 hs r, cl 2 args1 hs = some r → kMet E XX σ zs l yX5_put (kws yX5_put cX5_put 3 none) d args1 hs r := hS 2
theorem sn_3 {E : kE} {XX : State → Prop} {σ : List Nat} {zs : List (String × String × Nat)} {l : Launch} {d : Nat} {cl : kCall} (hS : kSnd E XX σ zs l kY kWS d cl) : ∀ args1 hs r, cl 3 args1 hs = some r → kMet E XX σ zs l yX5_put_ (kws yX5_put_ cX5_put_ 5 none) d args1 hs r := hS 3
theorem sn_4 {E : kE} {XX : State → Prop} {σ : List Nat} {zs : List (String × String × Nat)} {l : Launch} {d : Nat} {cl : kCall} (hS : kSnd E XX σ zs l kY kWS d cl) : ∀ args1 hs r, cl 4 args1 hs = some r → kMet E XX σ zs l yX3_isPath (kws yX3_isPath cX3_isPath 4 (some .boolean)) d args1 hs r := hS 4
theorem sn_5 {E : kE} {XX : State → Prop} {σ : List Nat} {zs : List (String × String × Nat)} {l : Launch} {d : Nat} {cl : kCall} (hS : kSnd E XX σ zs l kY kWS d cl) : ∀ args1 hs r, cl 5 args1 hs = some r → kMet E XX σ zs l yX3_isUp (kws yX3_isUp cX3_isUp 2 (some .boolean)) d args1 hs r := hS 5
theorem sn_6 {E : kE} {XX : State → Prop} {σ : List Nat} {zs : List (String × String × Nat)} {l : Launch} {d : Nat} {cl : kCall} (hS : kSnd E XX σ zs l kY kWS d cl) : ∀ args1 hs r, cl 6 args1 hs = some r → kMet E XX σ zs l yX3_rise (kws yX3_rise cX3_rise 2 (some .int)) d args1 hs r := hS 6
theorem sn_7 {E : kE} {XX : State → Prop} {σ : List Nat} {zs : List (String × String × Nat)} {l : Launch} {d : Nat} {cl : kCall} (hS : kSnd E XX σ zs l kY kWS d cl) : ∀ args1 hs r, cl 7 args1 hs = some r → kMet E XX σ zs l yX3_part (kws yX3_part cX3_part 3 (some .int)) d args1 hs r := hS 7
theorem sn_8 {E : kE} {XX : State → Prop} {σ : List Nat} {zs : List (String × String × Nat)} {l : Launch} {d : Nat} {cl : kCall} (hS : kSnd E XX σ zs l kY kWS d cl) : ∀ args1 hs r, cl 8 args1 hs = some r → kMet E XX σ zs l yX3_pairsOfFirst (kws yX3_pairsOfFirst cX3_pairsOfFirst 4 (some .int)) d args1 hs r := hS 8
theorem sn_9 {E : kE} {XX : State → Prop} {σ : List Nat} {zs : List (String × String × Nat)} {l : Launch} {d : Nat} {cl : kCall} (hS : kSnd E XX σ zs l kY kWS d cl) : ∀ args1 hs r, cl 9 args1 hs = some r → kMet E XX σ zs l yX3_pairsOfLast (kws yX3_pairsOfLast cX3_pairsOfLast 4 (some .int)) d args1 hs r := hS 9
theorem sn_10 {E : kE} {XX : State → Prop} {σ : List Nat} {zs : List (String × String × Nat)} {l : Launch} {d : Nat} {cl : kCall} (hS : kSnd E XX σ zs l kY kWS d cl) : ∀ args1 hs r, cl 10 args1 hs = some r → kMet E XX σ zs l yX3_graft (kws yX3_graft cX3_graft 6 (some .int)) d args1 hs r := hS 10
theorem sn_11 {E : kE} {XX : State → Prop} {σ : List Nat} {zs : List (String × String × Nat)} {l : Launch} {d : Nat} {cl : kCall} (hS : kSnd E XX σ zs l kY kWS d cl) : ∀ args1 hs r, cl 11 args1 hs = some r → kMet E XX σ zs l yX3_backward (kws yX3_backward cX3_backward 4 (some .int)) d args1 hs r := hS 11
theorem sn_12 {E : kE} {XX : State → Prop} {σ : List Nat} {zs : List (String × String × Nat)} {l : Launch} {d : Nat} {cl : kCall} (hS : kSnd E XX σ zs l kY kWS d cl) : ∀ args1 hs r, cl 12 args1 hs = some r → kMet E XX σ zs l yX3_roll (kws yX3_roll cX3_roll 6 (some .int)) d args1 hs r := hS 12
theorem sn_13 {E : kE} {XX : State → Prop} {σ : List Nat} {zs : List (String × String × Nat)} {l : Launch} {d : Nat} {cl : kCall} (hS : kSnd E XX σ zs l kY kWS d cl) : ∀ args1 hs r, cl 13 args1 hs = some r → kMet E XX σ zs l yX3_valueOf (kws yX3_valueOf cX3_valueOf 3 (some .int)) d args1 hs r := hS 13
theorem sn_14 {E : kE} {XX : State → Prop} {σ : List Nat} {zs : List (String × String × Nat)} {l : Launch} {d : Nat} {cl : kCall} (hS : kSnd E XX σ zs l kY kWS d cl) : ∀ args1 hs r, cl 14 args1 hs = some r → kMet E XX σ zs l yX3_peaks (kws yX3_peaks cX3_peaks 4 (some .int)) d args1 hs r := hS 14
theorem sn_15 {E : kE} {XX : State → Prop} {σ : List Nat} {zs : List (String × String × Nat)} {l : Launch} {d : Nat} {cl : kCall} (hS : kSnd E XX σ zs l kY kWS d cl) : ∀ args1 hs r, cl 15 args1 hs = some r → kMet E XX σ zs l yX3_returns (kws yX3_returns cX3_returns 5 (some .int)) d args1 hs r := hS 15
theorem sn_16 {E : kE} {XX : State → Prop} {σ : List Nat} {zs : List (String × String × Nat)} {l : Launch} {d : Nat} {cl : kCall} (hS : kSnd E XX σ zs l kY kWS d cl) : ∀ args1 hs r, cl 16 args1 hs = some r → kMet E XX σ zs l yX3_greatestHeight (kws yX3_greatestHeight cX3_greatestHeight 5 (some .int)) d args1 hs r := hS 16
theorem sn_17 {E : kE} {XX : State → Prop} {σ : List Nat} {zs : List (String × String × Nat)} {l : Launch} {d : Nat} {cl : kCall} (hS : kSnd E XX σ zs l kY kWS d cl) : ∀ args1 hs r, cl 17 args1 hs = some r → kMet E XX σ zs l yX3_area (kws yX3_area cX3_area 5 (some .int)) d args1 hs r := hS 17
theorem sn_18 {E : kE} {XX : State → Prop} {σ : List Nat} {zs : List (String × String × Nat)} {l : Launch} {d : Nat} {cl : kCall} (hS : kSnd E XX σ zs l kY kWS d cl) : ∀ args1 hs r, cl 18 args1 hs = some r → kMet E XX σ zs l yX2_isOrder (kws yX2_isOrder cX2_isOrder 6 (some .boolean)) d args1 hs r := hS 18
theorem sn_19 {E : kE} {XX : State → Prop} {σ : List Nat} {zs : List (String × String × Nat)} {l : Launch} {d : Nat} {cl : kCall} (hS : kSnd E XX σ zs l kY kWS d cl) : ∀ args1 hs r, cl 19 args1 hs = some r → kMet E XX σ zs l yX2_at (kws yX2_at cX2_at 5 (some .int)) d args1 hs r := hS 19
theorem sn_20 {E : kE} {XX : State → Prop} {σ : List Nat} {zs : List (String × String × Nat)} {l : Launch} {d : Nat} {cl : kCall} (hS : kSnd E XX σ zs l kY kWS d cl) : ∀ args1 hs r, cl 20 args1 hs = some r → kMet E XX σ zs l yX2_ofRank (kws yX2_ofRank cX2_ofRank 8 (some .int)) d args1 hs r := hS 20
theorem sn_21 {E : kE} {XX : State → Prop} {σ : List Nat} {zs : List (String × String × Nat)} {l : Launch} {d : Nat} {cl : kCall} (hS : kSnd E XX σ zs l kY kWS d cl) : ∀ args1 hs r, cl 21 args1 hs = some r → kMet E XX σ zs l yX2_freeNumber (kws yX2_freeNumber cX2_freeNumber 5 (some .int)) d args1 hs r := hS 21
theorem sn_22 {E : kE} {XX : State → Prop} {σ : List Nat} {zs : List (String × String × Nat)} {l : Launch} {d : Nat} {cl : kCall} (hS : kSnd E XX σ zs l kY kWS d cl) : ∀ args1 hs r, cl 22 args1 hs = some r → kMet E XX σ zs l yX2_shape (kws yX2_shape cX2_shape 7 (some .int)) d args1 hs r := hS 22
theorem sn_23 {E : kE} {XX : State → Prop} {σ : List Nat} {zs : List (String × String × Nat)} {l : Launch} {d : Nat} {cl : kCall} (hS : kSnd E XX σ zs l kY kWS d cl) : ∀ args1 hs r, cl 23 args1 hs = some r → kMet E XX σ zs l yX2_invert (kws yX2_invert cX2_invert 4 (some .int)) d args1 hs r := hS 23
theorem sn_24 {E : kE} {XX : State → Prop} {σ : List Nat} {zs : List (String × String × Nat)} {l : Launch} {d : Nat} {cl : kCall} (hS : kSnd E XX σ zs l kY kWS d cl) : ∀ args1 hs r, cl 24 args1 hs = some r → kMet E XX σ zs l yX2_turn (kws yX2_turn cX2_turn 5 (some .int)) d args1 hs r := hS 24
theorem sn_25 {E : kE} {XX : State → Prop} {σ : List Nat} {zs : List (String × String × Nat)} {l : Launch} {d : Nat} {cl : kCall} (hS : kSnd E XX σ zs l kY kWS d cl) : ∀ args1 hs r, cl 25 args1 hs = some r → kMet E XX σ zs l yX2_sort (kws yX2_sort cX2_sort 6 (some .int)) d args1 hs r := hS 25
theorem sn_26 {E : kE} {XX : State → Prop} {σ : List Nat} {zs : List (String × String × Nat)} {l : Launch} {d : Nat} {cl : kCall} (hS : kSnd E XX σ zs l kY kWS d cl) : ∀ args1 hs r, cl 26 args1 hs = some r → kMet E XX σ zs l yX2_valueOf (kws yX2_valueOf cX2_valueOf 3 (some .int)) d args1 hs r := hS 26
theorem sn_27 {E : kE} {XX : State → Prop} {σ : List Nat} {zs : List (String × String × Nat)} {l : Launch} {d : Nat} {cl : kCall} (hS : kSnd E XX σ zs l kY kWS d cl) : ∀ args1 hs r, cl 27 args1 hs = some r → kMet E XX σ zs l yX2_drops (kws yX2_drops cX2_drops 4 (some .int)) d args1 hs r := hS 27
theorem sn_28 {E : kE} {XX : State → Prop} {σ : List Nat} {zs : List (String × String × Nat)} {l : Launch} {d : Nat} {cl : kCall} (hS : kSnd E XX σ zs l kY kWS d cl) : ∀ args1 hs r, cl 28 args1 hs = some r → kMet E XX σ zs l yX2_inversions (kws yX2_inversions cX2_inversions 5 (some .int)) d args1 hs r := hS 28
theorem sn_29 {E : kE} {XX : State → Prop} {σ : List Nat} {zs : List (String × String × Nat)} {l : Launch} {d : Nat} {cl : kCall} (hS : kSnd E XX σ zs l kY kWS d cl) : ∀ args1 hs r, cl 29 args1 hs = some r → kMet E XX σ zs l yX2_records (kws yX2_records cX2_records 6 (some .int)) d args1 hs r := hS 29
theorem sn_30 {E : kE} {XX : State → Prop} {σ : List Nat} {zs : List (String × String × Nat)} {l : Launch} {d : Nat} {cl : kCall} (hS : kSnd E XX σ zs l kY kWS d cl) : ∀ args1 hs r, cl 30 args1 hs = some r → kMet E XX σ zs l yX2_unmoved (kws yX2_unmoved cX2_unmoved 4 (some .int)) d args1 hs r := hS 30
theorem sn_31 {E : kE} {XX : State → Prop} {σ : List Nat} {zs : List (String × String × Nat)} {l : Launch} {d : Nat} {cl : kCall} (hS : kSnd E XX σ zs l kY kWS d cl) : ∀ args1 hs r, cl 31 args1 hs = some r → kMet E XX σ zs l yX2_timesContained (kws yX2_timesContained cX2_timesContained 6 (some .int)) d args1 hs r := hS 31
theorem sn_32 {E : kE} {XX : State → Prop} {σ : List Nat} {zs : List (String × String × Nat)} {l : Launch} {d : Nat} {cl : kCall} (hS : kSnd E XX σ zs l kY kWS d cl) : ∀ args1 hs r, cl 32 args1 hs = some r → kMet E XX σ zs l yX2_chosen (kws yX2_chosen cX2_chosen 5 (some .int)) d args1 hs r := hS 32
theorem sn_33 {E : kE} {XX : State → Prop} {σ : List Nat} {zs : List (String × String × Nat)} {l : Launch} {d : Nat} {cl : kCall} (hS : kSnd E XX σ zs l kY kWS d cl) : ∀ args1 hs r, cl 33 args1 hs = some r → kMet E XX σ zs l yX2_patternOf (kws yX2_patternOf cX2_patternOf 6 (some .int)) d args1 hs r := hS 33
theorem sn_34 {E : kE} {XX : State → Prop} {σ : List Nat} {zs : List (String × String × Nat)} {l : Launch} {d : Nat} {cl : kCall} (hS : kSnd E XX σ zs l kY kWS d cl) : ∀ args1 hs r, cl 34 args1 hs = some r → kMet E XX σ zs l yX7_node (kws yX7_node cX7_node 4 (some .int)) d args1 hs r := hS 34
theorem sn_35 {E : kE} {XX : State → Prop} {σ : List Nat} {zs : List (String × String × Nat)} {l : Launch} {d : Nat} {cl : kCall} (hS : kSnd E XX σ zs l kY kWS d cl) : ∀ args1 hs r, cl 35 args1 hs = some r → kMet E XX σ zs l yX7_leftOf (kws yX7_leftOf cX7_leftOf 3 (some .int)) d args1 hs r := hS 35
theorem sn_36 {E : kE} {XX : State → Prop} {σ : List Nat} {zs : List (String × String × Nat)} {l : Launch} {d : Nat} {cl : kCall} (hS : kSnd E XX σ zs l kY kWS d cl) : ∀ args1 hs r, cl 36 args1 hs = some r → kMet E XX σ zs l yX7_rightOf (kws yX7_rightOf cX7_rightOf 2 (some .int)) d args1 hs r := hS 36
theorem sn_37 {E : kE} {XX : State → Prop} {σ : List Nat} {zs : List (String × String × Nat)} {l : Launch} {d : Nat} {cl : kCall} (hS : kSnd E XX σ zs l kY kWS d cl) : ∀ args1 hs r, cl 37 args1 hs = some r → kMet E XX σ zs l yX7_mirror (kws yX7_mirror cX7_mirror 6 (some .int)) d args1 hs r := hS 37
theorem sn_38 {E : kE} {XX : State → Prop} {σ : List Nat} {zs : List (String × String × Nat)} {l : Launch} {d : Nat} {cl : kCall} (hS : kSnd E XX σ zs l kY kWS d cl) : ∀ args1 hs r, cl 38 args1 hs = some r → kMet E XX σ zs l yX7_label (kws yX7_label cX7_label 7 (some .int)) d args1 hs r := hS 38
theorem sn_39 {E : kE} {XX : State → Prop} {σ : List Nat} {zs : List (String × String × Nat)} {l : Launch} {d : Nat} {cl : kCall} (hS : kSnd E XX σ zs l kY kWS d cl) : ∀ args1 hs r, cl 39 args1 hs = some r → kMet E XX σ zs l yX7_valueOf (kws yX7_valueOf cX7_valueOf 7 (some .int)) d args1 hs r := hS 39
theorem sn_40 {E : kE} {XX : State → Prop} {σ : List Nat} {zs : List (String × String × Nat)} {l : Launch} {d : Nat} {cl : kCall} (hS : kSnd E XX σ zs l kY kWS d cl) : ∀ args1 hs r, cl 40 args1 hs = some r → kMet E XX σ zs l yJ6_bitCount_0f7a4 (kws yJ6_bitCount_0f7a4 cJ6_bitCount_0f7a4 1 (some .int)) d args1 hs r := hS 40
theorem sn_41 {E : kE} {XX : State → Prop} {σ : List Nat} {zs : List (String × String × Nat)} {l : Launch} {d : Nat} {cl : kCall} (hS : kSnd E XX σ zs l kY kWS d cl) : ∀ args1 hs r, cl 41 args1 hs = some r → kMet E XX σ zs l yX4_init (kws yX4_init cX4_init 4 none) d args1 hs r := hS 41
theorem sn_42 {E : kE} {XX : State → Prop} {σ : List Nat} {zs : List (String × String × Nat)} {l : Launch} {d : Nat} {cl : kCall} (hS : kSnd E XX σ zs l kY kWS d cl) : ∀ args1 hs r, cl 42 args1 hs = some r → kMet E XX σ zs l yX4_of (kws yX4_of cX4_of 4 (some (.object "Bijectory$Realm"))) d args1 hs r := hS 42
theorem sn_43 {E : kE} {XX : State → Prop} {σ : List Nat} {zs : List (String × String × Nat)} {l : Launch} {d : Nat} {cl : kCall} (hS : kSnd E XX σ zs l kY kWS d cl) : ∀ args1 hs r, cl 43 args1 hs = some r → kMet E XX σ zs l yX4_listPaths (kws yX4_listPaths cX4_listPaths 3 none) d args1 hs r := hS 43
theorem sn_44 {E : kE} {XX : State → Prop} {σ : List Nat} {zs : List (String × String × Nat)} {l : Launch} {d : Nat} {cl : kCall} (hS : kSnd E XX σ zs l kY kWS d cl) : ∀ args1 hs r, cl 44 args1 hs = some r → kMet E XX σ zs l yX4_listOrders (kws yX4_listOrders cX4_listOrders 2 none) d args1 hs r := hS 44
theorem sn_45 {E : kE} {XX : State → Prop} {σ : List Nat} {zs : List (String × String × Nat)} {l : Launch} {d : Nat} {cl : kCall} (hS : kSnd E XX σ zs l kY kWS d cl) : ∀ args1 hs r, cl 45 args1 hs = some r → kMet E XX σ zs l yX4_listImages (kws yX4_listImages cX4_listImages 5 none) d args1 hs r := hS 45
theorem sn_46 {E : kE} {XX : State → Prop} {σ : List Nat} {zs : List (String × String × Nat)} {l : Launch} {d : Nat} {cl : kCall} (hS : kSnd E XX σ zs l kY kWS d cl) : ∀ args1 hs r, cl 46 args1 hs = some r → kMet E XX σ zs l yX4_listValues (kws yX4_listValues cX4_listValues 6 none) d args1 hs r := hS 46
theorem sn_47 {E : kE} {XX : State → Prop} {σ : List Nat} {zs : List (String × String × Nat)} {l : Launch} {d : Nat} {cl : kCall} (hS : kSnd E XX σ zs l kY kWS d cl) : ∀ args1 hs r, cl 47 args1 hs = some r → kMet E XX σ zs l yX4_imageCode (kws yX4_imageCode cX4_imageCode 3 (some .int)) d args1 hs r := hS 47
theorem sn_48 {E : kE} {XX : State → Prop} {σ : List Nat} {zs : List (String × String × Nat)} {l : Launch} {d : Nat} {cl : kCall} (hS : kSnd E XX σ zs l kY kWS d cl) : ∀ args1 hs r, cl 48 args1 hs = some r → kMet E XX σ zs l yX4_valueByCode (kws yX4_valueByCode cX4_valueByCode 4 (some .int)) d args1 hs r := hS 48
theorem sn_49 {E : kE} {XX : State → Prop} {σ : List Nat} {zs : List (String × String × Nat)} {l : Launch} {d : Nat} {cl : kCall} (hS : kSnd E XX σ zs l kY kWS d cl) : ∀ args1 hs r, cl 49 args1 hs = some r → kMet E XX σ zs l yX4_codes (kws yX4_codes cX4_codes 2 (some (.array .int))) d args1 hs r := hS 49
theorem sn_50 {E : kE} {XX : State → Prop} {σ : List Nat} {zs : List (String × String × Nat)} {l : Launch} {d : Nat} {cl : kCall} (hS : kSnd E XX σ zs l kY kWS d cl) : ∀ args1 hs r, cl 50 args1 hs = some r → kMet E XX σ zs l yX4_count (kws yX4_count cX4_count 2 (some .int)) d args1 hs r := hS 50
theorem sn_51 {E : kE} {XX : State → Prop} {σ : List Nat} {zs : List (String × String × Nat)} {l : Launch} {d : Nat} {cl : kCall} (hS : kSnd E XX σ zs l kY kWS d cl) : ∀ args1 hs r, cl 51 args1 hs = some r → kMet E XX σ zs l yX4_codeOf (kws yX4_codeOf cX4_codeOf 3 (some .int)) d args1 hs r := hS 51
theorem sn_52 {E : kE} {XX : State → Prop} {σ : List Nat} {zs : List (String × String × Nat)} {l : Launch} {d : Nat} {cl : kCall} (hS : kSnd E XX σ zs l kY kWS d cl) : ∀ args1 hs r, cl 52 args1 hs = some r → kMet E XX σ zs l yX4_rankOf (kws yX4_rankOf cX4_rankOf 6 (some .int)) d args1 hs r := hS 52
theorem sn_53 {E : kE} {XX : State → Prop} {σ : List Nat} {zs : List (String × String × Nat)} {l : Launch} {d : Nat} {cl : kCall} (hS : kSnd E XX σ zs l kY kWS d cl) : ∀ args1 hs r, cl 53 args1 hs = some r → kMet E XX σ zs l yX4_through (kws yX4_through cX4_through 5 (some .int)) d args1 hs r := hS 53
theorem sn_54 {E : kE} {XX : State → Prop} {σ : List Nat} {zs : List (String × String × Nat)} {l : Launch} {d : Nat} {cl : kCall} (hS : kSnd E XX σ zs l kY kWS d cl) : ∀ args1 hs r, cl 54 args1 hs = some r → kMet E XX σ zs l yX4_valueOf (kws yX4_valueOf cX4_valueOf 4 (some .int)) d args1 hs r := hS 54
theorem sn_55 {E : kE} {XX : State → Prop} {σ : List Nat} {zs : List (String × String × Nat)} {l : Launch} {d : Nat} {cl : kCall} (hS : kSnd E XX σ zs l kY kWS d cl) : ∀ args1 hs r, cl 55 args1 hs = some r → kMet E XX σ zs l yX4_countOf (kws yX4_countOf cX4_countOf 4 (some .int)) d args1 hs r := hS 55
theorem sn_56 {E : kE} {XX : State → Prop} {σ : List Nat} {zs : List (String × String × Nat)} {l : Launch} {d : Nat} {cl : kCall} (hS : kSnd E XX σ zs l kY kWS d cl) : ∀ args1 hs r, cl 56 args1 hs = some r → kMet E XX σ zs l yX4_isInOrderBehind (kws yX4_isInOrderBehind cX4_isInOrderBehind 5 (some .boolean)) d args1 hs r := hS 56
theorem sn_57 {E : kE} {XX : State → Prop} {σ : List Nat} {zs : List (String × String × Nat)} {l : Launch} {d : Nat} {cl : kCall} (hS : kSnd E XX σ zs l kY kWS d cl) : ∀ args1 hs r, cl 57 args1 hs = some r → kMet E XX σ zs l yX0_init (kws yX0_init cX0_init 2 none) d args1 hs r := hS 57
theorem sn_58 {E : kE} {XX : State → Prop} {σ : List Nat} {zs : List (String × String × Nat)} {l : Launch} {d : Nat} {cl : kCall} (hS : kSnd E XX σ zs l kY kWS d cl) : ∀ args1 hs r, cl 58 args1 hs = some r → kMet E XX σ zs l yX0_append (kws yX0_append cX0_append 2 none) d args1 hs r := hS 58
theorem sn_59 {E : kE} {XX : State → Prop} {σ : List Nat} {zs : List (String × String × Nat)} {l : Launch} {d : Nat} {cl : kCall} (hS : kSnd E XX σ zs l kY kWS d cl) : ∀ args1 hs r, cl 59 args1 hs = some r → kMet E XX σ zs l yX0_stepAt (kws yX0_stepAt cX0_stepAt 2 (some .int)) d args1 hs r := hS 59
theorem sn_60 {E : kE} {XX : State → Prop} {σ : List Nat} {zs : List (String × String × Nat)} {l : Launch} {d : Nat} {cl : kCall} (hS : kSnd E XX σ zs l kY kWS d cl) : ∀ args1 hs r, cl 60 args1 hs = some r → kMet E XX σ zs l yX0_isMove (kws yX0_isMove cX0_isMove 1 (some .boolean)) d args1 hs r := hS 60
theorem sn_61 {E : kE} {XX : State → Prop} {σ : List Nat} {zs : List (String × String × Nat)} {l : Launch} {d : Nat} {cl : kCall} (hS : kSnd E XX σ zs l kY kWS d cl) : ∀ args1 hs r, cl 61 args1 hs = some r → kMet E XX σ zs l yX6_init (kws yX6_init cX6_init 2 none) d args1 hs r := hS 61
theorem sn_62 {E : kE} {XX : State → Prop} {σ : List Nat} {zs : List (String × String × Nat)} {l : Launch} {d : Nat} {cl : kCall} (hS : kSnd E XX σ zs l kY kWS d cl) : ∀ args1 hs r, cl 62 args1 hs = some r → kMet E XX σ zs l yX6_take (kws yX6_take cX6_take 5 none) d args1 hs r := hS 62
theorem sn_63 {E : kE} {XX : State → Prop} {σ : List Nat} {zs : List (String × String × Nat)} {l : Launch} {d : Nat} {cl : kCall} (hS : kSnd E XX σ zs l kY kWS d cl) : ∀ args1 hs r, cl 63 args1 hs = some r → kMet E XX σ zs l yX6_countDistinct (kws yX6_countDistinct cX6_countDistinct 4 (some .int)) d args1 hs r := hS 63
theorem sn_64 {E : kE} {XX : State → Prop} {σ : List Nat} {zs : List (String × String × Nat)} {l : Launch} {d : Nat} {cl : kCall} (hS : kSnd E XX σ zs l kY kWS d cl) : ∀ args1 hs r, cl 64 args1 hs = some r → kMet E XX σ zs l yX6_countUnmoved (kws yX6_countUnmoved cX6_countUnmoved 4 (some .int)) d args1 hs r := hS 64
theorem sn_65 {E : kE} {XX : State → Prop} {σ : List Nat} {zs : List (String × String × Nat)} {l : Launch} {d : Nat} {cl : kCall} (hS : kSnd E XX σ zs l kY kWS d cl) : ∀ args1 hs r, cl 65 args1 hs = some r → kMet E XX σ zs l yX6_followRounds (kws yX6_followRounds cX6_followRounds 5 none) d args1 hs r := hS 65
theorem sn_66 {E : kE} {XX : State → Prop} {σ : List Nat} {zs : List (String × String × Nat)} {l : Launch} {d : Nat} {cl : kCall} (hS : kSnd E XX σ zs l kY kWS d cl) : ∀ args1 hs r, cl 66 args1 hs = some r → kMet E XX σ zs l yX6_roundLength (kws yX6_roundLength cX6_roundLength 5 (some .int)) d args1 hs r := hS 66
theorem sn_67 {E : kE} {XX : State → Prop} {σ : List Nat} {zs : List (String × String × Nat)} {l : Launch} {d : Nat} {cl : kCall} (hS : kSnd E XX σ zs l kY kWS d cl) : ∀ args1 hs r, cl 67 args1 hs = some r → kMet E XX σ zs l yX6_commonMultiple (kws yX6_commonMultiple cX6_commonMultiple 4 (some .long)) d args1 hs r := hS 67
theorem sn_68 {E : kE} {XX : State → Prop} {σ : List Nat} {zs : List (String × String × Nat)} {l : Launch} {d : Nat} {cl : kCall} (hS : kSnd E XX σ zs l kY kWS d cl) : ∀ args1 hs r, cl 68 args1 hs = some r → kMet E XX σ zs l yX6_forget (kws yX6_forget cX6_forget 2 none) d args1 hs r := hS 68
theorem sn_69 {E : kE} {XX : State → Prop} {σ : List Nat} {zs : List (String × String × Nat)} {l : Launch} {d : Nat} {cl : kCall} (hS : kSnd E XX σ zs l kY kWS d cl) : ∀ args1 hs r, cl 69 args1 hs = some r → kMet E XX σ zs l yX6_meet (kws yX6_meet cX6_meet 2 (some .boolean)) d args1 hs r := hS 69
theorem sn_70 {E : kE} {XX : State → Prop} {σ : List Nat} {zs : List (String × String × Nat)} {l : Launch} {d : Nat} {cl : kCall} (hS : kSnd E XX σ zs l kY kWS d cl) : ∀ args1 hs r, cl 70 args1 hs = some r → kMet E XX σ zs l yX8_init (kws yX8_init cX8_init 3 none) d args1 hs r := hS 70
theorem sn_71 {E : kE} {XX : State → Prop} {σ : List Nat} {zs : List (String × String × Nat)} {l : Launch} {d : Nat} {cl : kCall} (hS : kSnd E XX σ zs l kY kWS d cl) : ∀ args1 hs r, cl 71 args1 hs = some r → kMet E XX σ zs l yX8_go (kws yX8_go cX8_go 3 none) d args1 hs r := hS 71
theorem sn_72 {E : kE} {XX : State → Prop} {σ : List Nat} {zs : List (String × String × Nat)} {l : Launch} {d : Nat} {cl : kCall} (hS : kSnd E XX σ zs l kY kWS d cl) : ∀ args1 hs r, cl 72 args1 hs = some r → kMet E XX σ zs l yX1_init (kws yX1_init cX1_init 4 none) d args1 hs r := hS 72
theorem sn_73 {E : kE} {XX : State → Prop} {σ : List Nat} {zs : List (String × String × Nat)} {l : Launch} {d : Nat} {cl : kCall} (hS : kSnd E XX σ zs l kY kWS d cl) : ∀ args1 hs r, cl 73 args1 hs = some r → kMet E XX σ zs l yX1_note (kws yX1_note cX1_note 3 none) d args1 hs r := hS 73
theorem sn_74 {E : kE} {XX : State → Prop} {σ : List Nat} {zs : List (String × String × Nat)} {l : Launch} {d : Nat} {cl : kCall} (hS : kSnd E XX σ zs l kY kWS d cl) : ∀ args1 hs r, cl 74 args1 hs = some r → kMet E XX σ zs l yX9_init (kws yX9_init cX9_init 1 none) d args1 hs r := hS 74
theorem sn_75 {E : kE} {XX : State → Prop} {σ : List Nat} {zs : List (String × String × Nat)} {l : Launch} {d : Nat} {cl : kCall} (hS : kSnd E XX σ zs l kY kWS d cl) : ∀ args1 hs r, cl 75 args1 hs = some r → kMet E XX σ zs l yX9_size (kws yX9_size cX9_size 4 (some .int)) d args1 hs r := hS 75
theorem sn_76 {E : kE} {XX : State → Prop} {σ : List Nat} {zs : List (String × String × Nat)} {l : Launch} {d : Nat} {cl : kCall} (hS : kSnd E XX σ zs l kY kWS d cl) : ∀ args1 hs r, cl 76 args1 hs = some r → kMet E XX σ zs l yX9_map (kws yX9_map cX9_map 2 (some .int)) d args1 hs r := hS 76
theorem sn_77 {E : kE} {XX : State → Prop} {σ : List Nat} {zs : List (String × String × Nat)} {l : Launch} {d : Nat} {cl : kCall} (hS : kSnd E XX σ zs l kY kWS d cl) : ∀ args1 hs r, cl 77 args1 hs = some r → kMet E XX σ zs l yX9_then (kws yX9_then cX9_then 4 (some .int)) d args1 hs r := hS 77
theorem sn_78 {E : kE} {XX : State → Prop} {σ : List Nat} {zs : List (String × String × Nat)} {l : Launch} {d : Nat} {cl : kCall} (hS : kSnd E XX σ zs l kY kWS d cl) : ∀ args1 hs r, cl 78 args1 hs = some r → kMet E XX σ zs l yX9_walker (kws yX9_walker cX9_walker 4 (some .int)) d args1 hs r := hS 78
theorem sn_79 {E : kE} {XX : State → Prop} {σ : List Nat} {zs : List (String × String × Nat)} {l : Launch} {d : Nat} {cl : kCall} (hS : kSnd E XX σ zs l kY kWS d cl) : ∀ args1 hs r, cl 79 args1 hs = some r → kMet E XX σ zs l yX9_claim (kws yX9_claim cX9_claim 6 (some .int)) d args1 hs r := hS 79
theorem sn_80 {E : kE} {XX : State → Prop} {σ : List Nat} {zs : List (String × String × Nat)} {l : Launch} {d : Nat} {cl : kCall} (hS : kSnd E XX σ zs l kY kWS d cl) : ∀ args1 hs r, cl 80 args1 hs = some r → kMet E XX σ zs l yX9_send (kws yX9_send cX9_send 7 (some .int)) d args1 hs r := hS 80
theorem sn_81 {E : kE} {XX : State → Prop} {σ : List Nat} {zs : List (String × String × Nat)} {l : Launch} {d : Nat} {cl : kCall} (hS : kSnd E XX σ zs l kY kWS d cl) : ∀ args1 hs r, cl 81 args1 hs = some r → kMet E XX σ zs l yX9_trial (kws yX9_trial cX9_trial 3 (some .boolean)) d args1 hs r := hS 81
theorem sn_82 {E : kE} {XX : State → Prop} {σ : List Nat} {zs : List (String × String × Nat)} {l : Launch} {d : Nat} {cl : kCall} (hS : kSnd E XX σ zs l kY kWS d cl) : ∀ args1 hs r, cl 82 args1 hs = some r → kMet E XX σ zs l yX9_objects (kws yX9_objects cX9_objects 2 (some .int)) d args1 hs r := hS 82
theorem sn_83 {E : kE} {XX : State → Prop} {σ : List Nat} {zs : List (String × String × Nat)} {l : Launch} {d : Nat} {cl : kCall} (hS : kSnd E XX σ zs l kY kWS d cl) : ∀ args1 hs r, cl 83 args1 hs = some r → kMet E XX σ zs l yX9_unrank (kws yX9_unrank cX9_unrank 3 (some .int)) d args1 hs r := hS 83
theorem sn_84 {E : kE} {XX : State → Prop} {σ : List Nat} {zs : List (String × String × Nat)} {l : Launch} {d : Nat} {cl : kCall} (hS : kSnd E XX σ zs l kY kWS d cl) : ∀ args1 hs r, cl 84 args1 hs = some r → kMet E XX σ zs l yX9_rank (kws yX9_rank cX9_rank 3 (some .int)) d args1 hs r := hS 84
theorem sn_85 {E : kE} {XX : State → Prop} {σ : List Nat} {zs : List (String × String × Nat)} {l : Launch} {d : Nat} {cl : kCall} (hS : kSnd E XX σ zs l kY kWS d cl) : ∀ args1 hs r, cl 85 args1 hs = some r → kMet E XX σ zs l yX9_statistic (kws yX9_statistic cX9_statistic 4 (some .int)) d args1 hs r := hS 85
theorem sn_86 {E : kE} {XX : State → Prop} {σ : List Nat} {zs : List (String × String × Nat)} {l : Launch} {d : Nat} {cl : kCall} (hS : kSnd E XX σ zs l kY kWS d cl) : ∀ args1 hs r, cl 86 args1 hs = some r → kMet E XX σ zs l yX9_spread (kws yX9_spread cX9_spread 4 (some .int)) d args1 hs r := hS 86
theorem sn_87 {E : kE} {XX : State → Prop} {σ : List Nat} {zs : List (String × String × Nat)} {l : Launch} {d : Nat} {cl : kCall} (hS : kSnd E XX σ zs l kY kWS d cl) : ∀ args1 hs r, cl 87 args1 hs = some r → kMet E XX σ zs l yX9_signs (kws yX9_signs cX9_signs 5 (some .int)) d args1 hs r := hS 87
theorem sn_88 {E : kE} {XX : State → Prop} {σ : List Nat} {zs : List (String × String × Nat)} {l : Launch} {d : Nat} {cl : kCall} (hS : kSnd E XX σ zs l kY kWS d cl) : ∀ args1 hs r, cl 88 args1 hs = some r → kMet E XX σ zs l yX9_alike (kws yX9_alike cX9_alike 6 (some .boolean)) d args1 hs r := hS 88
theorem sn_89 {E : kE} {XX : State → Prop} {σ : List Nat} {zs : List (String × String × Nat)} {l : Launch} {d : Nat} {cl : kCall} (hS : kSnd E XX σ zs l kY kWS d cl) : ∀ args1 hs r, cl 89 args1 hs = some r → kMet E XX σ zs l yX9_contains (kws yX9_contains cX9_contains 4 (some .int)) d args1 hs r := hS 89
theorem sn_90 {E : kE} {XX : State → Prop} {σ : List Nat} {zs : List (String × String × Nat)} {l : Launch} {d : Nat} {cl : kCall} (hS : kSnd E XX σ zs l kY kWS d cl) : ∀ args1 hs r, cl 90 args1 hs = some r → kMet E XX σ zs l yX9_sorted (kws yX9_sorted cX9_sorted 4 (some .int)) d args1 hs r := hS 90
theorem sn_91 {E : kE} {XX : State → Prop} {σ : List Nat} {zs : List (String × String × Nat)} {l : Launch} {d : Nat} {cl : kCall} (hS : kSnd E XX σ zs l kY kWS d cl) : ∀ args1 hs r, cl 91 args1 hs = some r → kMet E XX σ zs l yX9_ofMap (kws yX9_ofMap cX9_ofMap 4 (some .int)) d args1 hs r := hS 91
theorem sn_92 {E : kE} {XX : State → Prop} {σ : List Nat} {zs : List (String × String × Nat)} {l : Launch} {d : Nat} {cl : kCall} (hS : kSnd E XX σ zs l kY kWS d cl) : ∀ args1 hs r, cl 92 args1 hs = some r → kMet E XX σ zs l yX9_image (kws yX9_image cX9_image 4 (some .int)) d args1 hs r := hS 92
theorem sn_93 {E : kE} {XX : State → Prop} {σ : List Nat} {zs : List (String × String × Nat)} {l : Launch} {d : Nat} {cl : kCall} (hS : kSnd E XX σ zs l kY kWS d cl) : ∀ args1 hs r, cl 93 args1 hs = some r → kMet E XX σ zs l yX9_source (kws yX9_source cX9_source 5 (some .int)) d args1 hs r := hS 93
theorem sn_94 {E : kE} {XX : State → Prop} {σ : List Nat} {zs : List (String × String × Nat)} {l : Launch} {d : Nat} {cl : kCall} (hS : kSnd E XX σ zs l kY kWS d cl) : ∀ args1 hs r, cl 94 args1 hs = some r → kMet E XX σ zs l yX9_rounds (kws yX9_rounds cX9_rounds 3 (some .int)) d args1 hs r := hS 94
theorem sn_95 {E : kE} {XX : State → Prop} {σ : List Nat} {zs : List (String × String × Nat)} {l : Launch} {d : Nat} {cl : kCall} (hS : kSnd E XX σ zs l kY kWS d cl) : ∀ args1 hs r, cl 95 args1 hs = some r → kMet E XX σ zs l yX9_period (kws yX9_period cX9_period 3 (some .long)) d args1 hs r := hS 95
theorem sn_96 {E : kE} {XX : State → Prop} {σ : List Nat} {zs : List (String × String × Nat)} {l : Launch} {d : Nat} {cl : kCall} (hS : kSnd E XX σ zs l kY kWS d cl) : ∀ args1 hs r, cl 96 args1 hs = some r → kMet E XX σ zs l yX9_against (kws yX9_against cX9_against 5 (some .int)) d args1 hs r := hS 96
theorem sn_97 {E : kE} {XX : State → Prop} {σ : List Nat} {zs : List (String × String × Nat)} {l : Launch} {d : Nat} {cl : kCall} (hS : kSnd E XX σ zs l kY kWS d cl) : ∀ args1 hs r, cl 97 args1 hs = some r → kMet E XX σ zs l yX9_cancels (kws yX9_cancels cX9_cancels 5 (some .boolean)) d args1 hs r := hS 97
theorem sn_98 {E : kE} {XX : State → Prop} {σ : List Nat} {zs : List (String × String × Nat)} {l : Launch} {d : Nat} {cl : kCall} (hS : kSnd E XX σ zs l kY kWS d cl) : ∀ args1 hs r, cl 98 args1 hs = some r → kMet E XX σ zs l yX9_ofWalker (kws yX9_ofWalker cX9_ofWalker 4 (some .int)) d args1 hs r := hS 98
theorem sn_99 {E : kE} {XX : State → Prop} {σ : List Nat} {zs : List (String × String × Nat)} {l : Launch} {d : Nat} {cl : kCall} (hS : kSnd E XX σ zs l kY kWS d cl) : ∀ args1 hs r, cl 99 args1 hs = some r → kMet E XX σ zs l yX9_ofClaim (kws yX9_ofClaim cX9_ofClaim 4 (some .int)) d args1 hs r := hS 99
theorem sn_100 {E : kE} {XX : State → Prop} {σ : List Nat} {zs : List (String × String × Nat)} {l : Launch} {d : Nat} {cl : kCall} (hS : kSnd E XX σ zs l kY kWS d cl) : ∀ args1 hs r, cl 100 args1 hs = some r → kMet E XX σ zs l yX9_many (kws yX9_many cX9_many 2 (some .int)) d args1 hs r := hS 100
theorem sn_101 {E : kE} {XX : State → Prop} {σ : List Nat} {zs : List (String × String × Nat)} {l : Launch} {d : Nat} {cl : kCall} (hS : kSnd E XX σ zs l kY kWS d cl) : ∀ args1 hs r, cl 101 args1 hs = some r → kMet E XX σ zs l yX9_mean (kws yX9_mean cX9_mean 5 (some .double)) d args1 hs r := hS 101
theorem sn_102 {E : kE} {XX : State → Prop} {σ : List Nat} {zs : List (String × String × Nat)} {l : Launch} {d : Nat} {cl : kCall} (hS : kSnd E XX σ zs l kY kWS d cl) : ∀ args1 hs r, cl 102 args1 hs = some r → kMet E XX σ zs l yX9_digest (kws yX9_digest cX9_digest 5 (some .long)) d args1 hs r := hS 102
theorem sn_103 {E : kE} {XX : State → Prop} {σ : List Nat} {zs : List (String × String × Nat)} {l : Launch} {d : Nat} {cl : kCall} (hS : kSnd E XX σ zs l kY kWS d cl) : ∀ args1 hs r, cl 103 args1 hs = some r → kMet E XX σ zs l yX9_digestOfObjects (kws yX9_digestOfObjects cX9_digestOfObjects 7 (some .long)) d args1 hs r := hS 103
theorem sn_104 {E : kE} {XX : State → Prop} {σ : List Nat} {zs : List (String × String × Nat)} {l : Launch} {d : Nat} {cl : kCall} (hS : kSnd E XX σ zs l kY kWS d cl) : ∀ args1 hs r, cl 104 args1 hs = some r → kMet E XX σ zs l yX9_digestOfMap (kws yX9_digestOfMap cX9_digestOfMap 7 (some .long)) d args1 hs r := hS 104
theorem sn_105 {E : kE} {XX : State → Prop} {σ : List Nat} {zs : List (String × String × Nat)} {l : Launch} {d : Nat} {cl : kCall} (hS : kSnd E XX σ zs l kY kWS d cl) : ∀ args1 hs r, cl 105 args1 hs = some r → kMet E XX σ zs l yX9_needStep (kws yX9_needStep cX9_needStep 1 none) d args1 hs r := hS 105
theorem sn_106 {E : kE} {XX : State → Prop} {σ : List Nat} {zs : List (String × String × Nat)} {l : Launch} {d : Nat} {cl : kCall} (hS : kSnd E XX σ zs l kY kWS d cl) : ∀ args1 hs r, cl 106 args1 hs = some r → kMet E XX σ zs l yX9_needFamily (kws yX9_needFamily cX9_needFamily 1 none) d args1 hs r := hS 106
theorem sn_107 {E : kE} {XX : State → Prop} {σ : List Nat} {zs : List (String × String × Nat)} {l : Launch} {d : Nat} {cl : kCall} (hS : kSnd E XX σ zs l kY kWS d cl) : ∀ args1 hs r, cl 107 args1 hs = some r → kMet E XX σ zs l yX9_needStatistic (kws yX9_needStatistic cX9_needStatistic 1 none) d args1 hs r := hS 107
theorem sn_108 {E : kE} {XX : State → Prop} {σ : List Nat} {zs : List (String × String × Nat)} {l : Launch} {d : Nat} {cl : kCall} (hS : kSnd E XX σ zs l kY kWS d cl) : ∀ args1 hs r, cl 108 args1 hs = some r → kMet E XX σ zs l yX9_needRank (kws yX9_needRank cX9_needRank 3 none) d args1 hs r := hS 108
theorem sn_109 {E : kE} {XX : State → Prop} {σ : List Nat} {zs : List (String × String × Nat)} {l : Launch} {d : Nat} {cl : kCall} (hS : kSnd E XX σ zs l kY kWS d cl) : ∀ args1 hs r, cl 109 args1 hs = some r → kMet E XX σ zs l yX9_chartAt (kws yX9_chartAt cX9_chartAt 3 (some (.object "Bijectory$Chart"))) d args1 hs r := hS 109
theorem sn_110 {E : kE} {XX : State → Prop} {σ : List Nat} {zs : List (String × String × Nat)} {l : Launch} {d : Nat} {cl : kCall} (hS : kSnd E XX σ zs l kY kWS d cl) : ∀ args1 hs r, cl 110 args1 hs = some r → kMet E XX σ zs l yX9_walkerAt (kws yX9_walkerAt cX9_walkerAt 3 (some (.object "Bijectory$Walker"))) d args1 hs r := hS 110
theorem sn_111 {E : kE} {XX : State → Prop} {σ : List Nat} {zs : List (String × String × Nat)} {l : Launch} {d : Nat} {cl : kCall} (hS : kSnd E XX σ zs l kY kWS d cl) : ∀ args1 hs r, cl 111 args1 hs = some r → kMet E XX σ zs l yX9_claimAt (kws yX9_claimAt cX9_claimAt 3 (some (.object "Bijectory$Claim"))) d args1 hs r := hS 111
theorem sn_112 {E : kE} {XX : State → Prop} {σ : List Nat} {zs : List (String × String × Nat)} {l : Launch} {d : Nat} {cl : kCall} (hS : kSnd E XX σ zs l kY kWS d cl) : ∀ args1 hs r, cl 112 args1 hs = some r → kMet E XX σ zs l yX9_signOf (kws yX9_signOf cX9_signOf 1 (some .int)) d args1 hs r := hS 112
theorem sn_113 {E : kE} {XX : State → Prop} {σ : List Nat} {zs : List (String × String × Nat)} {l : Launch} {d : Nat} {cl : kCall} (hS : kSnd E XX σ zs l kY kWS d cl) : ∀ args1 hs r, cl 113 args1 hs = some r → kMet E XX σ zs l yX9_patternLength (kws yX9_patternLength cX9_patternLength 2 (some .int)) d args1 hs r := hS 113
theorem sn_114 {E : kE} {XX : State → Prop} {σ : List Nat} {zs : List (String × String × Nat)} {l : Launch} {d : Nat} {cl : kCall} (hS : kSnd E XX σ zs l kY kWS d cl) : ∀ args1 hs r, cl 114 args1 hs = some r → kMet E XX σ zs l yX9_tryClaim (kws yX9_tryClaim cX9_tryClaim 4 (some .boolean)) d args1 hs r := hS 114
theorem sn_115 {E : kE} {XX : State → Prop} {σ : List Nat} {zs : List (String × String × Nat)} {l : Launch} {d : Nat} {cl : kCall} (hS : kSnd E XX σ zs l kY kWS d cl) : ∀ args1 hs r, cl 115 args1 hs = some r → kMet E XX σ zs l yX9_firstAgainst (kws yX9_firstAgainst cX9_firstAgainst 6 (some .int)) d args1 hs r := hS 115
theorem sn_116 {E : kE} {XX : State → Prop} {σ : List Nat} {zs : List (String × String × Nat)} {l : Launch} {d : Nat} {cl : kCall} (hS : kSnd E XX σ zs l kY kWS d cl) : ∀ args1 hs r, cl 116 args1 hs = some r → kMet E XX σ zs l yX9_isPairedOff (kws yX9_isPairedOff cX9_isPairedOff 6 (some .boolean)) d args1 hs r := hS 116
theorem sn_117 {E : kE} {XX : State → Prop} {σ : List Nat} {zs : List (String × String × Nat)} {l : Launch} {d : Nat} {cl : kCall} (hS : kSnd E XX σ zs l kY kWS d cl) : ∀ args1 hs r, cl 117 args1 hs = some r → kMet E XX σ zs l yX9_refutedClaims (kws yX9_refutedClaims cX9_refutedClaims 3 (some .int)) d args1 hs r := hS 117
