/-! ===== the classes, the tables of ints, the methods; the words that are used ===== -/
def kCl : List vw_C := [(RJ6, TJ6, 1), (RJx35411, TJx35411, 4), (RJx4a65c, TJx4a65c, 3), (RX0, TX0, 10), (RX1, TX1, 5), (RX4, TX4, 6), (RX6, TX6, 2), (RX8, TX8, 6), (RX9, TX9, 11), (RX10, TX10, 5), (RX11, TX11, 6), (RX12, TX12, 11)]
theorem kcl_at {E : kE} (hE : kcl E = kCl) (i : Nat) {r : vw_C} (h : kCl[i]? = some r) : (kcl E)[i]? = some r := by rw [hE]; exact h
def kZs : List (String × String × Nat) := [("Bijectory", "STEP_FROM", 0), ("Bijectory", "STEP_TO", 1), ("Bijectory", "PATH_COUNTS", 2), ("Bijectory", "ORDER_COUNTS", 3), ("Bijectory", "TENS", 4), ("BijectoryModel", "FROM", 5), ("BijectoryModel", "TO", 6)]
theorem zin_0 : ("Bijectory", "STEP_FROM", 0) ∈ kZs := List.mem_of_getElem? (i := 0) rfl
theorem zin_1 : ("Bijectory", "STEP_TO", 1) ∈ kZs := List.mem_of_getElem? (i := 1) rfl
theorem zin_2 : ("Bijectory", "PATH_COUNTS", 2) ∈ kZs := List.mem_of_getElem? (i := 2) rfl
theorem zin_3 : ("Bijectory", "ORDER_COUNTS", 3) ∈ kZs := List.mem_of_getElem? (i := 3) rfl
theorem zin_4 : ("Bijectory", "TENS", 4) ∈ kZs := List.mem_of_getElem? (i := 4) rfl
theorem zin_5 : ("BijectoryModel", "FROM", 5) ∈ kZs := List.mem_of_getElem? (i := 5) rfl
theorem zin_6 : ("BijectoryModel", "TO", 6) ∈ kZs := List.mem_of_getElem? (i := 6) rfl
def kYs : List MethodName := [yX5_at, yX5_at_, yX5_put, yX5_put_, yX3_isPath, yX3_isUp, yX3_rise, yX3_part, yX3_pairsOfFirst, yX3_pairsOfLast, yX3_graft, yX3_backward, yX3_roll, yX3_valueOf, yX3_peaks, yX3_returns, yX3_greatestHeight, yX3_area, yX2_isOrder, yX2_at, yX2_ofRank, yX2_freeNumber, yX2_shape, yX2_invert, yX2_turn, yX2_sort, yX2_valueOf, yX2_drops, yX2_inversions, yX2_records, yX2_unmoved, yX2_timesContained, yX2_chosen, yX2_patternOf, yX7_node, yX7_leftOf, yX7_rightOf, yX7_mirror, yX7_label, yX7_valueOf, yJ6_bitCount_0f7a4, yX4_init, yX4_of, yX4_listPaths, yX4_listOrders, yX4_listImages, yX4_listValues, yX4_imageCode, yX4_valueByCode, yX4_codes, yX4_count, yX4_codeOf, yX4_rankOf, yX4_through, yX4_valueOf, yX4_countOf, yX4_isInOrderBehind, yX0_init, yX0_append, yX0_stepAt, yX0_isMove, yX6_init, yX6_take, yX6_countDistinct, yX6_countUnmoved, yX6_followRounds, yX6_roundLength, yX6_commonMultiple, yX6_forget, yX6_meet, yX8_init, yX8_go, yX1_init, yX1_note]
def kCCs : List ByteArray := [cX5_at, cX5_at_, cX5_put, cX5_put_, cX3_isPath, cX3_isUp, cX3_rise, cX3_part, cX3_pairsOfFirst, cX3_pairsOfLast, cX3_graft, cX3_backward, cX3_roll, cX3_valueOf, cX3_peaks, cX3_returns, cX3_greatestHeight, cX3_area, cX2_isOrder, cX2_at, cX2_ofRank, cX2_freeNumber, cX2_shape, cX2_invert, cX2_turn, cX2_sort, cX2_valueOf, cX2_drops, cX2_inversions, cX2_records, cX2_unmoved, cX2_timesContained, cX2_chosen, cX2_patternOf, cX7_node, cX7_leftOf, cX7_rightOf, cX7_mirror, cX7_label, cX7_valueOf, cJ6_bitCount_0f7a4, cX4_init, cX4_of, cX4_listPaths, cX4_listOrders, cX4_listImages, cX4_listValues, cX4_imageCode, cX4_valueByCode, cX4_codes, cX4_count, cX4_codeOf, cX4_rankOf, cX4_through, cX4_valueOf, cX4_countOf, cX4_isInOrderBehind, cX0_init, cX0_append, cX0_stepAt, cX0_isMove, cX6_init, cX6_take, cX6_countDistinct, cX6_countUnmoved, cX6_followRounds, cX6_roundLength, cX6_commonMultiple, cX6_forget, cX6_meet, cX8_init, cX8_go, cX1_init, cX1_note]
def kMLs : List Nat := [2, 4, 3, 5, 4, 2, 2, 3, 4, 4, 6, 4, 6, 3, 4, 5, 5, 5, 6, 5, 8, 5, 7, 4, 5, 6, 3, 4, 5, 6, 4, 6, 5, 6, 4, 3, 2, 6, 7, 7, 1, 4, 4, 3, 2, 5, 6, 3, 4, 2, 2, 3, 6, 5, 4, 4, 5, 2, 2, 2, 1, 2, 5, 4, 4, 5, 5, 4, 2, 2, 3, 3, 4, 3]
def kRTs : List (Option FieldType) := [(some .int), (some .int), none, none, (some .boolean), (some .boolean), (some .int), (some .int), (some .int), (some .int), (some .int), (some .int), (some .int), (some .int), (some .int), (some .int), (some .int), (some .int), (some .boolean), (some .int), (some .int), (some .int), (some .int), (some .int), (some .int), (some .int), (some .int), (some .int), (some .int), (some .int), (some .int), (some .int), (some .int), (some .int), (some .int), (some .int), (some .int), (some .int), (some .int), (some .int), (some .int), none, (some (.object "Bijectory$Realm")), none, none, none, none, (some .int), (some .int), (some (.array .int)), (some .int), (some .int), (some .int), (some .int), (some .int), (some .int), (some .boolean), none, none, (some .int), (some .boolean), none, none, (some .int), (some .int), none, (some .int), (some .long), none, (some .boolean), none, none, none, none]
def kY (mi : Nat) : MethodName := (kYs[mi]?).getD yX5_at
def kCC (mi : Nat) : ByteArray := (kCCs[mi]?).getD cX5_at
def kML (mi : Nat) : Nat := (kMLs[mi]?).getD 0
def kRT (mi : Nat) : Option FieldType := (kRTs[mi]?).getD none
def kWS (mi : Nat) : List Cond := kws (kY mi) (kCC mi) (kML mi) (kRT mi)
theorem k_same {p : Program} {l : Launch} {e : Env} {R : Room} {s : State} {m : MethodId} {args : Array Value} {below : List Frame} {meth : Method} {c : Code} {E : kE} {XX : State → Prop} {σ α0 : List Nat} {cc : ByteArray} {nL nc0 ns0 : Nat} {res : kRes} {own : String} {ws : List Cond} {zs : List (String × String × Nat)} (C : kCx E XX σ zs p l e R s m args below meth c α0 cc nL nc0 ns0 res own ws) {ci : Nat} {r0 : vw_C} (hc : (kcl E)[ci]? = some r0) {comp : ClassId} (h : s.vm.findClass r0.1 = some comp) : s.vm.assignable (kdC E ci) comp = true := by
  have hK := (C.2.2.2.2.2.2.1.2.1 ci _ hc).2
  have e1 : comp = kdC E ci := Option.some.inj (h.symm.trans hK.1)
  subst e1
  exact va_assign hK
theorem inG_X0 : ∀ w ∈ wsX00, w ∈ kG := by decide +kernel
theorem inG_X1 : ∀ w ∈ wsX10, w ∈ kG := by decide +kernel
theorem inG_X4 : ∀ w ∈ wsX40, w ∈ kG := by decide +kernel
theorem inG_X6 : ∀ w ∈ wsX60, w ∈ kG := by decide +kernel
theorem inG_X8 : ∀ w ∈ wsX80, w ∈ kG := by decide +kernel
theorem gw_0 : (.code yX3_rise cX3_rise 2 (some .int) : Cond) ∈ kG := kG_of (by decide +kernel) rfl
theorem gw_1 : (.methodLink "Bijectory$Paths" 9 yX3_rise : Cond) ∈ kG := kG_of (by decide +kernel) rfl
theorem gw_2 : (.static yX3_rise : Cond) ∈ kG := kG_of (by decide +kernel) rfl
theorem gw_3 : (.initialized "Bijectory$Paths" : Cond) ∈ kG := kG_of (by decide +kernel) rfl
theorem gw_4 : (.code yX3_pairsOfLast cX3_pairsOfLast 4 (some .int) : Cond) ∈ kG := kG_of (by decide +kernel) rfl
theorem gw_5 : (.methodLink "Bijectory$Paths" 15 yX3_pairsOfLast : Cond) ∈ kG := kG_of (by decide +kernel) rfl
theorem gw_6 : (.static yX3_pairsOfLast : Cond) ∈ kG := kG_of (by decide +kernel) rfl
theorem gw_7 : (.code yX3_part cX3_part 3 (some .int) : Cond) ∈ kG := kG_of (by decide +kernel) rfl
theorem gw_8 : (.methodLink "Bijectory$Paths" 18 yX3_part : Cond) ∈ kG := kG_of (by decide +kernel) rfl
theorem gw_9 : (.static yX3_part : Cond) ∈ kG := kG_of (by decide +kernel) rfl
theorem gw_10 : (.code yX3_graft cX3_graft 6 (some .int) : Cond) ∈ kG := kG_of (by decide +kernel) rfl
theorem gw_11 : (.methodLink "Bijectory$Paths" 22 yX3_graft : Cond) ∈ kG := kG_of (by decide +kernel) rfl
theorem gw_12 : (.static yX3_graft : Cond) ∈ kG := kG_of (by decide +kernel) rfl
theorem gw_13 : (.code yX7_node cX7_node 4 (some .int) : Cond) ∈ kG := kG_of (by decide +kernel) rfl
theorem gw_14 : (.methodLink "Bijectory$Paths" 25 yX7_node : Cond) ∈ kG := kG_of (by decide +kernel) rfl
theorem gw_15 : (.static yX7_node : Cond) ∈ kG := kG_of (by decide +kernel) rfl
theorem gw_16 : (.initialized "Bijectory$Trees" : Cond) ∈ kG := kG_of (by decide +kernel) rfl
theorem gw_17 : (.code yX3_isUp cX3_isUp 2 (some .boolean) : Cond) ∈ kG := kG_of (by decide +kernel) rfl
theorem gw_18 : (.methodLink "Bijectory$Paths" 31 yX3_isUp : Cond) ∈ kG := kG_of (by decide +kernel) rfl
theorem gw_19 : (.static yX3_isUp : Cond) ∈ kG := kG_of (by decide +kernel) rfl
theorem gw_20 : (.code yX3_pairsOfFirst cX3_pairsOfFirst 4 (some .int) : Cond) ∈ kG := kG_of (by decide +kernel) rfl
theorem gw_21 : (.methodLink "Bijectory$Paths" 35 yX3_pairsOfFirst : Cond) ∈ kG := kG_of (by decide +kernel) rfl
theorem gw_22 : (.static yX3_pairsOfFirst : Cond) ∈ kG := kG_of (by decide +kernel) rfl
theorem gw_23 : (.code yX3_peaks cX3_peaks 4 (some .int) : Cond) ∈ kG := kG_of (by decide +kernel) rfl
theorem gw_24 : (.methodLink "Bijectory$Paths" 38 yX3_peaks : Cond) ∈ kG := kG_of (by decide +kernel) rfl
theorem gw_25 : (.static yX3_peaks : Cond) ∈ kG := kG_of (by decide +kernel) rfl
theorem gw_26 : (.code yX3_returns cX3_returns 5 (some .int) : Cond) ∈ kG := kG_of (by decide +kernel) rfl
theorem gw_27 : (.methodLink "Bijectory$Paths" 41 yX3_returns : Cond) ∈ kG := kG_of (by decide +kernel) rfl
theorem gw_28 : (.static yX3_returns : Cond) ∈ kG := kG_of (by decide +kernel) rfl
theorem gw_29 : (.code yX3_greatestHeight cX3_greatestHeight 5 (some .int) : Cond) ∈ kG := kG_of (by decide +kernel) rfl
theorem gw_30 : (.methodLink "Bijectory$Paths" 44 yX3_greatestHeight : Cond) ∈ kG := kG_of (by decide +kernel) rfl
theorem gw_31 : (.static yX3_greatestHeight : Cond) ∈ kG := kG_of (by decide +kernel) rfl
theorem gw_32 : (.code yX3_area cX3_area 5 (some .int) : Cond) ∈ kG := kG_of (by decide +kernel) rfl
theorem gw_33 : (.methodLink "Bijectory$Paths" 47 yX3_area : Cond) ∈ kG := kG_of (by decide +kernel) rfl
theorem gw_34 : (.static yX3_area : Cond) ∈ kG := kG_of (by decide +kernel) rfl
theorem gw_35 : (.methodLink "Bijectory$Paths" 50 Lib.Math.max.name : Cond) ∈ kG := kG_of (by decide +kernel) rfl
theorem gw_36 : (.static Lib.Math.max.name : Cond) ∈ kG := kG_of (by decide +kernel) rfl
theorem gw_37 : (.initialized "java/lang/Math" : Cond) ∈ kG := kG_of (by decide +kernel) rfl
theorem gw_38 : (.code Lib.Math.max.name Lib.Math.max.code 2 (some .int) : Cond) ∈ kG := kG_of (by decide +kernel) rfl
theorem gw_39 : (.code yX5_at cX5_at 2 (some .int) : Cond) ∈ kG := kG_of (by decide +kernel) rfl
theorem gw_40 : (.methodLink "Bijectory$Orders" 13 yX5_at : Cond) ∈ kG := kG_of (by decide +kernel) rfl
theorem gw_41 : (.static yX5_at : Cond) ∈ kG := kG_of (by decide +kernel) rfl
theorem gw_42 : (.initialized "Bijectory$Rows" : Cond) ∈ kG := kG_of (by decide +kernel) rfl
theorem gw_43 : (.code yX2_freeNumber cX2_freeNumber 5 (some .int) : Cond) ∈ kG := kG_of (by decide +kernel) rfl
theorem gw_44 : (.methodLink "Bijectory$Orders" 19 yX2_freeNumber : Cond) ∈ kG := kG_of (by decide +kernel) rfl
theorem gw_45 : (.static yX2_freeNumber : Cond) ∈ kG := kG_of (by decide +kernel) rfl
theorem gw_46 : (.initialized "Bijectory$Orders" : Cond) ∈ kG := kG_of (by decide +kernel) rfl
theorem gw_47 : (.code yX2_at cX2_at 5 (some .int) : Cond) ∈ kG := kG_of (by decide +kernel) rfl
theorem gw_48 : (.methodLink "Bijectory$Orders" 25 yX2_at : Cond) ∈ kG := kG_of (by decide +kernel) rfl
theorem gw_49 : (.static yX2_at : Cond) ∈ kG := kG_of (by decide +kernel) rfl
theorem gw_50 : (.code yX2_shape cX2_shape 7 (some .int) : Cond) ∈ kG := kG_of (by decide +kernel) rfl
theorem gw_51 : (.methodLink "Bijectory$Orders" 28 yX2_shape : Cond) ∈ kG := kG_of (by decide +kernel) rfl
theorem gw_52 : (.static yX2_shape : Cond) ∈ kG := kG_of (by decide +kernel) rfl
theorem gw_53 : (.methodLink "Bijectory$Orders" 32 yX7_node : Cond) ∈ kG := kG_of (by decide +kernel) rfl
theorem gw_54 : (.code yX2_drops cX2_drops 4 (some .int) : Cond) ∈ kG := kG_of (by decide +kernel) rfl
theorem gw_55 : (.methodLink "Bijectory$Orders" 40 yX2_drops : Cond) ∈ kG := kG_of (by decide +kernel) rfl
theorem gw_56 : (.static yX2_drops : Cond) ∈ kG := kG_of (by decide +kernel) rfl
theorem gw_57 : (.code yX2_inversions cX2_inversions 5 (some .int) : Cond) ∈ kG := kG_of (by decide +kernel) rfl
theorem gw_58 : (.methodLink "Bijectory$Orders" 43 yX2_inversions : Cond) ∈ kG := kG_of (by decide +kernel) rfl
theorem gw_59 : (.static yX2_inversions : Cond) ∈ kG := kG_of (by decide +kernel) rfl
theorem gw_60 : (.code yX2_records cX2_records 6 (some .int) : Cond) ∈ kG := kG_of (by decide +kernel) rfl
theorem gw_61 : (.methodLink "Bijectory$Orders" 46 yX2_records : Cond) ∈ kG := kG_of (by decide +kernel) rfl
theorem gw_62 : (.static yX2_records : Cond) ∈ kG := kG_of (by decide +kernel) rfl
theorem gw_63 : (.code yX2_unmoved cX2_unmoved 4 (some .int) : Cond) ∈ kG := kG_of (by decide +kernel) rfl
theorem gw_64 : (.methodLink "Bijectory$Orders" 49 yX2_unmoved : Cond) ∈ kG := kG_of (by decide +kernel) rfl
theorem gw_65 : (.static yX2_unmoved : Cond) ∈ kG := kG_of (by decide +kernel) rfl
theorem gw_66 : (.code yJ6_bitCount_0f7a4 cJ6_bitCount_0f7a4 1 (some .int) : Cond) ∈ kG := kG_of (by decide +kernel) rfl
theorem gw_67 : (.methodLink "Bijectory$Orders" 52 yJ6_bitCount_0f7a4 : Cond) ∈ kG := kG_of (by decide +kernel) rfl
theorem gw_68 : (.static yJ6_bitCount_0f7a4 : Cond) ∈ kG := kG_of (by decide +kernel) rfl
theorem gw_69 : (.initialized "java/lang/Integer" : Cond) ∈ kG := kG_of (by decide +kernel) rfl
theorem gw_70 : (.code yX2_chosen cX2_chosen 5 (some .int) : Cond) ∈ kG := kG_of (by decide +kernel) rfl
theorem gw_71 : (.methodLink "Bijectory$Orders" 58 yX2_chosen : Cond) ∈ kG := kG_of (by decide +kernel) rfl
theorem gw_72 : (.static yX2_chosen : Cond) ∈ kG := kG_of (by decide +kernel) rfl
theorem gw_73 : (.code yX2_patternOf cX2_patternOf 6 (some .int) : Cond) ∈ kG := kG_of (by decide +kernel) rfl
theorem gw_74 : (.methodLink "Bijectory$Orders" 61 yX2_patternOf : Cond) ∈ kG := kG_of (by decide +kernel) rfl
theorem gw_75 : (.static yX2_patternOf : Cond) ∈ kG := kG_of (by decide +kernel) rfl
theorem gw_76 : (.methodLink "Bijectory$Trees" 9 yX3_part : Cond) ∈ kG := kG_of (by decide +kernel) rfl
theorem gw_77 : (.methodLink "Bijectory$Trees" 15 yX3_pairsOfFirst : Cond) ∈ kG := kG_of (by decide +kernel) rfl
theorem gw_78 : (.code yX7_leftOf cX7_leftOf 3 (some .int) : Cond) ∈ kG := kG_of (by decide +kernel) rfl
theorem gw_79 : (.methodLink "Bijectory$Trees" 19 yX7_leftOf : Cond) ∈ kG := kG_of (by decide +kernel) rfl
theorem gw_80 : (.static yX7_leftOf : Cond) ∈ kG := kG_of (by decide +kernel) rfl
theorem gw_81 : (.code yX7_mirror cX7_mirror 6 (some .int) : Cond) ∈ kG := kG_of (by decide +kernel) rfl
theorem gw_82 : (.methodLink "Bijectory$Trees" 24 yX7_mirror : Cond) ∈ kG := kG_of (by decide +kernel) rfl
theorem gw_83 : (.static yX7_mirror : Cond) ∈ kG := kG_of (by decide +kernel) rfl
theorem gw_84 : (.code yX7_rightOf cX7_rightOf 2 (some .int) : Cond) ∈ kG := kG_of (by decide +kernel) rfl
theorem gw_85 : (.methodLink "Bijectory$Trees" 27 yX7_rightOf : Cond) ∈ kG := kG_of (by decide +kernel) rfl
theorem gw_86 : (.static yX7_rightOf : Cond) ∈ kG := kG_of (by decide +kernel) rfl
theorem gw_87 : (.methodLink "Bijectory$Trees" 30 yX7_node : Cond) ∈ kG := kG_of (by decide +kernel) rfl
theorem gw_88 : (.code yX7_label cX7_label 7 (some .int) : Cond) ∈ kG := kG_of (by decide +kernel) rfl
theorem gw_89 : (.methodLink "Bijectory$Trees" 34 yX7_label : Cond) ∈ kG := kG_of (by decide +kernel) rfl
theorem gw_90 : (.static yX7_label : Cond) ∈ kG := kG_of (by decide +kernel) rfl
theorem gw_91 : (.methodLink "Bijectory$Trees" 41 yX5_at : Cond) ∈ kG := kG_of (by decide +kernel) rfl
theorem gw_92 : (.code yX7_valueOf cX7_valueOf 7 (some .int) : Cond) ∈ kG := kG_of (by decide +kernel) rfl
theorem gw_93 : (.methodLink "Bijectory$Trees" 47 yX7_valueOf : Cond) ∈ kG := kG_of (by decide +kernel) rfl
theorem gw_94 : (.static yX7_valueOf : Cond) ∈ kG := kG_of (by decide +kernel) rfl
theorem gw_95 : (.methodLink "Bijectory$Trees" 50 Lib.Math.max.name : Cond) ∈ kG := kG_of (by decide +kernel) rfl
theorem gw_96 : (.constant "java/lang/Integer" 265 (1431655765) : Cond) ∈ kG := kG_of (by decide +kernel) rfl
theorem gw_97 : (.constant "java/lang/Integer" 266 (858993459) : Cond) ∈ kG := kG_of (by decide +kernel) rfl
theorem gw_98 : (.constant "java/lang/Integer" 267 (252645135) : Cond) ∈ kG := kG_of (by decide +kernel) rfl
theorem gw_99 : (.methodLink "Bijectory$Realm" 3 Lib.objectInit : Cond) ∈ kG := kG_of (by decide +kernel) rfl
theorem gw_100 : (.instanceMethod Lib.objectInit : Cond) ∈ kG := kG_of (by decide +kernel) rfl
theorem gw_101 : (.code Lib.objectInit ⟨#[0xb1]⟩ 1 none : Cond) ∈ kG := kG_of (by decide +kernel) rfl
theorem gw_102 : (.methodLink "Bijectory$Realm" 13 yX5_at : Cond) ∈ kG := kG_of (by decide +kernel) rfl
theorem gw_103 : (.methodLink "Bijectory$Realm" 19 Lib.Math.max.name : Cond) ∈ kG := kG_of (by decide +kernel) rfl
theorem gw_104 : (.fieldLink "Bijectory$Realm" 28 "Bijectory$Realm" "size" "I" : Cond) ∈ kG := kG_of (by decide +kernel) rfl
theorem gw_105 : (.arrayClass .int : Cond) ∈ kG := kG_of (by decide +kernel) rfl
theorem gw_106 : (.fieldLink "Bijectory$Realm" 34 "Bijectory$Realm" "paths" "[I" : Cond) ∈ kG := kG_of (by decide +kernel) rfl
theorem gw_107 : (.fieldLink "Bijectory$Realm" 37 "Bijectory$Realm" "orders" "[I" : Cond) ∈ kG := kG_of (by decide +kernel) rfl
theorem gw_108 : (.classLink "Bijectory$Realm" 40 "[[I" : Cond) ∈ kG := kG_of (by decide +kernel) rfl
theorem gw_109 : (.fieldLink "Bijectory$Realm" 42 "Bijectory$Realm" "images" "[[I" : Cond) ∈ kG := kG_of (by decide +kernel) rfl
theorem gw_110 : (.fieldLink "Bijectory$Realm" 45 "Bijectory$Realm" "values" "[[I" : Cond) ∈ kG := kG_of (by decide +kernel) rfl
theorem gw_111 : (.fieldLink "Bijectory$Realm" 48 "Bijectory$Realm" "counts" "[[I" : Cond) ∈ kG := kG_of (by decide +kernel) rfl
theorem gw_112 : (.classLink "Bijectory$Realm" 29 "Bijectory$Realm" : Cond) ∈ kG := kG_of (by decide +kernel) rfl
theorem gw_113 : (.instantiable "Bijectory$Realm" 6 : Cond) ∈ kG := kG_of (by decide +kernel) rfl
theorem gw_114 : (.initialized "Bijectory$Realm" : Cond) ∈ kG := kG_of (by decide +kernel) rfl
theorem gw_115 : (.code yX4_init cX4_init 4 none : Cond) ∈ kG := kG_of (by decide +kernel) rfl
theorem gw_116 : (.methodLink "Bijectory$Realm" 51 yX4_init : Cond) ∈ kG := kG_of (by decide +kernel) rfl
theorem gw_117 : (.instanceMethod yX4_init : Cond) ∈ kG := kG_of (by decide +kernel) rfl
theorem gw_118 : (.code yX4_listPaths cX4_listPaths 3 none : Cond) ∈ kG := kG_of (by decide +kernel) rfl
theorem gw_119 : (.methodLink "Bijectory$Realm" 54 yX4_listPaths : Cond) ∈ kG := kG_of (by decide +kernel) rfl
theorem gw_120 : (.instanceMethod yX4_listPaths : Cond) ∈ kG := kG_of (by decide +kernel) rfl
theorem gw_121 : (.selects "Bijectory$Realm" yX4_listPaths yX4_listPaths : Cond) ∈ kG := kG_of (by decide +kernel) rfl
theorem gw_122 : (.code yX4_listOrders cX4_listOrders 2 none : Cond) ∈ kG := kG_of (by decide +kernel) rfl
theorem gw_123 : (.methodLink "Bijectory$Realm" 57 yX4_listOrders : Cond) ∈ kG := kG_of (by decide +kernel) rfl
theorem gw_124 : (.instanceMethod yX4_listOrders : Cond) ∈ kG := kG_of (by decide +kernel) rfl
theorem gw_125 : (.selects "Bijectory$Realm" yX4_listOrders yX4_listOrders : Cond) ∈ kG := kG_of (by decide +kernel) rfl
theorem gw_126 : (.code yX4_listImages cX4_listImages 5 none : Cond) ∈ kG := kG_of (by decide +kernel) rfl
theorem gw_127 : (.methodLink "Bijectory$Realm" 60 yX4_listImages : Cond) ∈ kG := kG_of (by decide +kernel) rfl
theorem gw_128 : (.instanceMethod yX4_listImages : Cond) ∈ kG := kG_of (by decide +kernel) rfl
theorem gw_129 : (.selects "Bijectory$Realm" yX4_listImages yX4_listImages : Cond) ∈ kG := kG_of (by decide +kernel) rfl
theorem gw_130 : (.code yX4_listValues cX4_listValues 6 none : Cond) ∈ kG := kG_of (by decide +kernel) rfl
theorem gw_131 : (.methodLink "Bijectory$Realm" 63 yX4_listValues : Cond) ∈ kG := kG_of (by decide +kernel) rfl
theorem gw_132 : (.instanceMethod yX4_listValues : Cond) ∈ kG := kG_of (by decide +kernel) rfl
theorem gw_133 : (.selects "Bijectory$Realm" yX4_listValues yX4_listValues : Cond) ∈ kG := kG_of (by decide +kernel) rfl
theorem gw_134 : (.code yX3_isPath cX3_isPath 4 (some .boolean) : Cond) ∈ kG := kG_of (by decide +kernel) rfl
theorem gw_135 : (.methodLink "Bijectory$Realm" 67 yX3_isPath : Cond) ∈ kG := kG_of (by decide +kernel) rfl
theorem gw_136 : (.static yX3_isPath : Cond) ∈ kG := kG_of (by decide +kernel) rfl
theorem gw_137 : (.code yX5_put cX5_put 3 none : Cond) ∈ kG := kG_of (by decide +kernel) rfl
theorem gw_138 : (.methodLink "Bijectory$Realm" 73 yX5_put : Cond) ∈ kG := kG_of (by decide +kernel) rfl
theorem gw_139 : (.static yX5_put : Cond) ∈ kG := kG_of (by decide +kernel) rfl
theorem gw_140 : (.code yX2_ofRank cX2_ofRank 8 (some .int) : Cond) ∈ kG := kG_of (by decide +kernel) rfl
theorem gw_141 : (.methodLink "Bijectory$Realm" 77 yX2_ofRank : Cond) ∈ kG := kG_of (by decide +kernel) rfl
theorem gw_142 : (.static yX2_ofRank : Cond) ∈ kG := kG_of (by decide +kernel) rfl
theorem gw_143 : (.code yX4_count cX4_count 2 (some .int) : Cond) ∈ kG := kG_of (by decide +kernel) rfl
theorem gw_144 : (.methodLink "Bijectory$Realm" 88 yX4_count : Cond) ∈ kG := kG_of (by decide +kernel) rfl
theorem gw_145 : (.instanceMethod yX4_count : Cond) ∈ kG := kG_of (by decide +kernel) rfl
theorem gw_146 : (.selects "Bijectory$Realm" yX4_count yX4_count : Cond) ∈ kG := kG_of (by decide +kernel) rfl
theorem gw_147 : (.code yX4_codeOf cX4_codeOf 3 (some .int) : Cond) ∈ kG := kG_of (by decide +kernel) rfl
theorem gw_148 : (.methodLink "Bijectory$Realm" 92 yX4_codeOf : Cond) ∈ kG := kG_of (by decide +kernel) rfl
theorem gw_149 : (.instanceMethod yX4_codeOf : Cond) ∈ kG := kG_of (by decide +kernel) rfl
theorem gw_150 : (.selects "Bijectory$Realm" yX4_codeOf yX4_codeOf : Cond) ∈ kG := kG_of (by decide +kernel) rfl
theorem gw_151 : (.code yX4_imageCode cX4_imageCode 3 (some .int) : Cond) ∈ kG := kG_of (by decide +kernel) rfl
theorem gw_152 : (.methodLink "Bijectory$Realm" 95 yX4_imageCode : Cond) ∈ kG := kG_of (by decide +kernel) rfl
theorem gw_153 : (.static yX4_imageCode : Cond) ∈ kG := kG_of (by decide +kernel) rfl
theorem gw_154 : (.code yX4_rankOf cX4_rankOf 6 (some .int) : Cond) ∈ kG := kG_of (by decide +kernel) rfl
theorem gw_155 : (.methodLink "Bijectory$Realm" 99 yX4_rankOf : Cond) ∈ kG := kG_of (by decide +kernel) rfl
theorem gw_156 : (.instanceMethod yX4_rankOf : Cond) ∈ kG := kG_of (by decide +kernel) rfl
theorem gw_157 : (.selects "Bijectory$Realm" yX4_rankOf yX4_rankOf : Cond) ∈ kG := kG_of (by decide +kernel) rfl
theorem gw_158 : (.code yX5_put_ cX5_put_ 5 none : Cond) ∈ kG := kG_of (by decide +kernel) rfl
theorem gw_159 : (.methodLink "Bijectory$Realm" 102 yX5_put_ : Cond) ∈ kG := kG_of (by decide +kernel) rfl
theorem gw_160 : (.static yX5_put_ : Cond) ∈ kG := kG_of (by decide +kernel) rfl
theorem gw_161 : (.code yX4_valueByCode cX4_valueByCode 4 (some .int) : Cond) ∈ kG := kG_of (by decide +kernel) rfl
theorem gw_162 : (.methodLink "Bijectory$Realm" 105 yX4_valueByCode : Cond) ∈ kG := kG_of (by decide +kernel) rfl
theorem gw_163 : (.static yX4_valueByCode : Cond) ∈ kG := kG_of (by decide +kernel) rfl
theorem gw_164 : (.code yX5_at_ cX5_at_ 4 (some .int) : Cond) ∈ kG := kG_of (by decide +kernel) rfl
theorem gw_165 : (.methodLink "Bijectory$Realm" 109 yX5_at_ : Cond) ∈ kG := kG_of (by decide +kernel) rfl
theorem gw_166 : (.static yX5_at_ : Cond) ∈ kG := kG_of (by decide +kernel) rfl
theorem gw_167 : (.code yX3_backward cX3_backward 4 (some .int) : Cond) ∈ kG := kG_of (by decide +kernel) rfl
theorem gw_168 : (.methodLink "Bijectory$Realm" 120 yX3_backward : Cond) ∈ kG := kG_of (by decide +kernel) rfl
theorem gw_169 : (.static yX3_backward : Cond) ∈ kG := kG_of (by decide +kernel) rfl
theorem gw_170 : (.code yX3_roll cX3_roll 6 (some .int) : Cond) ∈ kG := kG_of (by decide +kernel) rfl
theorem gw_171 : (.methodLink "Bijectory$Realm" 123 yX3_roll : Cond) ∈ kG := kG_of (by decide +kernel) rfl
theorem gw_172 : (.static yX3_roll : Cond) ∈ kG := kG_of (by decide +kernel) rfl
theorem gw_173 : (.code yX2_invert cX2_invert 4 (some .int) : Cond) ∈ kG := kG_of (by decide +kernel) rfl
theorem gw_174 : (.methodLink "Bijectory$Realm" 132 yX2_invert : Cond) ∈ kG := kG_of (by decide +kernel) rfl
theorem gw_175 : (.static yX2_invert : Cond) ∈ kG := kG_of (by decide +kernel) rfl
theorem gw_176 : (.code yX2_turn cX2_turn 5 (some .int) : Cond) ∈ kG := kG_of (by decide +kernel) rfl
theorem gw_177 : (.methodLink "Bijectory$Realm" 135 yX2_turn : Cond) ∈ kG := kG_of (by decide +kernel) rfl
theorem gw_178 : (.static yX2_turn : Cond) ∈ kG := kG_of (by decide +kernel) rfl
theorem gw_179 : (.code yX2_sort cX2_sort 6 (some .int) : Cond) ∈ kG := kG_of (by decide +kernel) rfl
theorem gw_180 : (.methodLink "Bijectory$Realm" 138 yX2_sort : Cond) ∈ kG := kG_of (by decide +kernel) rfl
theorem gw_181 : (.static yX2_sort : Cond) ∈ kG := kG_of (by decide +kernel) rfl
theorem gw_182 : (.code yX3_valueOf cX3_valueOf 3 (some .int) : Cond) ∈ kG := kG_of (by decide +kernel) rfl
theorem gw_183 : (.methodLink "Bijectory$Realm" 141 yX3_valueOf : Cond) ∈ kG := kG_of (by decide +kernel) rfl
theorem gw_184 : (.static yX3_valueOf : Cond) ∈ kG := kG_of (by decide +kernel) rfl
theorem gw_185 : (.code yX2_valueOf cX2_valueOf 3 (some .int) : Cond) ∈ kG := kG_of (by decide +kernel) rfl
theorem gw_186 : (.methodLink "Bijectory$Realm" 145 yX2_valueOf : Cond) ∈ kG := kG_of (by decide +kernel) rfl
theorem gw_187 : (.static yX2_valueOf : Cond) ∈ kG := kG_of (by decide +kernel) rfl
theorem gw_188 : (.code yX4_codes cX4_codes 2 (some (.array .int)) : Cond) ∈ kG := kG_of (by decide +kernel) rfl
theorem gw_189 : (.methodLink "Bijectory$Realm" 146 yX4_codes : Cond) ∈ kG := kG_of (by decide +kernel) rfl
theorem gw_190 : (.instanceMethod yX4_codes : Cond) ∈ kG := kG_of (by decide +kernel) rfl
theorem gw_191 : (.selects "Bijectory$Realm" yX4_codes yX4_codes : Cond) ∈ kG := kG_of (by decide +kernel) rfl
theorem gw_192 : (.fieldLink "Bijectory$Realm" 150 "Bijectory$Chart" "length" "I" : Cond) ∈ kG := kG_of (by decide +kernel) rfl
theorem gw_193 : (.code yX0_stepAt cX0_stepAt 2 (some .int) : Cond) ∈ kG := kG_of (by decide +kernel) rfl
theorem gw_194 : (.methodLink "Bijectory$Realm" 155 yX0_stepAt : Cond) ∈ kG := kG_of (by decide +kernel) rfl
theorem gw_195 : (.instanceMethod yX0_stepAt : Cond) ∈ kG := kG_of (by decide +kernel) rfl
theorem gw_196 : (.selects "Bijectory$Chart" yX0_stepAt yX0_stepAt : Cond) ∈ kG := kG_of (by decide +kernel) rfl
theorem gw_197 : (.initialized "Bijectory$Chart" : Cond) ∈ kG := kG_of (by decide +kernel) rfl
theorem gw_198 : (.methodLink "Bijectory$Chart" 3 Lib.objectInit : Cond) ∈ kG := kG_of (by decide +kernel) rfl
theorem gw_199 : (.fieldLink "Bijectory$Chart" 9 "Bijectory$Chart" "steps" "[I" : Cond) ∈ kG := kG_of (by decide +kernel) rfl
theorem gw_200 : (.methodLink "Bijectory$Chart" 15 yX5_put : Cond) ∈ kG := kG_of (by decide +kernel) rfl
theorem gw_201 : (.fieldLink "Bijectory$Chart" 21 "Bijectory$Chart" "length" "I" : Cond) ∈ kG := kG_of (by decide +kernel) rfl
theorem gw_202 : (.methodLink "Bijectory$Chart" 28 yX5_at : Cond) ∈ kG := kG_of (by decide +kernel) rfl
theorem gw_203 : (.fieldLink "Bijectory$Chart" 32 "Bijectory$Chart" "from" "I" : Cond) ∈ kG := kG_of (by decide +kernel) rfl
theorem gw_204 : (.fieldLink "Bijectory$Chart" 38 "Bijectory$Chart" "to" "I" : Cond) ∈ kG := kG_of (by decide +kernel) rfl
theorem gw_205 : (.fieldLink "Bijectory$Chart" 41 "Bijectory$Chart" "surveyed" "I" : Cond) ∈ kG := kG_of (by decide +kernel) rfl
theorem gw_206 : (.methodLink "Bijectory$Survey" 3 Lib.objectInit : Cond) ∈ kG := kG_of (by decide +kernel) rfl
theorem gw_207 : (.methodLink "Bijectory$Survey" 13 yX5_at : Cond) ∈ kG := kG_of (by decide +kernel) rfl
theorem gw_208 : (.methodLink "Bijectory$Survey" 19 Lib.Math.max.name : Cond) ∈ kG := kG_of (by decide +kernel) rfl
theorem gw_209 : (.fieldLink "Bijectory$Survey" 25 "Bijectory$Survey" "ends" "[I" : Cond) ∈ kG := kG_of (by decide +kernel) rfl
theorem gw_210 : (.arrayClass .boolean : Cond) ∈ kG := kG_of (by decide +kernel) rfl
theorem gw_211 : (.fieldLink "Bijectory$Survey" 30 "Bijectory$Survey" "met" "[Z" : Cond) ∈ kG := kG_of (by decide +kernel) rfl
theorem gw_212 : (.fieldLink "Bijectory$Survey" 34 "Bijectory$Chart" "surveyed" "I" : Cond) ∈ kG := kG_of (by decide +kernel) rfl
theorem gw_213 : (.fieldLink "Bijectory$Survey" 40 "Bijectory$Realm" "size" "I" : Cond) ∈ kG := kG_of (by decide +kernel) rfl
theorem gw_214 : (.fieldLink "Bijectory$Survey" 45 "Bijectory$Chart" "from" "I" : Cond) ∈ kG := kG_of (by decide +kernel) rfl
theorem gw_215 : (.methodLink "Bijectory$Survey" 48 yX4_count : Cond) ∈ kG := kG_of (by decide +kernel) rfl
theorem gw_216 : (.code yX4_through cX4_through 5 (some .int) : Cond) ∈ kG := kG_of (by decide +kernel) rfl
theorem gw_217 : (.methodLink "Bijectory$Survey" 52 yX4_through : Cond) ∈ kG := kG_of (by decide +kernel) rfl
theorem gw_218 : (.instanceMethod yX4_through : Cond) ∈ kG := kG_of (by decide +kernel) rfl
theorem gw_219 : (.selects "Bijectory$Realm" yX4_through yX4_through : Cond) ∈ kG := kG_of (by decide +kernel) rfl
theorem gw_220 : (.methodLink "Bijectory$Survey" 56 yX5_put : Cond) ∈ kG := kG_of (by decide +kernel) rfl
theorem gw_221 : (.code yX6_countDistinct cX6_countDistinct 4 (some .int) : Cond) ∈ kG := kG_of (by decide +kernel) rfl
theorem gw_222 : (.methodLink "Bijectory$Survey" 60 yX6_countDistinct : Cond) ∈ kG := kG_of (by decide +kernel) rfl
theorem gw_223 : (.instanceMethod yX6_countDistinct : Cond) ∈ kG := kG_of (by decide +kernel) rfl
theorem gw_224 : (.selects "Bijectory$Survey" yX6_countDistinct yX6_countDistinct : Cond) ∈ kG := kG_of (by decide +kernel) rfl
theorem gw_225 : (.initialized "Bijectory$Survey" : Cond) ∈ kG := kG_of (by decide +kernel) rfl
theorem gw_226 : (.fieldLink "Bijectory$Survey" 63 "Bijectory$Chart" "distinct" "I" : Cond) ∈ kG := kG_of (by decide +kernel) rfl
theorem gw_227 : (.code yX0_isMove cX0_isMove 1 (some .boolean) : Cond) ∈ kG := kG_of (by decide +kernel) rfl
theorem gw_228 : (.methodLink "Bijectory$Survey" 66 yX0_isMove : Cond) ∈ kG := kG_of (by decide +kernel) rfl
theorem gw_229 : (.instanceMethod yX0_isMove : Cond) ∈ kG := kG_of (by decide +kernel) rfl
theorem gw_230 : (.selects "Bijectory$Chart" yX0_isMove yX0_isMove : Cond) ∈ kG := kG_of (by decide +kernel) rfl
theorem gw_231 : (.code yX6_countUnmoved cX6_countUnmoved 4 (some .int) : Cond) ∈ kG := kG_of (by decide +kernel) rfl
theorem gw_232 : (.methodLink "Bijectory$Survey" 70 yX6_countUnmoved : Cond) ∈ kG := kG_of (by decide +kernel) rfl
theorem gw_233 : (.instanceMethod yX6_countUnmoved : Cond) ∈ kG := kG_of (by decide +kernel) rfl
theorem gw_234 : (.selects "Bijectory$Survey" yX6_countUnmoved yX6_countUnmoved : Cond) ∈ kG := kG_of (by decide +kernel) rfl
theorem gw_235 : (.fieldLink "Bijectory$Survey" 73 "Bijectory$Chart" "unmoved" "I" : Cond) ∈ kG := kG_of (by decide +kernel) rfl
theorem gw_236 : (.fieldLink "Bijectory$Survey" 76 "Bijectory$Chart" "rounds" "I" : Cond) ∈ kG := kG_of (by decide +kernel) rfl
theorem gw_237 : (.constantLong "Bijectory$Survey" 79 (-1) : Cond) ∈ kG := kG_of (by decide +kernel) rfl
theorem gw_238 : (.fieldLink "Bijectory$Survey" 81 "Bijectory$Chart" "period" "J" : Cond) ∈ kG := kG_of (by decide +kernel) rfl
theorem gw_239 : (.code yX6_followRounds cX6_followRounds 5 none : Cond) ∈ kG := kG_of (by decide +kernel) rfl
theorem gw_240 : (.methodLink "Bijectory$Survey" 85 yX6_followRounds : Cond) ∈ kG := kG_of (by decide +kernel) rfl
theorem gw_241 : (.instanceMethod yX6_followRounds : Cond) ∈ kG := kG_of (by decide +kernel) rfl
theorem gw_242 : (.selects "Bijectory$Survey" yX6_followRounds yX6_followRounds : Cond) ∈ kG := kG_of (by decide +kernel) rfl
theorem gw_243 : (.code yX6_forget cX6_forget 2 none : Cond) ∈ kG := kG_of (by decide +kernel) rfl
theorem gw_244 : (.methodLink "Bijectory$Survey" 89 yX6_forget : Cond) ∈ kG := kG_of (by decide +kernel) rfl
theorem gw_245 : (.instanceMethod yX6_forget : Cond) ∈ kG := kG_of (by decide +kernel) rfl
theorem gw_246 : (.selects "Bijectory$Survey" yX6_forget yX6_forget : Cond) ∈ kG := kG_of (by decide +kernel) rfl
theorem gw_247 : (.code yX6_meet cX6_meet 2 (some .boolean) : Cond) ∈ kG := kG_of (by decide +kernel) rfl
theorem gw_248 : (.methodLink "Bijectory$Survey" 92 yX6_meet : Cond) ∈ kG := kG_of (by decide +kernel) rfl
theorem gw_249 : (.instanceMethod yX6_meet : Cond) ∈ kG := kG_of (by decide +kernel) rfl
theorem gw_250 : (.selects "Bijectory$Survey" yX6_meet yX6_meet : Cond) ∈ kG := kG_of (by decide +kernel) rfl
theorem gw_251 : (.code yX6_roundLength cX6_roundLength 5 (some .int) : Cond) ∈ kG := kG_of (by decide +kernel) rfl
theorem gw_252 : (.methodLink "Bijectory$Survey" 96 yX6_roundLength : Cond) ∈ kG := kG_of (by decide +kernel) rfl
theorem gw_253 : (.instanceMethod yX6_roundLength : Cond) ∈ kG := kG_of (by decide +kernel) rfl
theorem gw_254 : (.selects "Bijectory$Survey" yX6_roundLength yX6_roundLength : Cond) ∈ kG := kG_of (by decide +kernel) rfl
theorem gw_255 : (.code yX6_commonMultiple cX6_commonMultiple 4 (some .long) : Cond) ∈ kG := kG_of (by decide +kernel) rfl
theorem gw_256 : (.methodLink "Bijectory$Survey" 99 yX6_commonMultiple : Cond) ∈ kG := kG_of (by decide +kernel) rfl
theorem gw_257 : (.static yX6_commonMultiple : Cond) ∈ kG := kG_of (by decide +kernel) rfl
theorem gw_258 : (.methodLink "Bijectory$Walker" 1 Lib.objectInit : Cond) ∈ kG := kG_of (by decide +kernel) rfl
theorem gw_259 : (.fieldLink "Bijectory$Walker" 7 "Bijectory$Walker" "homeFamily" "I" : Cond) ∈ kG := kG_of (by decide +kernel) rfl
theorem gw_260 : (.fieldLink "Bijectory$Walker" 13 "Bijectory$Walker" "home" "I" : Cond) ∈ kG := kG_of (by decide +kernel) rfl
theorem gw_261 : (.fieldLink "Bijectory$Walker" 16 "Bijectory$Walker" "family" "I" : Cond) ∈ kG := kG_of (by decide +kernel) rfl
theorem gw_262 : (.fieldLink "Bijectory$Walker" 19 "Bijectory$Walker" "place" "I" : Cond) ∈ kG := kG_of (by decide +kernel) rfl
theorem gw_263 : (.fieldLink "Bijectory$Walker" 22 "Bijectory$Walker" "trips" "I" : Cond) ∈ kG := kG_of (by decide +kernel) rfl
theorem gw_264 : (.fieldLink "Bijectory$Walker" 25 "Bijectory$Walker" "backs" "I" : Cond) ∈ kG := kG_of (by decide +kernel) rfl
theorem gw_265 : (.methodLink "Bijectory$Claim" 1 Lib.objectInit : Cond) ∈ kG := kG_of (by decide +kernel) rfl
theorem gw_266 : (.fieldLink "Bijectory$Claim" 7 "Bijectory$Claim" "map" "I" : Cond) ∈ kG := kG_of (by decide +kernel) rfl
theorem gw_267 : (.fieldLink "Bijectory$Claim" 13 "Bijectory$Claim" "which" "I" : Cond) ∈ kG := kG_of (by decide +kernel) rfl
theorem gw_268 : (.fieldLink "Bijectory$Claim" 16 "Bijectory$Claim" "other" "I" : Cond) ∈ kG := kG_of (by decide +kernel) rfl
theorem gw_269 : (.fieldLink "Bijectory$Claim" 19 "Bijectory$Claim" "tried" "I" : Cond) ∈ kG := kG_of (by decide +kernel) rfl
theorem gw_270 : (.fieldLink "Bijectory$Claim" 22 "Bijectory$Claim" "refuted" "I" : Cond) ∈ kG := kG_of (by decide +kernel) rfl
def kxW : List Cond := [.fieldLinkNest "Bijectory$Orders" 9 "Bijectory" "ORDER_COUNTS" "[I" "Bijectory", .fieldLinkNest "Bijectory$Orders" 37 "Bijectory" "TENS" "[I" "Bijectory", .fieldLinkNest "Bijectory$Trees" 37 "Bijectory" "TENS" "[I" "Bijectory", .fieldLinkNest "Bijectory$Realm" 9 "Bijectory" "PATH_COUNTS" "[I" "Bijectory", .fieldLinkNest "Bijectory$Realm" 25 "Bijectory" "ORDER_COUNTS" "[I" "Bijectory", .arrayOver (.array .int), .fieldLinkNest "Bijectory$Realm" 82 "Bijectory" "STEP_FROM" "[I" "Bijectory", .fieldLinkNest "Bijectory$Realm" 85 "Bijectory" "STEP_TO" "[I" "Bijectory", .methodLinkNest "Bijectory$Realm" 112 yX3_graft "Bijectory", .methodLinkNest "Bijectory$Realm" 115 yX7_mirror "Bijectory", .methodLinkNest "Bijectory$Realm" 126 yX7_label "Bijectory", .methodLinkNest "Bijectory$Realm" 129 yX2_shape "Bijectory", .methodLinkNest "Bijectory$Realm" 144 yX7_valueOf "Bijectory", .fieldLinkNest "Bijectory$Chart" 25 "Bijectory" "STEP_FROM" "[I" "Bijectory", .fieldLinkNest "Bijectory$Chart" 35 "Bijectory" "STEP_TO" "[I" "Bijectory", .fieldLinkNest "Bijectory$Survey" 9 "Bijectory" "ORDER_COUNTS" "[I" "Bijectory"]
def kStr : List (String × Nat × String) := []
def kXX (b : Nat) (U : State) : Prop := (∀ w ∈ kxW, va_Nw w U) ∧ (∀ q ∈ kStr, ∃ sa, vk_R q.1 q.2.1 q.2.2 sa U) ∧ vx_Zq Bundle.tN "UNASSIGNED_STACK" Bundle.steD (fun q => b ≤ q) U U.heap ∧ vx_Zq Bundle.tN "SUPPRESSED_SENTINEL" Bundle.listD (fun q => b ≤ q) U U.heap ∧ True
theorem xw_0 {b : Nat} {U : State} (h : kXX b U) : va_Nw (.fieldLinkNest "Bijectory$Orders" 9 "Bijectory" "ORDER_COUNTS" "[I" "Bijectory") U := h.1 _ (List.mem_of_getElem? (i := 0) rfl)
theorem xw_1 {b : Nat} {U : State} (h : kXX b U) : va_Nw (.fieldLinkNest "Bijectory$Orders" 37 "Bijectory" "TENS" "[I" "Bijectory") U := h.1 _ (List.mem_of_getElem? (i := 1) rfl)
theorem xw_2 {b : Nat} {U : State} (h : kXX b U) : va_Nw (.fieldLinkNest "Bijectory$Trees" 37 "Bijectory" "TENS" "[I" "Bijectory") U := h.1 _ (List.mem_of_getElem? (i := 2) rfl)
theorem xw_3 {b : Nat} {U : State} (h : kXX b U) : va_Nw (.fieldLinkNest "Bijectory$Realm" 9 "Bijectory" "PATH_COUNTS" "[I" "Bijectory") U := h.1 _ (List.mem_of_getElem? (i := 3) rfl)
theorem xw_4 {b : Nat} {U : State} (h : kXX b U) : va_Nw (.fieldLinkNest "Bijectory$Realm" 25 "Bijectory" "ORDER_COUNTS" "[I" "Bijectory") U := h.1 _ (List.mem_of_getElem? (i := 4) rfl)
theorem xw_5 {b : Nat} {U : State} (h : kXX b U) : va_Nw (.arrayOver (.array .int)) U := h.1 _ (List.mem_of_getElem? (i := 5) rfl)
theorem xw_6 {b : Nat} {U : State} (h : kXX b U) : va_Nw (.fieldLinkNest "Bijectory$Realm" 82 "Bijectory" "STEP_FROM" "[I" "Bijectory") U := h.1 _ (List.mem_of_getElem? (i := 6) rfl)
theorem xw_7 {b : Nat} {U : State} (h : kXX b U) : va_Nw (.fieldLinkNest "Bijectory$Realm" 85 "Bijectory" "STEP_TO" "[I" "Bijectory") U := h.1 _ (List.mem_of_getElem? (i := 7) rfl)
theorem xw_8 {b : Nat} {U : State} (h : kXX b U) : va_Nw (.methodLinkNest "Bijectory$Realm" 112 yX3_graft "Bijectory") U := h.1 _ (List.mem_of_getElem? (i := 8) rfl)
theorem xw_9 {b : Nat} {U : State} (h : kXX b U) : va_Nw (.methodLinkNest "Bijectory$Realm" 115 yX7_mirror "Bijectory") U := h.1 _ (List.mem_of_getElem? (i := 9) rfl)
theorem xw_10 {b : Nat} {U : State} (h : kXX b U) : va_Nw (.methodLinkNest "Bijectory$Realm" 126 yX7_label "Bijectory") U := h.1 _ (List.mem_of_getElem? (i := 10) rfl)
theorem xw_11 {b : Nat} {U : State} (h : kXX b U) : va_Nw (.methodLinkNest "Bijectory$Realm" 129 yX2_shape "Bijectory") U := h.1 _ (List.mem_of_getElem? (i := 11) rfl)
theorem xw_12 {b : Nat} {U : State} (h : kXX b U) : va_Nw (.methodLinkNest "Bijectory$Realm" 144 yX7_valueOf "Bijectory") U := h.1 _ (List.mem_of_getElem? (i := 12) rfl)
theorem xw_13 {b : Nat} {U : State} (h : kXX b U) : va_Nw (.fieldLinkNest "Bijectory$Chart" 25 "Bijectory" "STEP_FROM" "[I" "Bijectory") U := h.1 _ (List.mem_of_getElem? (i := 13) rfl)
theorem xw_14 {b : Nat} {U : State} (h : kXX b U) : va_Nw (.fieldLinkNest "Bijectory$Chart" 35 "Bijectory" "STEP_TO" "[I" "Bijectory") U := h.1 _ (List.mem_of_getElem? (i := 14) rfl)
theorem xw_15 {b : Nat} {U : State} (h : kXX b U) : va_Nw (.fieldLinkNest "Bijectory$Survey" 9 "Bijectory" "ORDER_COUNTS" "[I" "Bijectory") U := h.1 _ (List.mem_of_getElem? (i := 15) rfl)
theorem sn_0 {E : kE} {XX : State → Prop} {σ : List Nat} {zs : List (String × String × Nat)} {l : Launch} {d : Nat} {cl : kCall} (hS : kSnd E XX σ zs l kY kWS d cl) : ∀ args1 hs r, cl 0 args1 hs = some r → kMet E XX σ zs l yX5_at (kws yX5_at cX5_at 2 (some .int)) d args1 hs r := hS 0
theorem sn_1 {E : kE} {XX : State → Prop} {σ : List Nat} {zs : List (String × String × Nat)} {l : Launch} {d : Nat} {cl : kCall} (hS : kSnd E XX σ zs l kY kWS d cl) : ∀ args1 hs r, cl 1 args1 hs = some r → kMet E XX σ zs l yX5_at_ (kws yX5_at_ cX5_at_ 4 (some .int)) d args1 hs r := hS 1
theorem sn_2 {E : kE} {XX : State → Prop} {σ : List Nat} {zs : List (String × String × Nat)} {l : Launch} {d : Nat} {cl : kCall} (hS : kSnd E XX σ zs l kY kWS d cl) : ∀ args1 hs r, cl 2 args1 hs = some r → kMet E XX σ zs l yX5_put (kws yX5_put cX5_put 3 none) d args1 hs r := hS 2
theorem sn_3 {E : kE} {XX : State → Prop} {σ : List Nat} {zs : List (String × String × Nat)} {l : Launch} {d : Nat} {cl : kCall} (hS : kSnd E XX σ zs l kY kWS d cl) : ∀ args1 hs r, cl 3 args1 hs = some r → kMet E XX σ zs l yX5_put_ (kws yX5_put_ cX5_put_ 5 none) d args1 hs r := hS 3
theorem sn_4 {E : kE} {XX : State → Prop} {σ : List Nat} {zs : List (String × String × Nat)} {l : Launch} {d : Nat} {cl : kCall} (hS : kSnd E XX σ zs l kY kWS d cl) : ∀ args1 hs r, cl 4 args1 hs = some r → kMet E XX σ zs l yX3_isPath (kws yX3_isPath cX3_isPath 4 (some .boolean)) d args1 hs r := hS 4
theorem sn_5 {E : kE} {XX : State → Prop} {σ : List Nat} {zs : List (String × String × Nat)} {l : Launch} {d : Nat} {cl : kCall} (hS : kSnd E XX σ zs l kY kWS d cl) : ∀ args1 hs r, cl 5 args1 hs = some r → kMet E XX σ zs l yX3_isUp (kws yX3_isUp cX3_isUp 2 (some .boolean)) d args1 hs r := hS 5
theorem sn_6 {E : kE} {XX : State → Prop} {σ : List Nat} {zs : List (String × String × Nat)} {l : Launch} {d : Nat} {cl : kCall} (hS : kSnd E XX σ zs l kY kWS d cl) : ∀ args1 hs r, cl 6 args1 hs = some r → kMet E XX σ zs l yX3_rise (kws yX3_rise cX3_rise 2 (some .int)) d args1 hs r := hS 6
theorem sn_7 {E : kE} {XX : State → Prop} {σ : List Nat} {zs : List (String × String × Nat)} {l : Launch} {d : Nat} {cl : kCall} (hS : kSnd E XX σ zs l kY kWS d cl) : ∀ args1 hs r, cl 7 args1 hs = some r → kMet E XX σ zs l yX3_part (kws yX3_part cX3_part 3 (some .int)) d args1 hs r := hS 7
theorem sn_8 {E : kE} {XX : State → Prop} {σ : List Nat} {zs : List (String × String × Nat)} {l : Launch} {d : Nat} {cl : kCall} (hS : kSnd E XX σ zs l kY kWS d cl) : ∀ args1 hs r, cl 8 args1 hs = some r → kMet E XX σ zs l yX3_pairsOfFirst (kws yX3_pairsOfFirst cX3_pairsOfFirst 4 (some .int)) d args1 hs r := hS 8
theorem sn_9 {E : kE} {XX : State → Prop} {σ : List Nat} {zs : List (String × String × Nat)} {l : Launch} {d : Nat} {cl : kCall} (hS : kSnd E XX σ zs l kY kWS d cl) : ∀ args1 hs r, cl 9 args1 hs = some r → kMet E XX σ zs l yX3_pairsOfLast (kws yX3_pairsOfLast cX3_pairsOfLast 4 (some .int)) d args1 hs r := hS 9
theorem sn_10 {E : kE} {XX : State → Prop} {σ : List Nat} {zs : List (String × String × Nat)} {l : Launch} {d : Nat} {cl : kCall} (hS : kSnd E XX σ zs l kY kWS d cl) : ∀ args1 hs r, cl 10 args1 hs = some r → kMet E XX σ zs l yX3_graft (kws yX3_graft cX3_graft 6 (some .int)) d args1 hs r := hS 10
theorem sn_11 {E : kE} {XX : State → Prop} {σ : List Nat} {zs : List (String × String × Nat)} {l : Launch} {d : Nat} {cl : kCall} (hS : kSnd E XX σ zs l kY kWS d cl) : ∀ args1 hs r, cl 11 args1 hs = some r → kMet E XX σ zs l yX3_backward (kws yX3_backward cX3_backward 4 (some .int)) d args1 hs r := hS 11
theorem sn_12 {E : kE} {XX : State → Prop} {σ : List Nat} {zs : List (String × String × Nat)} {l : Launch} {d : Nat} {cl : kCall} (hS : kSnd E XX σ zs l kY kWS d cl) : ∀ args1 hs r, cl 12 args1 hs = some r → kMet E XX σ zs l yX3_roll (kws yX3_roll cX3_roll 6 (some .int)) d args1 hs r := hS 12
theorem sn_13 {E : kE} {XX : State → Prop} {σ : List Nat} {zs : List (String × String × Nat)} {l : Launch} {d : Nat} {cl : kCall} (hS : kSnd E XX σ zs l kY kWS d cl) : ∀ args1 hs r, cl 13 args1 hs = some r → kMet E XX σ zs l yX3_valueOf (kws yX3_valueOf cX3_valueOf 3 (some .int)) d args1 hs r := hS 13
theorem sn_14 {E : kE} {XX : State → Prop} {σ : List Nat} {zs : List (String × String × Nat)} {l : Launch} {d : Nat} {cl : kCall} (hS : kSnd E XX σ zs l kY kWS d cl) : ∀ args1 hs r, cl 14 args1 hs = some r → kMet E XX σ zs l yX3_peaks (kws yX3_peaks cX3_peaks 4 (some .int)) d args1 hs r := hS 14
theorem sn_15 {E : kE} {XX : State → Prop} {σ : List Nat} {zs : List (String × String × Nat)} {l : Launch} {d : Nat} {cl : kCall} (hS : kSnd E XX σ zs l kY kWS d cl) : ∀ args1 hs r, cl 15 args1 hs = some r → kMet E XX σ zs l yX3_returns (kws yX3_returns cX3_returns 5 (some .int)) d args1 hs r := hS 15
theorem sn_16 {E : kE} {XX : State → Prop} {σ : List Nat} {zs : List (String × String × Nat)} {l : Launch} {d : Nat} {cl : kCall} (hS : kSnd E XX σ zs l kY kWS d cl) : ∀ args1 hs r, cl 16 args1 hs = some r → kMet E XX σ zs l yX3_greatestHeight (kws yX3_greatestHeight cX3_greatestHeight 5 (some .int)) d args1 hs r := hS 16
theorem sn_17 {E : kE} {XX : State → Prop} {σ : List Nat} {zs : List (String × String × Nat)} {l : Launch} {d : Nat} {cl : kCall} (hS : kSnd E XX σ zs l kY kWS d cl) : ∀ args1 hs r, cl 17 args1 hs = some r → kMet E XX σ zs l yX3_area (kws yX3_area cX3_area 5 (some .int)) d args1 hs r := hS 17
theorem sn_18 {E : kE} {XX : State → Prop} {σ : List Nat} {zs : List (String × String × Nat)} {l : Launch} {d : Nat} {cl : kCall} (hS : kSnd E XX σ zs l kY kWS d cl) : ∀ args1 hs r, cl 18 args1 hs = some r → kMet E XX σ zs l yX2_isOrder (kws yX2_isOrder cX2_isOrder 6 (some .boolean)) d args1 hs r := hS 18
theorem sn_19 {E : kE} {XX : State → Prop} {σ : List Nat} {zs : List (String × String × Nat)} {l : Launch} {d : Nat} {cl : kCall} (hS : kSnd E XX σ zs l kY kWS d cl) : ∀ args1 hs r, cl 19 args1 hs = some r → kMet E XX σ zs l yX2_at (kws yX2_at cX2_at 5 (some .int)) d args1 hs r := hS 19
theorem sn_20 {E : kE} {XX : State → Prop} {σ : List Nat} {zs : List (String × String × Nat)} {l : Launch} {d : Nat} {cl : kCall} (hS : kSnd E XX σ zs l kY kWS d cl) : ∀ args1 hs r, cl 20 args1 hs = some r → kMet E XX σ zs l yX2_ofRank (kws yX2_ofRank cX2_ofRank 8 (some .int)) d args1 hs r := hS 20
theorem sn_21 {E : kE} {XX : State → Prop} {σ : List Nat} {zs : List (String × String × Nat)} {l : Launch} {d : Nat} {cl : kCall} (hS : kSnd E XX σ zs l kY kWS d cl) : ∀ args1 hs r, cl 21 args1 hs = some r → kMet E XX σ zs l yX2_freeNumber (kws yX2_freeNumber cX2_freeNumber 5 (some .int)) d args1 hs r := hS 21
theorem sn_22 {E : kE} {XX : State → Prop} {σ : List Nat} {zs : List (String × String × Nat)} {l : Launch} {d : Nat} {cl : kCall} (hS : kSnd E XX σ zs l kY kWS d cl) : ∀ args1 hs r, cl 22 args1 hs = some r → kMet E XX σ zs l yX2_shape (kws yX2_shape cX2_shape 7 (some .int)) d args1 hs r := hS 22
theorem sn_23 {E : kE} {XX : State → Prop} {σ : List Nat} {zs : List (String × String × Nat)} {l : Launch} {d : Nat} {cl : kCall} (hS : kSnd E XX σ zs l kY kWS d cl) : ∀ args1 hs r, cl 23 args1 hs = some r → kMet E XX σ zs l yX2_invert (kws yX2_invert cX2_invert 4 (some .int)) d args1 hs r := hS 23
theorem sn_24 {E : kE} {XX : State → Prop} {σ : List Nat} {zs : List (String × String × Nat)} {l : Launch} {d : Nat} {cl : kCall} (hS : kSnd E XX σ zs l kY kWS d cl) : ∀ args1 hs r, cl 24 args1 hs = some r → kMet E XX σ zs l yX2_turn (kws yX2_turn cX2_turn 5 (some .int)) d args1 hs r := hS 24
theorem sn_25 {E : kE} {XX : State → Prop} {σ : List Nat} {zs : List (String × String × Nat)} {l : Launch} {d : Nat} {cl : kCall} (hS : kSnd E XX σ zs l kY kWS d cl) : ∀ args1 hs r, cl 25 args1 hs = some r → kMet E XX σ zs l yX2_sort (kws yX2_sort cX2_sort 6 (some .int)) d args1 hs r := hS 25
theorem sn_26 {E : kE} {XX : State → Prop} {σ : List Nat} {zs : List (String × String × Nat)} {l : Launch} {d : Nat} {cl : kCall} (hS : kSnd E XX σ zs l kY kWS d cl) : ∀ args1 hs r, cl 26 args1 hs = some r → kMet E XX σ zs l yX2_valueOf (kws yX2_valueOf cX2_valueOf 3 (some .int)) d args1 hs r := hS 26
theorem sn_27 {E : kE} {XX : State → Prop} {σ : List Nat} {zs : List (String × String × Nat)} {l : Launch} {d : Nat} {cl : kCall} (hS : kSnd E XX σ zs l kY kWS d cl) : ∀ args1 hs r, cl 27 args1 hs = some r → kMet E XX σ zs l yX2_drops (kws yX2_drops cX2_drops 4 (some .int)) d args1 hs r := hS 27
theorem sn_28 {E : kE} {XX : State → Prop} {σ : List Nat} {zs : List (String × String × Nat)} {l : Launch} {d : Nat} {cl : kCall} (hS : kSnd E XX σ zs l kY kWS d cl) : ∀ args1 hs r, cl 28 args1 hs = some r → kMet E XX σ zs l yX2_inversions (kws yX2_inversions cX2_inversions 5 (some .int)) d args1 hs r := hS 28
theorem sn_29 {E : kE} {XX : State → Prop} {σ : List Nat} {zs : List (String × String × Nat)} {l : Launch} {d : Nat} {cl : kCall} (hS : kSnd E XX σ zs l kY kWS d cl) : ∀ args1 hs r, cl 29 args1 hs = some r → kMet E XX σ zs l yX2_records (kws yX2_records cX2_records 6 (some .int)) d args1 hs r := hS 29
theorem sn_30 {E : kE} {XX : State → Prop} {σ : List Nat} {zs : List (String × String × Nat)} {l : Launch} {d : Nat} {cl : kCall} (hS : kSnd E XX σ zs l kY kWS d cl) : ∀ args1 hs r, cl 30 args1 hs = some r → kMet E XX σ zs l yX2_unmoved (kws yX2_unmoved cX2_unmoved 4 (some .int)) d args1 hs r := hS 30
theorem sn_31 {E : kE} {XX : State → Prop} {σ : List Nat} {zs : List (String × String × Nat)} {l : Launch} {d : Nat} {cl : kCall} (hS : kSnd E XX σ zs l kY kWS d cl) : ∀ args1 hs r, cl 31 args1 hs = some r → kMet E XX σ zs l yX2_timesContained (kws yX2_timesContained cX2_timesContained 6 (some .int)) d args1 hs r := hS 31
theorem sn_32 {E : kE} {XX : State → Prop} {σ : List Nat} {zs : List (String × String × Nat)} {l : Launch} {d : Nat} {cl : kCall} (hS : kSnd E XX σ zs l kY kWS d cl) : ∀ args1 hs r, cl 32 args1 hs = some r → kMet E XX σ zs l yX2_chosen (kws yX2_chosen cX2_chosen 5 (some .int)) d args1 hs r := hS 32
theorem sn_33 {E : kE} {XX : State → Prop} {σ : List Nat} {zs : List (String × String × Nat)} {l : Launch} {d : Nat} {cl : kCall} (hS : kSnd E XX σ zs l kY kWS d cl) : ∀ args1 hs r, cl 33 args1 hs = some r → kMet E XX σ zs l yX2_patternOf (kws yX2_patternOf cX2_patternOf 6 (some .int)) d args1 hs r := hS 33
theorem sn_34 {E : kE} {XX : State → Prop} {σ : List Nat} {zs : List (String × String × Nat)} {l : Launch} {d : Nat} {cl : kCall} (hS : kSnd E XX σ zs l kY kWS d cl) : ∀ args1 hs r, cl 34 args1 hs = some r → kMet E XX σ zs l yX7_node (kws yX7_node cX7_node 4 (some .int)) d args1 hs r := hS 34
theorem sn_35 {E : kE} {XX : State → Prop} {σ : List Nat} {zs : List (String × String × Nat)} {l : Launch} {d : Nat} {cl : kCall} (hS : kSnd E XX σ zs l kY kWS d cl) : ∀ args1 hs r, cl 35 args1 hs = some r → kMet E XX σ zs l yX7_leftOf (kws yX7_leftOf cX7_leftOf 3 (some .int)) d args1 hs r := hS 35
theorem sn_36 {E : kE} {XX : State → Prop} {σ : List Nat} {zs : List (String × String × Nat)} {l : Launch} {d : Nat} {cl : kCall} (hS : kSnd E XX σ zs l kY kWS d cl) : ∀ args1 hs r, cl 36 args1 hs = some r → kMet E XX σ zs l yX7_rightOf (kws yX7_rightOf cX7_rightOf 2 (some .int)) d args1 hs r := hS 36
theorem sn_37 {E : kE} {XX : State → Prop} {σ : List Nat} {zs : List (String × String × Nat)} {l : Launch} {d : Nat} {cl : kCall} (hS : kSnd E XX σ zs l kY kWS d cl) : ∀ args1 hs r, cl 37 args1 hs = some r → kMet E XX σ zs l yX7_mirror (kws yX7_mirror cX7_mirror 6 (some .int)) d args1 hs r := hS 37
theorem sn_38 {E : kE} {XX : State → Prop} {σ : List Nat} {zs : List (String × String × Nat)} {l : Launch} {d : Nat} {cl : kCall} (hS : kSnd E XX σ zs l kY kWS d cl) : ∀ args1 hs r, cl 38 args1 hs = some r → kMet E XX σ zs l yX7_label (kws yX7_label cX7_label 7 (some .int)) d args1 hs r := hS 38
theorem sn_39 {E : kE} {XX : State → Prop} {σ : List Nat} {zs : List (String × String × Nat)} {l : Launch} {d : Nat} {cl : kCall} (hS : kSnd E XX σ zs l kY kWS d cl) : ∀ args1 hs r, cl 39 args1 hs = some r → kMet E XX σ zs l yX7_valueOf (kws yX7_valueOf cX7_valueOf 7 (some .int)) d args1 hs r := hS 39
theorem sn_40 {E : kE} {XX : State → Prop} {σ : List Nat} {zs : List (String × String × Nat)} {l : Launch} {d : Nat} {cl : kCall} (hS : kSnd E XX σ zs l kY kWS d cl) : ∀ args1 hs r, cl 40 args1 hs = some r → kMet E XX σ zs l yJ6_bitCount_0f7a4 (kws yJ6_bitCount_0f7a4 cJ6_bitCount_0f7a4 1 (some .int)) d args1 hs r := hS 40
theorem sn_41 {E : kE} {XX : State → Prop} {σ : List Nat} {zs : List (String × String × Nat)} {l : Launch} {d : Nat} {cl : kCall} (hS : kSnd E XX σ zs l kY kWS d cl) : ∀ args1 hs r, cl 41 args1 hs = some r → kMet E XX σ zs l yX4_init (kws yX4_init cX4_init 4 none) d args1 hs r := hS 41
theorem sn_42 {E : kE} {XX : State → Prop} {σ : List Nat} {zs : List (String × String × Nat)} {l : Launch} {d : Nat} {cl : kCall} (hS : kSnd E XX σ zs l kY kWS d cl) : ∀ args1 hs r, cl 42 args1 hs = some r → kMet E XX σ zs l yX4_of (kws yX4_of cX4_of 4 (some (.object "Bijectory$Realm"))) d args1 hs r := hS 42
theorem sn_43 {E : kE} {XX : State → Prop} {σ : List Nat} {zs : List (String × String × Nat)} {l : Launch} {d : Nat} {cl : kCall} (hS : kSnd E XX σ zs l kY kWS d cl) : ∀ args1 hs r, cl 43 args1 hs = some r → kMet E XX σ zs l yX4_listPaths (kws yX4_listPaths cX4_listPaths 3 none) d args1 hs r := hS 43
theorem sn_44 {E : kE} {XX : State → Prop} {σ : List Nat} {zs : List (String × String × Nat)} {l : Launch} {d : Nat} {cl : kCall} (hS : kSnd E XX σ zs l kY kWS d cl) : ∀ args1 hs r, cl 44 args1 hs = some r → kMet E XX σ zs l yX4_listOrders (kws yX4_listOrders cX4_listOrders 2 none) d args1 hs r := hS 44
theorem sn_45 {E : kE} {XX : State → Prop} {σ : List Nat} {zs : List (String × String × Nat)} {l : Launch} {d : Nat} {cl : kCall} (hS : kSnd E XX σ zs l kY kWS d cl) : ∀ args1 hs r, cl 45 args1 hs = some r → kMet E XX σ zs l yX4_listImages (kws yX4_listImages cX4_listImages 5 none) d args1 hs r := hS 45
theorem sn_46 {E : kE} {XX : State → Prop} {σ : List Nat} {zs : List (String × String × Nat)} {l : Launch} {d : Nat} {cl : kCall} (hS : kSnd E XX σ zs l kY kWS d cl) : ∀ args1 hs r, cl 46 args1 hs = some r → kMet E XX σ zs l yX4_listValues (kws yX4_listValues cX4_listValues 6 none) d args1 hs r := hS 46
theorem sn_47 {E : kE} {XX : State → Prop} {σ : List Nat} {zs : List (String × String × Nat)} {l : Launch} {d : Nat} {cl : kCall} (hS : kSnd E XX σ zs l kY kWS d cl) : ∀ args1 hs r, cl 47 args1 hs = some r → kMet E XX σ zs l yX4_imageCode (kws yX4_imageCode cX4_imageCode 3 (some .int)) d args1 hs r := hS 47
theorem sn_48 {E : kE} {XX : State → Prop} {σ : List Nat} {zs : List (String × String × Nat)} {l : Launch} {d : Nat} {cl : kCall} (hS : kSnd E XX σ zs l kY kWS d cl) : ∀ args1 hs r, cl 48 args1 hs = some r → kMet E XX σ zs l yX4_valueByCode (kws yX4_valueByCode cX4_valueByCode 4 (some .int)) d args1 hs r := hS 48
theorem sn_49 {E : kE} {XX : State → Prop} {σ : List Nat} {zs : List (String × String × Nat)} {l : Launch} {d : Nat} {cl : kCall} (hS : kSnd E XX σ zs l kY kWS d cl) : ∀ args1 hs r, cl 49 args1 hs = some r → kMet E XX σ zs l yX4_codes (kws yX4_codes cX4_codes 2 (some (.array .int))) d args1 hs r := hS 49
theorem sn_50 {E : kE} {XX : State → Prop} {σ : List Nat} {zs : List (String × String × Nat)} {l : Launch} {d : Nat} {cl : kCall} (hS : kSnd E XX σ zs l kY kWS d cl) : ∀ args1 hs r, cl 50 args1 hs = some r → kMet E XX σ zs l yX4_count (kws yX4_count cX4_count 2 (some .int)) d args1 hs r := hS 50
theorem sn_51 {E : kE} {XX : State → Prop} {σ : List Nat} {zs : List (String × String × Nat)} {l : Launch} {d : Nat} {cl : kCall} (hS : kSnd E XX σ zs l kY kWS d cl) : ∀ args1 hs r, cl 51 args1 hs = some r → kMet E XX σ zs l yX4_codeOf (kws yX4_codeOf cX4_codeOf 3 (some .int)) d args1 hs r := hS 51
theorem sn_52 {E : kE} {XX : State → Prop} {σ : List Nat} {zs : List (String × String × Nat)} {l : Launch} {d : Nat} {cl : kCall} (hS : kSnd E XX σ zs l kY kWS d cl) : ∀ args1 hs r, cl 52 args1 hs = some r → kMet E XX σ zs l yX4_rankOf (kws yX4_rankOf cX4_rankOf 6 (some .int)) d args1 hs r := hS 52
theorem sn_53 {E : kE} {XX : State → Prop} {σ : List Nat} {zs : List (String × String × Nat)} {l : Launch} {d : Nat} {cl : kCall} (hS : kSnd E XX σ zs l kY kWS d cl) : ∀ args1 hs r, cl 53 args1 hs = some r → kMet E XX σ zs l yX4_through (kws yX4_through cX4_through 5 (some .int)) d args1 hs r := hS 53
theorem sn_54 {E : kE} {XX : State → Prop} {σ : List Nat} {zs : List (String × String × Nat)} {l : Launch} {d : Nat} {cl : kCall} (hS : kSnd E XX σ zs l kY kWS d cl) : ∀ args1 hs r, cl 54 args1 hs = some r → kMet E XX σ zs l yX4_valueOf (kws yX4_valueOf cX4_valueOf 4 (some .int)) d args1 hs r := hS 54
theorem sn_55 {E : kE} {XX : State → Prop} {σ : List Nat} {zs : List (String × String × Nat)} {l : Launch} {d : Nat} {cl : kCall} (hS : kSnd E XX σ zs l kY kWS d cl) : ∀ args1 hs r, cl 55 args1 hs = some r → kMet E XX σ zs l yX4_countOf (kws yX4_countOf cX4_countOf 4 (some .int)) d args1 hs r := hS 55
theorem sn_56 {E : kE} {XX : State → Prop} {σ : List Nat} {zs : List (String × String × Nat)} {l : Launch} {d : Nat} {cl : kCall} (hS : kSnd E XX σ zs l kY kWS d cl) : ∀ args1 hs r, cl 56 args1 hs = some r → kMet E XX σ zs l yX4_isInOrderBehind (kws yX4_isInOrderBehind cX4_isInOrderBehind 5 (some .boolean)) d args1 hs r := hS 56
theorem sn_57 {E : kE} {XX : State → Prop} {σ : List Nat} {zs : List (String × String × Nat)} {l : Launch} {d : Nat} {cl : kCall} (hS : kSnd E XX σ zs l kY kWS d cl) : ∀ args1 hs r, cl 57 args1 hs = some r → kMet E XX σ zs l yX0_init (kws yX0_init cX0_init 2 none) d args1 hs r := hS 57
theorem sn_58 {E : kE} {XX : State → Prop} {σ : List Nat} {zs : List (String × String × Nat)} {l : Launch} {d : Nat} {cl : kCall} (hS : kSnd E XX σ zs l kY kWS d cl) : ∀ args1 hs r, cl 58 args1 hs = some r → kMet E XX σ zs l yX0_append (kws yX0_append cX0_append 2 none) d args1 hs r := hS 58
theorem sn_59 {E : kE} {XX : State → Prop} {σ : List Nat} {zs : List (String × String × Nat)} {l : Launch} {d : Nat} {cl : kCall} (hS : kSnd E XX σ zs l kY kWS d cl) : ∀ args1 hs r, cl 59 args1 hs = some r → kMet E XX σ zs l yX0_stepAt (kws yX0_stepAt cX0_stepAt 2 (some .int)) d args1 hs r := hS 59
theorem sn_60 {E : kE} {XX : State → Prop} {σ : List Nat} {zs : List (String × String × Nat)} {l : Launch} {d : Nat} {cl : kCall} (hS : kSnd E XX σ zs l kY kWS d cl) : ∀ args1 hs r, cl 60 args1 hs = some r → kMet E XX σ zs l yX0_isMove (kws yX0_isMove cX0_isMove 1 (some .boolean)) d args1 hs r := hS 60
theorem sn_61 {E : kE} {XX : State → Prop} {σ : List Nat} {zs : List (String × String × Nat)} {l : Launch} {d : Nat} {cl : kCall} (hS : kSnd E XX σ zs l kY kWS d cl) : ∀ args1 hs r, cl 61 args1 hs = some r → kMet E XX σ zs l yX6_init (kws yX6_init cX6_init 2 none) d args1 hs r := hS 61
theorem sn_62 {E : kE} {XX : State → Prop} {σ : List Nat} {zs : List (String × String × Nat)} {l : Launch} {d : Nat} {cl : kCall} (hS : kSnd E XX σ zs l kY kWS d cl) : ∀ args1 hs r, cl 62 args1 hs = some r → kMet E XX σ zs l yX6_take (kws yX6_take cX6_take 5 none) d args1 hs r := hS 62
theorem sn_63 {E : kE} {XX : State → Prop} {σ : List Nat} {zs : List (String × String × Nat)} {l : Launch} {d : Nat} {cl : kCall} (hS : kSnd E XX σ zs l kY kWS d cl) : ∀ args1 hs r, cl 63 args1 hs = some r → kMet E XX σ zs l yX6_countDistinct (kws yX6_countDistinct cX6_countDistinct 4 (some .int)) d args1 hs r := hS 63
theorem sn_64 {E : kE} {XX : State → Prop} {σ : List Nat} {zs : List (String × String × Nat)} {l : Launch} {d : Nat} {cl : kCall} (hS : kSnd E XX σ zs l kY kWS d cl) : ∀ args1 hs r, cl 64 args1 hs = some r → kMet E XX σ zs l yX6_countUnmoved (kws yX6_countUnmoved cX6_countUnmoved 4 (some .int)) d args1 hs r := hS 64
theorem sn_65 {E : kE} {XX : State → Prop} {σ : List Nat} {zs : List (String × String × Nat)} {l : Launch} {d : Nat} {cl : kCall} (hS : kSnd E XX σ zs l kY kWS d cl) : ∀ args1 hs r, cl 65 args1 hs = some r → kMet E XX σ zs l yX6_followRounds (kws yX6_followRounds cX6_followRounds 5 none) d args1 hs r := hS 65
theorem sn_66 {E : kE} {XX : State → Prop} {σ : List Nat} {zs : List (String × String × Nat)} {l : Launch} {d : Nat} {cl : kCall} (hS : kSnd E XX σ zs l kY kWS d cl) : ∀ args1 hs r, cl 66 args1 hs = some r → kMet E XX σ zs l yX6_roundLength (kws yX6_roundLength cX6_roundLength 5 (some .int)) d args1 hs r := hS 66
theorem sn_67 {E : kE} {XX : State → Prop} {σ : List Nat} {zs : List (String × String × Nat)} {l : Launch} {d : Nat} {cl : kCall} (hS : kSnd E XX σ zs l kY kWS d cl) : ∀ args1 hs r, cl 67 args1 hs = some r → kMet E XX σ zs l yX6_commonMultiple (kws yX6_commonMultiple cX6_commonMultiple 4 (some .long)) d args1 hs r := hS 67
theorem sn_68 {E : kE} {XX : State → Prop} {σ : List Nat} {zs : List (String × String × Nat)} {l : Launch} {d : Nat} {cl : kCall} (hS : kSnd E XX σ zs l kY kWS d cl) : ∀ args1 hs r, cl 68 args1 hs = some r → kMet E XX σ zs l yX6_forget (kws yX6_forget cX6_forget 2 none) d args1 hs r := hS 68
theorem sn_69 {E : kE} {XX : State → Prop} {σ : List Nat} {zs : List (String × String × Nat)} {l : Launch} {d : Nat} {cl : kCall} (hS : kSnd E XX σ zs l kY kWS d cl) : ∀ args1 hs r, cl 69 args1 hs = some r → kMet E XX σ zs l yX6_meet (kws yX6_meet cX6_meet 2 (some .boolean)) d args1 hs r := hS 69
theorem sn_70 {E : kE} {XX : State → Prop} {σ : List Nat} {zs : List (String × String × Nat)} {l : Launch} {d : Nat} {cl : kCall} (hS : kSnd E XX σ zs l kY kWS d cl) : ∀ args1 hs r, cl 70 args1 hs = some r → kMet E XX σ zs l yX8_init (kws yX8_init cX8_init 3 none) d args1 hs r := hS 70
theorem sn_71 {E : kE} {XX : State → Prop} {σ : List Nat} {zs : List (String × String × Nat)} {l : Launch} {d : Nat} {cl : kCall} (hS : kSnd E XX σ zs l kY kWS d cl) : ∀ args1 hs r, cl 71 args1 hs = some r → kMet E XX σ zs l yX8_go (kws yX8_go cX8_go 3 none) d args1 hs r := hS 71
theorem sn_72 {E : kE} {XX : State → Prop} {σ : List Nat} {zs : List (String × String × Nat)} {l : Launch} {d : Nat} {cl : kCall} (hS : kSnd E XX σ zs l kY kWS d cl) : ∀ args1 hs r, cl 72 args1 hs = some r → kMet E XX σ zs l yX1_init (kws yX1_init cX1_init 4 none) d args1 hs r := hS 72
theorem sn_73 {E : kE} {XX : State → Prop} {σ : List Nat} {zs : List (String × String × Nat)} {l : Launch} {d : Nat} {cl : kCall} (hS : kSnd E XX σ zs l kY kWS d cl) : ∀ args1 hs r, cl 73 args1 hs = some r → kMet E XX σ zs l yX1_note (kws yX1_note cX1_note 3 none) d args1 hs r := hS 73
