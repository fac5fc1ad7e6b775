/-! ===== BEGIN printed: names, fields, word lists, decode rows ===== -/
def RX0 : String := "Bijectory$Chart"
def TX0 : u_T := fun k => match k with
  | 0 => ("Bijectory$Chart", "from", "I", true)
  | 1 => ("Bijectory$Chart", "to", "I", false)
  | 2 => ("Bijectory$Chart", "steps", "[I", true)
  | 3 => ("Bijectory$Chart", "length", "I", false)
  | 4 => ("Bijectory$Chart", "claimed", "Z", false)
  | 5 => ("Bijectory$Chart", "surveyed", "I", false)
  | 6 => ("Bijectory$Chart", "distinct", "I", false)
  | 7 => ("Bijectory$Chart", "unmoved", "I", false)
  | 8 => ("Bijectory$Chart", "rounds", "I", false)
  | _ => ("Bijectory$Chart", "period", "J", false)
def tyX0 : Nat → FieldType := fun k => match k with
  | 0 => .int
  | 1 => .int
  | 2 => .array .int
  | 3 => .int
  | 4 => .boolean
  | 5 => .int
  | 6 => .int
  | 7 => .int
  | 8 => .int
  | _ => .long
abbrev wsX00 : List Cond := u_ws RX0 TX0 10
theorem nmX0 : ∀ a, a < 10 → ∀ b, b < 10 → a ≠ b → (TX0 a).2.1 ≠ (TX0 b).2.1 := by decide +kernel
theorem tyX0_ok : ∀ k, k < 10 → parseFieldDescriptor (TX0 k).2.2.1 = some (tyX0 k) := by decide +kernel
abbrev cX0_init : ByteArray := prog_2_method_1_code
def yX0_init : MethodName := ⟨RX0, "<init>", "(I)V"⟩
abbrev cX0_append : ByteArray := prog_2_method_2_code
def yX0_append : MethodName := ⟨RX0, "append", "(I)V"⟩
abbrev cX0_stepAt : ByteArray := prog_2_method_3_code
def yX0_stepAt : MethodName := ⟨RX0, "stepAt", "(I)I"⟩
abbrev cX0_isMove : ByteArray := prog_2_method_4_code
def yX0_isMove : MethodName := ⟨RX0, "isMove", "()Z"⟩
def RX1 : String := "Bijectory$Claim"
def TX1 : u_T := fun k => match k with
  | 0 => ("Bijectory$Claim", "map", "I", true)
  | 1 => ("Bijectory$Claim", "which", "I", true)
  | 2 => ("Bijectory$Claim", "other", "I", true)
  | 3 => ("Bijectory$Claim", "tried", "I", false)
  | _ => ("Bijectory$Claim", "refuted", "I", false)
def tyX1 : Nat → FieldType := fun k => match k with
  | 0 => .int
  | 1 => .int
  | 2 => .int
  | 3 => .int
  | _ => .int
abbrev wsX10 : List Cond := u_ws RX1 TX1 5
theorem nmX1 : ∀ a, a < 5 → ∀ b, b < 5 → a ≠ b → (TX1 a).2.1 ≠ (TX1 b).2.1 := by decide +kernel
theorem tyX1_ok : ∀ k, k < 5 → parseFieldDescriptor (TX1 k).2.2.1 = some (tyX1 k) := by decide +kernel
abbrev cX1_init : ByteArray := prog_3_method_1_code
def yX1_init : MethodName := ⟨RX1, "<init>", "(III)V"⟩
abbrev cX1_note : ByteArray := prog_3_method_2_code
def yX1_note : MethodName := ⟨RX1, "note", "(IZ)V"⟩
def RX2 : String := "Bijectory$Orders"
def TX2 : u_T := fun k => match k with
  | _ => ("", "", "", false)
def tyX2 : Nat → FieldType := fun k => match k with
  | _ => .int
abbrev wsX20 : List Cond := u_ws RX2 TX2 0
theorem nmX2 : ∀ a, a < 0 → ∀ b, b < 0 → a ≠ b → (TX2 a).2.1 ≠ (TX2 b).2.1 := by decide +kernel
theorem tyX2_ok : ∀ k, k < 0 → parseFieldDescriptor (TX2 k).2.2.1 = some (tyX2 k) := by decide +kernel
abbrev cX2_isOrder : ByteArray := prog_4_method_2_code
def yX2_isOrder : MethodName := ⟨RX2, "isOrder", "(II)Z"⟩
abbrev cX2_at : ByteArray := prog_4_method_3_code
def yX2_at : MethodName := ⟨RX2, "at", "(III)I"⟩
abbrev cX2_ofRank : ByteArray := prog_4_method_4_code
def yX2_ofRank : MethodName := ⟨RX2, "ofRank", "(II)I"⟩
abbrev cX2_freeNumber : ByteArray := prog_4_method_5_code
def yX2_freeNumber : MethodName := ⟨RX2, "freeNumber", "(II)I"⟩
abbrev cX2_shape : ByteArray := prog_4_method_6_code
def yX2_shape : MethodName := ⟨RX2, "shape", "(IIII)I"⟩
abbrev cX2_invert : ByteArray := prog_4_method_7_code
def yX2_invert : MethodName := ⟨RX2, "invert", "(II)I"⟩
abbrev cX2_turn : ByteArray := prog_4_method_8_code
def yX2_turn : MethodName := ⟨RX2, "turn", "(II)I"⟩
abbrev cX2_sort : ByteArray := prog_4_method_9_code
def yX2_sort : MethodName := ⟨RX2, "sort", "(II)I"⟩
abbrev cX2_valueOf : ByteArray := prog_4_method_10_code
def yX2_valueOf : MethodName := ⟨RX2, "valueOf", "(III)I"⟩
abbrev cX2_drops : ByteArray := prog_4_method_11_code
def yX2_drops : MethodName := ⟨RX2, "drops", "(II)I"⟩
abbrev cX2_inversions : ByteArray := prog_4_method_12_code
def yX2_inversions : MethodName := ⟨RX2, "inversions", "(II)I"⟩
abbrev cX2_records : ByteArray := prog_4_method_13_code
def yX2_records : MethodName := ⟨RX2, "records", "(II)I"⟩
abbrev cX2_unmoved : ByteArray := prog_4_method_14_code
def yX2_unmoved : MethodName := ⟨RX2, "unmoved", "(II)I"⟩
abbrev cX2_timesContained : ByteArray := prog_4_method_15_code
def yX2_timesContained : MethodName := ⟨RX2, "timesContained", "(IIII)I"⟩
abbrev cX2_chosen : ByteArray := prog_4_method_16_code
def yX2_chosen : MethodName := ⟨RX2, "chosen", "(III)I"⟩
abbrev cX2_patternOf : ByteArray := prog_4_method_17_code
def yX2_patternOf : MethodName := ⟨RX2, "patternOf", "(II)I"⟩
def RX3 : String := "Bijectory$Paths"
def TX3 : u_T := fun k => match k with
  | _ => ("", "", "", false)
def tyX3 : Nat → FieldType := fun k => match k with
  | _ => .int
abbrev wsX30 : List Cond := u_ws RX3 TX3 0
theorem nmX3 : ∀ a, a < 0 → ∀ b, b < 0 → a ≠ b → (TX3 a).2.1 ≠ (TX3 b).2.1 := by decide +kernel
theorem tyX3_ok : ∀ k, k < 0 → parseFieldDescriptor (TX3 k).2.2.1 = some (tyX3 k) := by decide +kernel
abbrev cX3_isPath : ByteArray := prog_5_method_2_code
def yX3_isPath : MethodName := ⟨RX3, "isPath", "(II)Z"⟩
abbrev cX3_isUp : ByteArray := prog_5_method_3_code
def yX3_isUp : MethodName := ⟨RX3, "isUp", "(II)Z"⟩
abbrev cX3_rise : ByteArray := prog_5_method_4_code
def yX3_rise : MethodName := ⟨RX3, "rise", "(II)I"⟩
abbrev cX3_part : ByteArray := prog_5_method_5_code
def yX3_part : MethodName := ⟨RX3, "part", "(III)I"⟩
abbrev cX3_pairsOfFirst : ByteArray := prog_5_method_6_code
def yX3_pairsOfFirst : MethodName := ⟨RX3, "pairsOfFirst", "(II)I"⟩
abbrev cX3_pairsOfLast : ByteArray := prog_5_method_7_code
def yX3_pairsOfLast : MethodName := ⟨RX3, "pairsOfLast", "(II)I"⟩
abbrev cX3_graft : ByteArray := prog_5_method_8_code
def yX3_graft : MethodName := ⟨RX3, "graft", "(II)I"⟩
abbrev cX3_backward : ByteArray := prog_5_method_9_code
def yX3_backward : MethodName := ⟨RX3, "backward", "(II)I"⟩
abbrev cX3_roll : ByteArray := prog_5_method_10_code
def yX3_roll : MethodName := ⟨RX3, "roll", "(II)I"⟩
abbrev cX3_valueOf : ByteArray := prog_5_method_11_code
def yX3_valueOf : MethodName := ⟨RX3, "valueOf", "(III)I"⟩
abbrev cX3_peaks : ByteArray := prog_5_method_12_code
def yX3_peaks : MethodName := ⟨RX3, "peaks", "(II)I"⟩
abbrev cX3_returns : ByteArray := prog_5_method_13_code
def yX3_returns : MethodName := ⟨RX3, "returns", "(II)I"⟩
abbrev cX3_greatestHeight : ByteArray := prog_5_method_14_code
def yX3_greatestHeight : MethodName := ⟨RX3, "greatestHeight", "(II)I"⟩
abbrev cX3_area : ByteArray := prog_5_method_15_code
def yX3_area : MethodName := ⟨RX3, "area", "(II)I"⟩
def RX4 : String := "Bijectory$Realm"
def TX4 : u_T := fun k => match k with
  | 0 => ("Bijectory$Realm", "size", "I", true)
  | 1 => ("Bijectory$Realm", "paths", "[I", true)
  | 2 => ("Bijectory$Realm", "orders", "[I", true)
  | 3 => ("Bijectory$Realm", "images", "[[I", true)
  | 4 => ("Bijectory$Realm", "values", "[[I", true)
  | _ => ("Bijectory$Realm", "counts", "[[I", true)
def tyX4 : Nat → FieldType := fun k => match k with
  | 0 => .int
  | 1 => .array .int
  | 2 => .array .int
  | 3 => .array (.array .int)
  | 4 => .array (.array .int)
  | _ => .array (.array .int)
abbrev wsX40 : List Cond := u_ws RX4 TX4 6
theorem nmX4 : ∀ a, a < 6 → ∀ b, b < 6 → a ≠ b → (TX4 a).2.1 ≠ (TX4 b).2.1 := by decide +kernel
theorem tyX4_ok : ∀ k, k < 6 → parseFieldDescriptor (TX4 k).2.2.1 = some (tyX4 k) := by decide +kernel
abbrev cX4_init : ByteArray := prog_6_method_1_code
def yX4_init : MethodName := ⟨RX4, "<init>", "(I)V"⟩
abbrev cX4_of : ByteArray := prog_6_method_2_code
def yX4_of : MethodName := ⟨RX4, "of", "(I)LBijectory$Realm;"⟩
abbrev cX4_listPaths : ByteArray := prog_6_method_3_code
def yX4_listPaths : MethodName := ⟨RX4, "listPaths", "()V"⟩
abbrev cX4_listOrders : ByteArray := prog_6_method_4_code
def yX4_listOrders : MethodName := ⟨RX4, "listOrders", "()V"⟩
abbrev cX4_listImages : ByteArray := prog_6_method_5_code
def yX4_listImages : MethodName := ⟨RX4, "listImages", "(I)V"⟩
abbrev cX4_listValues : ByteArray := prog_6_method_6_code
def yX4_listValues : MethodName := ⟨RX4, "listValues", "(II)V"⟩
abbrev cX4_imageCode : ByteArray := prog_6_method_7_code
def yX4_imageCode : MethodName := ⟨RX4, "imageCode", "(III)I"⟩
abbrev cX4_valueByCode : ByteArray := prog_6_method_8_code
def yX4_valueByCode : MethodName := ⟨RX4, "valueByCode", "(IIII)I"⟩
abbrev cX4_codes : ByteArray := prog_6_method_9_code
def yX4_codes : MethodName := ⟨RX4, "codes", "(I)[I"⟩
abbrev cX4_count : ByteArray := prog_6_method_10_code
def yX4_count : MethodName := ⟨RX4, "count", "(I)I"⟩
abbrev cX4_codeOf : ByteArray := prog_6_method_11_code
def yX4_codeOf : MethodName := ⟨RX4, "codeOf", "(II)I"⟩
abbrev cX4_rankOf : ByteArray := prog_6_method_12_code
def yX4_rankOf : MethodName := ⟨RX4, "rankOf", "(II)I"⟩
abbrev cX4_through : ByteArray := prog_6_method_13_code
def yX4_through : MethodName := ⟨RX4, "through", "(LBijectory$Chart;I)I"⟩
abbrev cX4_valueOf : ByteArray := prog_6_method_14_code
def yX4_valueOf : MethodName := ⟨RX4, "valueOf", "(III)I"⟩
abbrev cX4_countOf : ByteArray := prog_6_method_15_code
def yX4_countOf : MethodName := ⟨RX4, "countOf", "(III)I"⟩
abbrev cX4_isInOrderBehind : ByteArray := prog_6_method_16_code
def yX4_isInOrderBehind : MethodName := ⟨RX4, "isInOrderBehind", "(II)Z"⟩
def RX5 : String := "Bijectory$Rows"
def TX5 : u_T := fun k => match k with
  | _ => ("", "", "", false)
def tyX5 : Nat → FieldType := fun k => match k with
  | _ => .int
abbrev wsX50 : List Cond := u_ws RX5 TX5 0
theorem nmX5 : ∀ a, a < 0 → ∀ b, b < 0 → a ≠ b → (TX5 a).2.1 ≠ (TX5 b).2.1 := by decide +kernel
theorem tyX5_ok : ∀ k, k < 0 → parseFieldDescriptor (TX5 k).2.2.1 = some (tyX5 k) := by decide +kernel
abbrev cX5_at : ByteArray := prog_7_method_2_code
def yX5_at : MethodName := ⟨RX5, "at", "([II)I"⟩
abbrev cX5_at_ : ByteArray := prog_7_method_3_code
def yX5_at_ : MethodName := ⟨RX5, "at", "([[III)I"⟩
abbrev cX5_put : ByteArray := prog_7_method_4_code
def yX5_put : MethodName := ⟨RX5, "put", "([III)V"⟩
abbrev cX5_put_ : ByteArray := prog_7_method_5_code
def yX5_put_ : MethodName := ⟨RX5, "put", "([[IIII)V"⟩
def RX6 : String := "Bijectory$Survey"
def TX6 : u_T := fun k => match k with
  | 0 => ("Bijectory$Survey", "ends", "[I", true)
  | _ => ("Bijectory$Survey", "met", "[Z", true)
def tyX6 : Nat → FieldType := fun k => match k with
  | 0 => .array .int
  | _ => .array .boolean
abbrev wsX60 : List Cond := u_ws RX6 TX6 2
theorem nmX6 : ∀ a, a < 2 → ∀ b, b < 2 → a ≠ b → (TX6 a).2.1 ≠ (TX6 b).2.1 := by decide +kernel
theorem tyX6_ok : ∀ k, k < 2 → parseFieldDescriptor (TX6 k).2.2.1 = some (tyX6 k) := by decide +kernel
abbrev cX6_init : ByteArray := prog_8_method_1_code
def yX6_init : MethodName := ⟨RX6, "<init>", "()V"⟩
abbrev cX6_take : ByteArray := prog_8_method_2_code
def yX6_take : MethodName := ⟨RX6, "take", "(LBijectory$Chart;LBijectory$Realm;)V"⟩
abbrev cX6_countDistinct : ByteArray := prog_8_method_3_code
def yX6_countDistinct : MethodName := ⟨RX6, "countDistinct", "(I)I"⟩
abbrev cX6_countUnmoved : ByteArray := prog_8_method_4_code
def yX6_countUnmoved : MethodName := ⟨RX6, "countUnmoved", "(I)I"⟩
abbrev cX6_followRounds : ByteArray := prog_8_method_5_code
def yX6_followRounds : MethodName := ⟨RX6, "followRounds", "(LBijectory$Chart;I)V"⟩
abbrev cX6_roundLength : ByteArray := prog_8_method_6_code
def yX6_roundLength : MethodName := ⟨RX6, "roundLength", "(II)I"⟩
abbrev cX6_commonMultiple : ByteArray := prog_8_method_7_code
def yX6_commonMultiple : MethodName := ⟨RX6, "commonMultiple", "(JI)J"⟩
abbrev cX6_forget : ByteArray := prog_8_method_8_code
def yX6_forget : MethodName := ⟨RX6, "forget", "()V"⟩
abbrev cX6_meet : ByteArray := prog_8_method_9_code
def yX6_meet : MethodName := ⟨RX6, "meet", "(I)Z"⟩
def RX7 : String := "Bijectory$Trees"
def TX7 : u_T := fun k => match k with
  | _ => ("", "", "", false)
def tyX7 : Nat → FieldType := fun k => match k with
  | _ => .int
abbrev wsX70 : List Cond := u_ws RX7 TX7 0
theorem nmX7 : ∀ a, a < 0 → ∀ b, b < 0 → a ≠ b → (TX7 a).2.1 ≠ (TX7 b).2.1 := by decide +kernel
theorem tyX7_ok : ∀ k, k < 0 → parseFieldDescriptor (TX7 k).2.2.1 = some (tyX7 k) := by decide +kernel
abbrev cX7_node : ByteArray := prog_9_method_2_code
def yX7_node : MethodName := ⟨RX7, "node", "(IIII)I"⟩
abbrev cX7_leftOf : ByteArray := prog_9_method_3_code
def yX7_leftOf : MethodName := ⟨RX7, "leftOf", "(III)I"⟩
abbrev cX7_rightOf : ByteArray := prog_9_method_4_code
def yX7_rightOf : MethodName := ⟨RX7, "rightOf", "(II)I"⟩
abbrev cX7_mirror : ByteArray := prog_9_method_5_code
def yX7_mirror : MethodName := ⟨RX7, "mirror", "(II)I"⟩
abbrev cX7_label : ByteArray := prog_9_method_6_code
def yX7_label : MethodName := ⟨RX7, "label", "(III)I"⟩
abbrev cX7_valueOf : ByteArray := prog_9_method_7_code
def yX7_valueOf : MethodName := ⟨RX7, "valueOf", "(III)I"⟩
def RX8 : String := "Bijectory$Walker"
def TX8 : u_T := fun k => match k with
  | 0 => ("Bijectory$Walker", "homeFamily", "I", true)
  | 1 => ("Bijectory$Walker", "home", "I", true)
  | 2 => ("Bijectory$Walker", "family", "I", false)
  | 3 => ("Bijectory$Walker", "place", "I", false)
  | 4 => ("Bijectory$Walker", "trips", "I", false)
  | _ => ("Bijectory$Walker", "backs", "I", false)
def tyX8 : Nat → FieldType := fun k => match k with
  | 0 => .int
  | 1 => .int
  | 2 => .int
  | 3 => .int
  | 4 => .int
  | _ => .int
abbrev wsX80 : List Cond := u_ws RX8 TX8 6
theorem nmX8 : ∀ a, a < 6 → ∀ b, b < 6 → a ≠ b → (TX8 a).2.1 ≠ (TX8 b).2.1 := by decide +kernel
theorem tyX8_ok : ∀ k, k < 6 → parseFieldDescriptor (TX8 k).2.2.1 = some (tyX8 k) := by decide +kernel
abbrev cX8_init : ByteArray := prog_10_method_1_code
def yX8_init : MethodName := ⟨RX8, "<init>", "(II)V"⟩
abbrev cX8_go : ByteArray := prog_10_method_2_code
def yX8_go : MethodName := ⟨RX8, "go", "(II)V"⟩
def RX9 : String := "Bijectory"
def TX9 : u_T := fun k => match k with
  | 0 => ("Bijectory", "realms", "[LBijectory$Realm;", true)
  | 1 => ("Bijectory", "survey", "LBijectory$Survey;", true)
  | 2 => ("Bijectory", "charts", "[LBijectory$Chart;", true)
  | 3 => ("Bijectory", "walkers", "[LBijectory$Walker;", true)
  | 4 => ("Bijectory", "claims", "[LBijectory$Claim;", true)
  | 5 => ("Bijectory", "realm", "LBijectory$Realm;", false)
  | 6 => ("Bijectory", "chartCount", "I", false)
  | 7 => ("Bijectory", "walkerCount", "I", false)
  | 8 => ("Bijectory", "claimCount", "I", false)
  | 9 => ("Bijectory", "tripsEver", "I", false)
  | _ => ("Bijectory", "trialsEver", "I", false)
def tyX9 : Nat → FieldType := fun k => match k with
  | 0 => .array (.object "Bijectory$Realm")
  | 1 => .object "Bijectory$Survey"
  | 2 => .array (.object "Bijectory$Chart")
  | 3 => .array (.object "Bijectory$Walker")
  | 4 => .array (.object "Bijectory$Claim")
  | 5 => .object "Bijectory$Realm"
  | 6 => .int
  | 7 => .int
  | 8 => .int
  | 9 => .int
  | _ => .int
abbrev wsX90 : List Cond := u_ws RX9 TX9 11
theorem nmX9 : ∀ a, a < 11 → ∀ b, b < 11 → a ≠ b → (TX9 a).2.1 ≠ (TX9 b).2.1 := by decide +kernel
theorem tyX9_ok : ∀ k, k < 11 → parseFieldDescriptor (TX9 k).2.2.1 = some (tyX9 k) := by decide +kernel
abbrev cX9_init : ByteArray := prog_1_method_1_code
def yX9_init : MethodName := ⟨RX9, "<init>", "()V"⟩
abbrev cX9_size : ByteArray := prog_1_method_2_code
def yX9_size : MethodName := ⟨RX9, "size", "(I)I"⟩
abbrev cX9_map : ByteArray := prog_1_method_3_code
def yX9_map : MethodName := ⟨RX9, "map", "(I)I"⟩
abbrev cX9_then : ByteArray := prog_1_method_4_code
def yX9_then : MethodName := ⟨RX9, "then", "(II)I"⟩
abbrev cX9_walker : ByteArray := prog_1_method_5_code
def yX9_walker : MethodName := ⟨RX9, "walker", "(II)I"⟩
abbrev cX9_claim : ByteArray := prog_1_method_6_code
def yX9_claim : MethodName := ⟨RX9, "claim", "(III)I"⟩
abbrev cX9_send : ByteArray := prog_1_method_7_code
def yX9_send : MethodName := ⟨RX9, "send", "(III)I"⟩
abbrev cX9_trial : ByteArray := prog_1_method_8_code
def yX9_trial : MethodName := ⟨RX9, "trial", "(I)Z"⟩
abbrev cX9_objects : ByteArray := prog_1_method_9_code
def yX9_objects : MethodName := ⟨RX9, "objects", "(I)I"⟩
abbrev cX9_unrank : ByteArray := prog_1_method_10_code
def yX9_unrank : MethodName := ⟨RX9, "unrank", "(II)I"⟩
abbrev cX9_rank : ByteArray := prog_1_method_11_code
def yX9_rank : MethodName := ⟨RX9, "rank", "(II)I"⟩
abbrev cX9_statistic : ByteArray := prog_1_method_12_code
def yX9_statistic : MethodName := ⟨RX9, "statistic", "(III)I"⟩
abbrev cX9_spread : ByteArray := prog_1_method_13_code
def yX9_spread : MethodName := ⟨RX9, "spread", "(III)I"⟩
abbrev cX9_signs : ByteArray := prog_1_method_14_code
def yX9_signs : MethodName := ⟨RX9, "signs", "(II)I"⟩
abbrev cX9_alike : ByteArray := prog_1_method_15_code
def yX9_alike : MethodName := ⟨RX9, "alike", "(IIII)Z"⟩
abbrev cX9_contains : ByteArray := prog_1_method_16_code
def yX9_contains : MethodName := ⟨RX9, "contains", "(II)I"⟩
abbrev cX9_sorted : ByteArray := prog_1_method_17_code
def yX9_sorted : MethodName := ⟨RX9, "sorted", "(I)I"⟩
abbrev cX9_ofMap : ByteArray := prog_1_method_18_code
def yX9_ofMap : MethodName := ⟨RX9, "ofMap", "(II)I"⟩
abbrev cX9_image : ByteArray := prog_1_method_19_code
def yX9_image : MethodName := ⟨RX9, "image", "(II)I"⟩
abbrev cX9_source : ByteArray := prog_1_method_20_code
def yX9_source : MethodName := ⟨RX9, "source", "(II)I"⟩
abbrev cX9_rounds : ByteArray := prog_1_method_21_code
def yX9_rounds : MethodName := ⟨RX9, "rounds", "(I)I"⟩
abbrev cX9_period : ByteArray := prog_1_method_22_code
def yX9_period : MethodName := ⟨RX9, "period", "(I)J"⟩
abbrev cX9_against : ByteArray := prog_1_method_23_code
def yX9_against : MethodName := ⟨RX9, "against", "(III)I"⟩
abbrev cX9_cancels : ByteArray := prog_1_method_24_code
def yX9_cancels : MethodName := ⟨RX9, "cancels", "(II)Z"⟩
abbrev cX9_ofWalker : ByteArray := prog_1_method_25_code
def yX9_ofWalker : MethodName := ⟨RX9, "ofWalker", "(II)I"⟩
abbrev cX9_ofClaim : ByteArray := prog_1_method_26_code
def yX9_ofClaim : MethodName := ⟨RX9, "ofClaim", "(II)I"⟩
abbrev cX9_many : ByteArray := prog_1_method_27_code
def yX9_many : MethodName := ⟨RX9, "many", "(I)I"⟩
abbrev cX9_mean : ByteArray := prog_1_method_28_code
def yX9_mean : MethodName := ⟨RX9, "mean", "(II)D"⟩
abbrev cX9_digest : ByteArray := prog_1_method_29_code
def yX9_digest : MethodName := ⟨RX9, "digest", "()J"⟩
abbrev cX9_digestOfObjects : ByteArray := prog_1_method_30_code
def yX9_digestOfObjects : MethodName := ⟨RX9, "digestOfObjects", "(J)J"⟩
abbrev cX9_digestOfMap : ByteArray := prog_1_method_31_code
def yX9_digestOfMap : MethodName := ⟨RX9, "digestOfMap", "(JI)J"⟩
abbrev cX9_needStep : ByteArray := prog_1_method_32_code
def yX9_needStep : MethodName := ⟨RX9, "needStep", "(I)V"⟩
abbrev cX9_needFamily : ByteArray := prog_1_method_33_code
def yX9_needFamily : MethodName := ⟨RX9, "needFamily", "(I)V"⟩
abbrev cX9_needStatistic : ByteArray := prog_1_method_34_code
def yX9_needStatistic : MethodName := ⟨RX9, "needStatistic", "(I)V"⟩
abbrev cX9_needRank : ByteArray := prog_1_method_35_code
def yX9_needRank : MethodName := ⟨RX9, "needRank", "(II)V"⟩
abbrev cX9_chartAt : ByteArray := prog_1_method_36_code
def yX9_chartAt : MethodName := ⟨RX9, "chartAt", "(I)LBijectory$Chart;"⟩
abbrev cX9_walkerAt : ByteArray := prog_1_method_37_code
def yX9_walkerAt : MethodName := ⟨RX9, "walkerAt", "(I)LBijectory$Walker;"⟩
abbrev cX9_claimAt : ByteArray := prog_1_method_38_code
def yX9_claimAt : MethodName := ⟨RX9, "claimAt", "(I)LBijectory$Claim;"⟩
abbrev cX9_signOf : ByteArray := prog_1_method_39_code
def yX9_signOf : MethodName := ⟨RX9, "signOf", "(I)I"⟩
abbrev cX9_patternLength : ByteArray := prog_1_method_40_code
def yX9_patternLength : MethodName := ⟨RX9, "patternLength", "(I)I"⟩
abbrev cX9_tryClaim : ByteArray := prog_1_method_41_code
def yX9_tryClaim : MethodName := ⟨RX9, "tryClaim", "(LBijectory$Claim;LBijectory$Chart;)Z"⟩
abbrev cX9_firstAgainst : ByteArray := prog_1_method_42_code
def yX9_firstAgainst : MethodName := ⟨RX9, "firstAgainst", "(LBijectory$Chart;II)I"⟩
abbrev cX9_isPairedOff : ByteArray := prog_1_method_43_code
def yX9_isPairedOff : MethodName := ⟨RX9, "isPairedOff", "(LBijectory$Chart;II)Z"⟩
abbrev cX9_refutedClaims : ByteArray := prog_1_method_44_code
def yX9_refutedClaims : MethodName := ⟨RX9, "refutedClaims", "()I"⟩
def RX10 : String := "BijectoryModel$Claim"
def TX10 : u_T := fun k => match k with
  | 0 => ("BijectoryModel$Claim", "map", "I", true)
  | 1 => ("BijectoryModel$Claim", "which", "I", true)
  | 2 => ("BijectoryModel$Claim", "other", "I", true)
  | 3 => ("BijectoryModel$Claim", "tried", "I", false)
  | _ => ("BijectoryModel$Claim", "refuted", "I", false)
def tyX10 : Nat → FieldType := fun k => match k with
  | 0 => .int
  | 1 => .int
  | 2 => .int
  | 3 => .int
  | _ => .int
abbrev wsX100 : List Cond := u_ws RX10 TX10 5
theorem nmX10 : ∀ a, a < 5 → ∀ b, b < 5 → a ≠ b → (TX10 a).2.1 ≠ (TX10 b).2.1 := by decide +kernel
theorem tyX10_ok : ∀ k, k < 5 → parseFieldDescriptor (TX10 k).2.2.1 = some (tyX10 k) := by decide +kernel
abbrev cX10_init : ByteArray := prog_13_method_1_code
def yX10_init : MethodName := ⟨RX10, "<init>", "(III)V"⟩
def RX11 : String := "BijectoryModel$Walker"
def TX11 : u_T := fun k => match k with
  | 0 => ("BijectoryModel$Walker", "family", "I", false)
  | 1 => ("BijectoryModel$Walker", "code", "I", false)
  | 2 => ("BijectoryModel$Walker", "homeFamily", "I", true)
  | 3 => ("BijectoryModel$Walker", "home", "I", true)
  | 4 => ("BijectoryModel$Walker", "trips", "I", false)
  | _ => ("BijectoryModel$Walker", "backs", "I", false)
def tyX11 : Nat → FieldType := fun k => match k with
  | 0 => .int
  | 1 => .int
  | 2 => .int
  | 3 => .int
  | 4 => .int
  | _ => .int
abbrev wsX110 : List Cond := u_ws RX11 TX11 6
theorem nmX11 : ∀ a, a < 6 → ∀ b, b < 6 → a ≠ b → (TX11 a).2.1 ≠ (TX11 b).2.1 := by decide +kernel
theorem tyX11_ok : ∀ k, k < 6 → parseFieldDescriptor (TX11 k).2.2.1 = some (tyX11 k) := by decide +kernel
abbrev cX11_init : ByteArray := prog_14_method_1_code
def yX11_init : MethodName := ⟨RX11, "<init>", "(II)V"⟩
def RX12 : String := "BijectoryModel"
def TX12 : u_T := fun k => match k with
  | 0 => ("BijectoryModel", "thrown", "I", false)
  | 1 => ("BijectoryModel", "size", "I", false)
  | 2 => ("BijectoryModel", "codes", "[[I", true)
  | 3 => ("BijectoryModel", "maps", "Ljava/util/ArrayList;", true)
  | 4 => ("BijectoryModel", "walkers", "Ljava/util/ArrayList;", true)
  | 5 => ("BijectoryModel", "claims", "Ljava/util/ArrayList;", true)
  | 6 => ("BijectoryModel", "trips", "I", false)
  | 7 => ("BijectoryModel", "trials", "I", false)
  | 8 => ("BijectoryModel", "row", "[I", true)
  | 9 => ("BijectoryModel", "made", "[I", true)
  | _ => ("BijectoryModel", "stack", "[I", true)
def tyX12 : Nat → FieldType := fun k => match k with
  | 0 => .int
  | 1 => .int
  | 2 => .array (.array .int)
  | 3 => .object "java/util/ArrayList"
  | 4 => .object "java/util/ArrayList"
  | 5 => .object "java/util/ArrayList"
  | 6 => .int
  | 7 => .int
  | 8 => .array .int
  | 9 => .array .int
  | _ => .array .int
abbrev wsX120 : List Cond := u_ws RX12 TX12 11
theorem nmX12 : ∀ a, a < 11 → ∀ b, b < 11 → a ≠ b → (TX12 a).2.1 ≠ (TX12 b).2.1 := by decide +kernel
theorem tyX12_ok : ∀ k, k < 11 → parseFieldDescriptor (TX12 k).2.2.1 = some (tyX12 k) := by decide +kernel
abbrev cX12_isIn : ByteArray := prog_12_method_1_code
def yX12_isIn : MethodName := ⟨RX12, "isIn", "(III)Z"⟩
abbrev cX12_init : ByteArray := prog_12_method_2_code
def yX12_init : MethodName := ⟨RX12, "<init>", "()V"⟩
abbrev cX12_thrown : ByteArray := prog_12_method_3_code
def yX12_thrown : MethodName := ⟨RX12, "thrown", "()I"⟩
abbrev cX12_refuse : ByteArray := prog_12_method_4_code
def yX12_refuse : MethodName := ⟨RX12, "refuse", "(ZI)Z"⟩
abbrev cX12_start : ByteArray := prog_12_method_5_code
def yX12_start : MethodName := ⟨RX12, "start", "(ZI)Z"⟩
abbrev cX12_isPath : ByteArray := prog_12_method_6_code
def yX12_isPath : MethodName := ⟨RX12, "isPath", "(II)Z"⟩
abbrev cX12_isOrder : ByteArray := prog_12_method_7_code
def yX12_isOrder : MethodName := ⟨RX12, "isOrder", "(II)Z"⟩
abbrev cX12_tens : ByteArray := prog_12_method_8_code
def yX12_tens : MethodName := ⟨RX12, "tens", "(I)I"⟩
abbrev cX12_grow : ByteArray := prog_12_method_9_code
def yX12_grow : MethodName := ⟨RX12, "grow", "(I)V"⟩
abbrev cX12_fill : ByteArray := prog_12_method_10_code
def yX12_fill : MethodName := ⟨RX12, "fill", "(II[I)V"⟩
abbrev cX12_index : ByteArray := prog_12_method_11_code
def yX12_index : MethodName := ⟨RX12, "index", "(II)I"⟩
abbrev cX12_first : ByteArray := prog_12_method_12_code
def yX12_first : MethodName := ⟨RX12, "first", "(II)I"⟩
abbrev cX12_last : ByteArray := prog_12_method_13_code
def yX12_last : MethodName := ⟨RX12, "last", "(II)I"⟩
abbrev cX12_part : ByteArray := prog_12_method_14_code
def yX12_part : MethodName := ⟨RX12, "part", "(IIII)I"⟩
abbrev cX12_node : ByteArray := prog_12_method_15_code
def yX12_node : MethodName := ⟨RX12, "node", "(IIII)I"⟩
abbrev cX12_graft : ByteArray := prog_12_method_16_code
def yX12_graft : MethodName := ⟨RX12, "graft", "(II)I"⟩
abbrev cX12_mirror : ByteArray := prog_12_method_17_code
def yX12_mirror : MethodName := ⟨RX12, "mirror", "(II)I"⟩
abbrev cX12_backward : ByteArray := prog_12_method_18_code
def yX12_backward : MethodName := ⟨RX12, "backward", "(II)I"⟩
abbrev cX12_roll : ByteArray := prog_12_method_19_code
def yX12_roll : MethodName := ⟨RX12, "roll", "(II)I"⟩
abbrev cX12_label : ByteArray := prog_12_method_20_code
def yX12_label : MethodName := ⟨RX12, "label", "(III)I"⟩
abbrev cX12_read : ByteArray := prog_12_method_21_code
def yX12_read : MethodName := ⟨RX12, "read", "(I)V"⟩
abbrev cX12_shape : ByteArray := prog_12_method_22_code
def yX12_shape : MethodName := ⟨RX12, "shape", "(II)I"⟩
abbrev cX12_written : ByteArray := prog_12_method_23_code
def yX12_written : MethodName := ⟨RX12, "written", "()I"⟩
abbrev cX12_invert : ByteArray := prog_12_method_24_code
def yX12_invert : MethodName := ⟨RX12, "invert", "(I)I"⟩
abbrev cX12_turn : ByteArray := prog_12_method_25_code
def yX12_turn : MethodName := ⟨RX12, "turn", "(I)I"⟩
abbrev cX12_sort : ByteArray := prog_12_method_26_code
def yX12_sort : MethodName := ⟨RX12, "sort", "(I)I"⟩
abbrev cX12_step : ByteArray := prog_12_method_27_code
def yX12_step : MethodName := ⟨RX12, "step", "(II)I"⟩
abbrev cX12_from : ByteArray := prog_12_method_28_code
def yX12_from : MethodName := ⟨RX12, "from", "(I)I"⟩
abbrev cX12_to : ByteArray := prog_12_method_29_code
def yX12_to : MethodName := ⟨RX12, "to", "(I)I"⟩
abbrev cX12_isMove : ByteArray := prog_12_method_30_code
def yX12_isMove : MethodName := ⟨RX12, "isMove", "(I)Z"⟩
abbrev cX12_imageOf : ByteArray := prog_12_method_31_code
def yX12_imageOf : MethodName := ⟨RX12, "imageOf", "(II)I"⟩
abbrev cX12_images : ByteArray := prog_12_method_32_code
def yX12_images : MethodName := ⟨RX12, "images", "(I)[I"⟩
abbrev cX12_ofPath : ByteArray := prog_12_method_33_code
def yX12_ofPath : MethodName := ⟨RX12, "ofPath", "(II)I"⟩
abbrev cX12_tree : ByteArray := prog_12_method_34_code
def yX12_tree : MethodName := ⟨RX12, "tree", "(III)I"⟩
abbrev cX12_ofOrder : ByteArray := prog_12_method_35_code
def yX12_ofOrder : MethodName := ⟨RX12, "ofOrder", "(II)I"⟩
abbrev cX12_statisticOf : ByteArray := prog_12_method_36_code
def yX12_statisticOf : MethodName := ⟨RX12, "statisticOf", "(III)I"⟩
abbrev cX12_statistics : ByteArray := prog_12_method_37_code
def yX12_statistics : MethodName := ⟨RX12, "statistics", "(II)[I"⟩
abbrev cX12_sign : ByteArray := prog_12_method_38_code
def yX12_sign : MethodName := ⟨RX12, "sign", "(I)I"⟩
abbrev cX12_size : ByteArray := prog_12_method_39_code
def yX12_size : MethodName := ⟨RX12, "size", "(I)I"⟩
abbrev cX12_map : ByteArray := prog_12_method_40_code
def yX12_map : MethodName := ⟨RX12, "map", "(I)I"⟩
abbrev cX12_isNoMap : ByteArray := prog_12_method_41_code
def yX12_isNoMap : MethodName := ⟨RX12, "isNoMap", "(I)Z"⟩
abbrev cX12_isClaimed : ByteArray := prog_12_method_42_code
def yX12_isClaimed : MethodName := ⟨RX12, "isClaimed", "(I)Z"⟩
abbrev cX12_then : ByteArray := prog_12_method_43_code
def yX12_then : MethodName := ⟨RX12, "then", "(II)I"⟩
abbrev cX12_isNoFamily : ByteArray := prog_12_method_44_code
def yX12_isNoFamily : MethodName := ⟨RX12, "isNoFamily", "(I)Z"⟩
abbrev cX12_isNoStatistic : ByteArray := prog_12_method_45_code
def yX12_isNoStatistic : MethodName := ⟨RX12, "isNoStatistic", "(I)Z"⟩
abbrev cX12_walker : ByteArray := prog_12_method_46_code
def yX12_walker : MethodName := ⟨RX12, "walker", "(II)I"⟩
abbrev cX12_againstNow : ByteArray := prog_12_method_47_code
def yX12_againstNow : MethodName := ⟨RX12, "againstNow", "(III)I"⟩
abbrev cX12_isTried : ByteArray := prog_12_method_48_code
def yX12_isTried : MethodName := ⟨RX12, "isTried", "(LBijectoryModel$Claim;)Z"⟩
abbrev cX12_claim : ByteArray := prog_12_method_49_code
def yX12_claim : MethodName := ⟨RX12, "claim", "(III)I"⟩
abbrev cX12_send : ByteArray := prog_12_method_50_code
def yX12_send : MethodName := ⟨RX12, "send", "(III)I"⟩
abbrev cX12_trial : ByteArray := prog_12_method_51_code
def yX12_trial : MethodName := ⟨RX12, "trial", "(I)Z"⟩
abbrev cX12_objects : ByteArray := prog_12_method_52_code
def yX12_objects : MethodName := ⟨RX12, "objects", "(I)I"⟩
abbrev cX12_isNoRank : ByteArray := prog_12_method_53_code
def yX12_isNoRank : MethodName := ⟨RX12, "isNoRank", "(II)Z"⟩
abbrev cX12_unrank : ByteArray := prog_12_method_54_code
def yX12_unrank : MethodName := ⟨RX12, "unrank", "(II)I"⟩
abbrev cX12_rank : ByteArray := prog_12_method_55_code
def yX12_rank : MethodName := ⟨RX12, "rank", "(II)I"⟩
abbrev cX12_statistic : ByteArray := prog_12_method_56_code
def yX12_statistic : MethodName := ⟨RX12, "statistic", "(III)I"⟩
abbrev cX12_spread : ByteArray := prog_12_method_57_code
def yX12_spread : MethodName := ⟨RX12, "spread", "(III)I"⟩
abbrev cX12_signsNow : ByteArray := prog_12_method_58_code
def yX12_signsNow : MethodName := ⟨RX12, "signsNow", "(II)I"⟩
abbrev cX12_signs : ByteArray := prog_12_method_59_code
def yX12_signs : MethodName := ⟨RX12, "signs", "(II)I"⟩
abbrev cX12_alike : ByteArray := prog_12_method_60_code
def yX12_alike : MethodName := ⟨RX12, "alike", "(IIII)Z"⟩
abbrev cX12_digits : ByteArray := prog_12_method_61_code
def yX12_digits : MethodName := ⟨RX12, "digits", "(I)I"⟩
abbrev cX12_contains : ByteArray := prog_12_method_62_code
def yX12_contains : MethodName := ⟨RX12, "contains", "(II)I"⟩
abbrev cX12_isLike : ByteArray := prog_12_method_63_code
def yX12_isLike : MethodName := ⟨RX12, "isLike", "(III)Z"⟩
abbrev cX12_sortedNow : ByteArray := prog_12_method_64_code
def yX12_sortedNow : MethodName := ⟨RX12, "sortedNow", "(I)I"⟩
abbrev cX12_sorted : ByteArray := prog_12_method_65_code
def yX12_sorted : MethodName := ⟨RX12, "sorted", "(I)I"⟩
abbrev cX12_unlike : ByteArray := prog_12_method_66_code
def yX12_unlike : MethodName := ⟨RX12, "unlike", "(I[I)I"⟩
abbrev cX12_fixed : ByteArray := prog_12_method_67_code
def yX12_fixed : MethodName := ⟨RX12, "fixed", "(I[I)I"⟩
abbrev cX12_isPerfect : ByteArray := prog_12_method_68_code
def yX12_isPerfect : MethodName := ⟨RX12, "isPerfect", "(I[I)Z"⟩
abbrev cX12_ofMapNow : ByteArray := prog_12_method_69_code
def yX12_ofMapNow : MethodName := ⟨RX12, "ofMapNow", "(II[I)I"⟩
abbrev cX12_ofMap : ByteArray := prog_12_method_70_code
def yX12_ofMap : MethodName := ⟨RX12, "ofMap", "(II)I"⟩
abbrev cX12_image : ByteArray := prog_12_method_71_code
def yX12_image : MethodName := ⟨RX12, "image", "(II)I"⟩
abbrev cX12_source : ByteArray := prog_12_method_72_code
def yX12_source : MethodName := ⟨RX12, "source", "(II)I"⟩
abbrev cX12_rounds : ByteArray := prog_12_method_73_code
def yX12_rounds : MethodName := ⟨RX12, "rounds", "(II[I)J"⟩
abbrev cX12_common : ByteArray := prog_12_method_74_code
def yX12_common : MethodName := ⟨RX12, "common", "(JJ)J"⟩
abbrev cX12_rounds_ : ByteArray := prog_12_method_75_code
def yX12_rounds_ : MethodName := ⟨RX12, "rounds", "(I)I"⟩
abbrev cX12_period : ByteArray := prog_12_method_76_code
def yX12_period : MethodName := ⟨RX12, "period", "(I)J"⟩
abbrev cX12_against : ByteArray := prog_12_method_77_code
def yX12_against : MethodName := ⟨RX12, "against", "(III)I"⟩
abbrev cX12_cancels : ByteArray := prog_12_method_78_code
def yX12_cancels : MethodName := ⟨RX12, "cancels", "(II)Z"⟩
abbrev cX12_ofWalkerNow : ByteArray := prog_12_method_79_code
def yX12_ofWalkerNow : MethodName := ⟨RX12, "ofWalkerNow", "(LBijectoryModel$Walker;I)I"⟩
abbrev cX12_ofWalker : ByteArray := prog_12_method_80_code
def yX12_ofWalker : MethodName := ⟨RX12, "ofWalker", "(II)I"⟩
abbrev cX12_ofClaimNow : ByteArray := prog_12_method_81_code
def yX12_ofClaimNow : MethodName := ⟨RX12, "ofClaimNow", "(LBijectoryModel$Claim;I)I"⟩
abbrev cX12_ofClaim : ByteArray := prog_12_method_82_code
def yX12_ofClaim : MethodName := ⟨RX12, "ofClaim", "(II)I"⟩
abbrev cX12_refuted : ByteArray := prog_12_method_83_code
def yX12_refuted : MethodName := ⟨RX12, "refuted", "()I"⟩
abbrev cX12_manyNow : ByteArray := prog_12_method_84_code
def yX12_manyNow : MethodName := ⟨RX12, "manyNow", "(I)I"⟩
abbrev cX12_many : ByteArray := prog_12_method_85_code
def yX12_many : MethodName := ⟨RX12, "many", "(I)I"⟩
abbrev cX12_mean : ByteArray := prog_12_method_86_code
def yX12_mean : MethodName := ⟨RX12, "mean", "(II)D"⟩
abbrev cX12_add : ByteArray := prog_12_method_87_code
def yX12_add : MethodName := ⟨RX12, "add", "(JJ)J"⟩
abbrev cX12_digestMap : ByteArray := prog_12_method_88_code
def yX12_digestMap : MethodName := ⟨RX12, "digestMap", "(JI)J"⟩
abbrev cX12_digest : ByteArray := prog_12_method_89_code
def yX12_digest : MethodName := ⟨RX12, "digest", "()J"⟩
def RJx145de : String := "java/io/Serializable"
def TJx145de : u_T := fun k => match k with
  | _ => ("", "", "", false)
def tyJx145de : Nat → FieldType := fun k => match k with
  | _ => .int
abbrev wsJx145de0 : List Cond := u_ws RJx145de TJx145de 0
theorem nmJx145de : ∀ a, a < 0 → ∀ b, b < 0 → a ≠ b → (TJx145de a).2.1 ≠ (TJx145de b).2.1 := by decide +kernel
theorem tyJx145de_ok : ∀ k, k < 0 → parseFieldDescriptor (TJx145de k).2.2.1 = some (tyJx145de k) := by decide +kernel
def RJx8e188 : String := "java/lang/Cloneable"
def TJx8e188 : u_T := fun k => match k with
  | _ => ("", "", "", false)
def tyJx8e188 : Nat → FieldType := fun k => match k with
  | _ => .int
abbrev wsJx8e1880 : List Cond := u_ws RJx8e188 TJx8e188 0
theorem nmJx8e188 : ∀ a, a < 0 → ∀ b, b < 0 → a ≠ b → (TJx8e188 a).2.1 ≠ (TJx8e188 b).2.1 := by decide +kernel
theorem tyJx8e188_ok : ∀ k, k < 0 → parseFieldDescriptor (TJx8e188 k).2.2.1 = some (tyJx8e188 k) := by decide +kernel
def RJxb160c : String := "java/lang/Comparable"
def TJxb160c : u_T := fun k => match k with
  | _ => ("", "", "", false)
def tyJxb160c : Nat → FieldType := fun k => match k with
  | _ => .int
abbrev wsJxb160c0 : List Cond := u_ws RJxb160c TJxb160c 0
theorem nmJxb160c : ∀ a, a < 0 → ∀ b, b < 0 → a ≠ b → (TJxb160c a).2.1 ≠ (TJxb160c b).2.1 := by decide +kernel
theorem tyJxb160c_ok : ∀ k, k < 0 → parseFieldDescriptor (TJxb160c k).2.2.1 = some (tyJxb160c k) := by decide +kernel
def RJxabbfe : String := "java/lang/Integer$IntegerCache"
def TJxabbfe : u_T := fun k => match k with
  | _ => ("", "", "", false)
def tyJxabbfe : Nat → FieldType := fun k => match k with
  | _ => .int
abbrev wsJxabbfe0 : List Cond := u_ws RJxabbfe TJxabbfe 0
theorem nmJxabbfe : ∀ a, a < 0 → ∀ b, b < 0 → a ≠ b → (TJxabbfe a).2.1 ≠ (TJxabbfe b).2.1 := by decide +kernel
theorem tyJxabbfe_ok : ∀ k, k < 0 → parseFieldDescriptor (TJxabbfe k).2.2.1 = some (tyJxabbfe k) := by decide +kernel
def RJ6 : String := "java/lang/Integer"
def TJ6 : u_T := fun k => match k with
  | _ => ("java/lang/Integer", "value", "I", true)
def tyJ6 : Nat → FieldType := fun k => match k with
  | _ => .int
abbrev wsJ60 : List Cond := u_ws RJ6 TJ6 1
theorem nmJ6 : ∀ a, a < 1 → ∀ b, b < 1 → a ≠ b → (TJ6 a).2.1 ≠ (TJ6 b).2.1 := by decide +kernel
theorem tyJ6_ok : ∀ k, k < 1 → parseFieldDescriptor (TJ6 k).2.2.1 = some (tyJ6 k) := by decide +kernel
abbrev cJ6_valueOf_2dffe : ByteArray := prog_22_method_22_code
def yJ6_valueOf_2dffe : MethodName := ⟨RJ6, "valueOf", "(I)Ljava/lang/Integer;"⟩
abbrev cJ6_init_d00df : ByteArray := prog_22_method_23_code
def yJ6_init_d00df : MethodName := ⟨RJ6, "<init>", "(I)V"⟩
abbrev cJ6_intValue_8abf5 : ByteArray := prog_22_method_27_code
def yJ6_intValue_8abf5 : MethodName := ⟨RJ6, "intValue", "()I"⟩
abbrev cJ6_bitCount_0f7a4 : ByteArray := prog_22_method_49_code
def yJ6_bitCount_0f7a4 : MethodName := ⟨RJ6, "bitCount", "(I)I"⟩
def RJxab1ab : String := "java/lang/Iterable"
def TJxab1ab : u_T := fun k => match k with
  | _ => ("", "", "", false)
def tyJxab1ab : Nat → FieldType := fun k => match k with
  | _ => .int
abbrev wsJxab1ab0 : List Cond := u_ws RJxab1ab TJxab1ab 0
theorem nmJxab1ab : ∀ a, a < 0 → ∀ b, b < 0 → a ≠ b → (TJxab1ab a).2.1 ≠ (TJxab1ab b).2.1 := by decide +kernel
theorem tyJxab1ab_ok : ∀ k, k < 0 → parseFieldDescriptor (TJxab1ab k).2.2.1 = some (tyJxab1ab k) := by decide +kernel
def RJ9 : String := "java/lang/Math"
def TJ9 : u_T := fun k => match k with
  | _ => ("", "", "", false)
def tyJ9 : Nat → FieldType := fun k => match k with
  | _ => .int
abbrev wsJ90 : List Cond := u_ws RJ9 TJ9 0
theorem nmJ9 : ∀ a, a < 0 → ∀ b, b < 0 → a ≠ b → (TJ9 a).2.1 ≠ (TJ9 b).2.1 := by decide +kernel
theorem tyJ9_ok : ∀ k, k < 0 → parseFieldDescriptor (TJ9 k).2.2.1 = some (tyJ9 k) := by decide +kernel
abbrev cJ9_max_7cf53 : ByteArray := prog_25_method_65_code
def yJ9_max_7cf53 : MethodName := ⟨RJ9, "max", "(II)I"⟩
abbrev cJ9_min_7cf53 : ByteArray := prog_25_method_69_code
def yJ9_min_7cf53 : MethodName := ⟨RJ9, "min", "(II)I"⟩
def RJxd2413 : String := "java/lang/Number"
def TJxd2413 : u_T := fun k => match k with
  | _ => ("", "", "", false)
def tyJxd2413 : Nat → FieldType := fun k => match k with
  | _ => .int
abbrev wsJxd24130 : List Cond := u_ws RJxd2413 TJxd2413 0
theorem nmJxd2413 : ∀ a, a < 0 → ∀ b, b < 0 → a ≠ b → (TJxd2413 a).2.1 ≠ (TJxd2413 b).2.1 := by decide +kernel
theorem tyJxd2413_ok : ∀ k, k < 0 → parseFieldDescriptor (TJxd2413 k).2.2.1 = some (tyJxd2413 k) := by decide +kernel
abbrev cJxd2413_init_da8c8 : ByteArray := prog_26_method_1_code
def yJxd2413_init_da8c8 : MethodName := ⟨RJxd2413, "<init>", "()V"⟩
def RJ0 : String := "java/lang/String"
def TJ0 : u_T := fun k => match k with
  | _ => ("", "", "", false)
def tyJ0 : Nat → FieldType := fun k => match k with
  | _ => .int
abbrev wsJ00 : List Cond := u_ws RJ0 TJ0 0
theorem nmJ0 : ∀ a, a < 0 → ∀ b, b < 0 → a ≠ b → (TJ0 a).2.1 ≠ (TJ0 b).2.1 := by decide +kernel
theorem tyJ0_ok : ∀ k, k < 0 → parseFieldDescriptor (TJ0 k).2.2.1 = some (tyJ0 k) := by decide +kernel
def RJ10 : String := "java/lang/System"
def TJ10 : u_T := fun k => match k with
  | _ => ("", "", "", false)
def tyJ10 : Nat → FieldType := fun k => match k with
  | _ => .int
abbrev wsJ100 : List Cond := u_ws RJ10 TJ10 0
theorem nmJ10 : ∀ a, a < 0 → ∀ b, b < 0 → a ≠ b → (TJ10 a).2.1 ≠ (TJ10 b).2.1 := by decide +kernel
theorem tyJ10_ok : ∀ k, k < 0 → parseFieldDescriptor (TJ10 k).2.2.1 = some (tyJ10 k) := by decide +kernel
def RJxfd54e : String := "java/lang/constant/Constable"
def TJxfd54e : u_T := fun k => match k with
  | _ => ("", "", "", false)
def tyJxfd54e : Nat → FieldType := fun k => match k with
  | _ => .int
abbrev wsJxfd54e0 : List Cond := u_ws RJxfd54e TJxfd54e 0
theorem nmJxfd54e : ∀ a, a < 0 → ∀ b, b < 0 → a ≠ b → (TJxfd54e a).2.1 ≠ (TJxfd54e b).2.1 := by decide +kernel
theorem tyJxfd54e_ok : ∀ k, k < 0 → parseFieldDescriptor (TJxfd54e k).2.2.1 = some (tyJxfd54e k) := by decide +kernel
def RJx3cf43 : String := "java/lang/constant/ConstantDesc"
def TJx3cf43 : u_T := fun k => match k with
  | _ => ("", "", "", false)
def tyJx3cf43 : Nat → FieldType := fun k => match k with
  | _ => .int
abbrev wsJx3cf430 : List Cond := u_ws RJx3cf43 TJx3cf43 0
theorem nmJx3cf43 : ∀ a, a < 0 → ∀ b, b < 0 → a ≠ b → (TJx3cf43 a).2.1 ≠ (TJx3cf43 b).2.1 := by decide +kernel
theorem tyJx3cf43_ok : ∀ k, k < 0 → parseFieldDescriptor (TJx3cf43 k).2.2.1 = some (tyJx3cf43 k) := by decide +kernel
def RJxa1e45 : String := "java/util/AbstractCollection"
def TJxa1e45 : u_T := fun k => match k with
  | _ => ("", "", "", false)
def tyJxa1e45 : Nat → FieldType := fun k => match k with
  | _ => .int
abbrev wsJxa1e450 : List Cond := u_ws RJxa1e45 TJxa1e45 0
theorem nmJxa1e45 : ∀ a, a < 0 → ∀ b, b < 0 → a ≠ b → (TJxa1e45 a).2.1 ≠ (TJxa1e45 b).2.1 := by decide +kernel
theorem tyJxa1e45_ok : ∀ k, k < 0 → parseFieldDescriptor (TJxa1e45 k).2.2.1 = some (tyJxa1e45 k) := by decide +kernel
abbrev cJxa1e45_init_da8c8 : ByteArray := prog_33_method_1_code
def yJxa1e45_init_da8c8 : MethodName := ⟨RJxa1e45, "<init>", "()V"⟩
def RJxc12de : String := "java/util/AbstractList"
def TJxc12de : u_T := fun k => match k with
  | _ => ("", "", "", false)
def tyJxc12de : Nat → FieldType := fun k => match k with
  | _ => .int
abbrev wsJxc12de0 : List Cond := u_ws RJxc12de TJxc12de 0
theorem nmJxc12de : ∀ a, a < 0 → ∀ b, b < 0 → a ≠ b → (TJxc12de a).2.1 ≠ (TJxc12de b).2.1 := by decide +kernel
theorem tyJxc12de_ok : ∀ k, k < 0 → parseFieldDescriptor (TJxc12de k).2.2.1 = some (tyJxc12de k) := by decide +kernel
abbrev cJxc12de_init_da8c8 : ByteArray := prog_34_method_1_code
def yJxc12de_init_da8c8 : MethodName := ⟨RJxc12de, "<init>", "()V"⟩
def RJx35411 : String := "java/util/ArrayList$Itr"
def TJx35411 : u_T := fun k => match k with
  | 0 => ("java/util/ArrayList$Itr", "cursor", "I", false)
  | 1 => ("java/util/ArrayList$Itr", "lastRet", "I", false)
  | 2 => ("java/util/ArrayList$Itr", "expectedModCount", "I", false)
  | _ => ("java/util/ArrayList$Itr", "this$0", "Ljava/util/ArrayList;", true)
def tyJx35411 : Nat → FieldType := fun k => match k with
  | 0 => .int
  | 1 => .int
  | 2 => .int
  | _ => .object "java/util/ArrayList"
abbrev wsJx354110 : List Cond := u_ws RJx35411 TJx35411 4
theorem nmJx35411 : ∀ a, a < 4 → ∀ b, b < 4 → a ≠ b → (TJx35411 a).2.1 ≠ (TJx35411 b).2.1 := by decide +kernel
theorem tyJx35411_ok : ∀ k, k < 4 → parseFieldDescriptor (TJx35411 k).2.2.1 = some (tyJx35411 k) := by decide +kernel
abbrev cJx35411_init_45d68 : ByteArray := prog_36_method_1_code
def yJx35411_init_45d68 : MethodName := ⟨RJx35411, "<init>", "(Ljava/util/ArrayList;)V"⟩
abbrev cJx35411_hasNext_aae02 : ByteArray := prog_36_method_2_code
def yJx35411_hasNext_aae02 : MethodName := ⟨RJx35411, "hasNext", "()Z"⟩
abbrev cJx35411_next_0502b : ByteArray := prog_36_method_3_code
def yJx35411_next_0502b : MethodName := ⟨RJx35411, "next", "()Ljava/lang/Object;"⟩
abbrev cJx35411_checkForComodification_da8c8 : ByteArray := prog_36_method_6_code
def yJx35411_checkForComodification_da8c8 : MethodName := ⟨RJx35411, "checkForComodification", "()V"⟩
def RJx4a65c : String := "java/util/ArrayList"
def TJx4a65c : u_T := fun k => match k with
  | 0 => ("java/util/AbstractList", "modCount", "I", false)
  | 1 => ("java/util/ArrayList", "elementData", "[Ljava/lang/Object;", false)
  | _ => ("java/util/ArrayList", "size", "I", false)
def tyJx4a65c : Nat → FieldType := fun k => match k with
  | 0 => .int
  | 1 => .array (.object "java/lang/Object")
  | _ => .int
abbrev wsJx4a65c0 : List Cond := u_ws RJx4a65c TJx4a65c 3
theorem nmJx4a65c : ∀ a, a < 3 → ∀ b, b < 3 → a ≠ b → (TJx4a65c a).2.1 ≠ (TJx4a65c b).2.1 := by decide +kernel
theorem tyJx4a65c_ok : ∀ k, k < 3 → parseFieldDescriptor (TJx4a65c k).2.2.1 = some (tyJx4a65c k) := by decide +kernel
abbrev cJx4a65c_init_da8c8 : ByteArray := prog_35_method_2_code
def yJx4a65c_init_da8c8 : MethodName := ⟨RJx4a65c, "<init>", "()V"⟩
abbrev cJx4a65c_grow_92f84 : ByteArray := prog_35_method_6_code
def yJx4a65c_grow_92f84 : MethodName := ⟨RJx4a65c, "grow", "(I)[Ljava/lang/Object;"⟩
abbrev cJx4a65c_grow_d5877 : ByteArray := prog_35_method_7_code
def yJx4a65c_grow_d5877 : MethodName := ⟨RJx4a65c, "grow", "()[Ljava/lang/Object;"⟩
abbrev cJx4a65c_size_8abf5 : ByteArray := prog_35_method_8_code
def yJx4a65c_size_8abf5 : MethodName := ⟨RJx4a65c, "size", "()I"⟩
abbrev cJx4a65c_elementData_915e3 : ByteArray := prog_35_method_18_code
def yJx4a65c_elementData_915e3 : MethodName := ⟨RJx4a65c, "elementData", "(I)Ljava/lang/Object;"⟩
abbrev cJx4a65c_get_915e3 : ByteArray := prog_35_method_20_code
def yJx4a65c_get_915e3 : MethodName := ⟨RJx4a65c, "get", "(I)Ljava/lang/Object;"⟩
abbrev cJx4a65c_add_72be8 : ByteArray := prog_35_method_24_code
def yJx4a65c_add_72be8 : MethodName := ⟨RJx4a65c, "add", "(Ljava/lang/Object;[Ljava/lang/Object;I)V"⟩
abbrev cJx4a65c_add_9ea2d : ByteArray := prog_35_method_25_code
def yJx4a65c_add_9ea2d : MethodName := ⟨RJx4a65c, "add", "(Ljava/lang/Object;)Z"⟩
abbrev cJx4a65c_clear_da8c8 : ByteArray := prog_35_method_40_code
def yJx4a65c_clear_da8c8 : MethodName := ⟨RJx4a65c, "clear", "()V"⟩
abbrev cJx4a65c_iterator_32c93 : ByteArray := prog_35_method_55_code
def yJx4a65c_iterator_32c93 : MethodName := ⟨RJx4a65c, "iterator", "()Ljava/util/Iterator;"⟩
def RJ7 : String := "java/util/Arrays"
def TJ7 : u_T := fun k => match k with
  | _ => ("", "", "", false)
def tyJ7 : Nat → FieldType := fun k => match k with
  | _ => .int
abbrev wsJ70 : List Cond := u_ws RJ7 TJ7 0
theorem nmJ7 : ∀ a, a < 0 → ∀ b, b < 0 → a ≠ b → (TJ7 a).2.1 ≠ (TJ7 b).2.1 := by decide +kernel
theorem tyJ7_ok : ∀ k, k < 0 → parseFieldDescriptor (TJ7 k).2.2.1 = some (tyJ7 k) := by decide +kernel
abbrev cJ7_copyOf_1904c : ByteArray := prog_37_method_119_code
def yJ7_copyOf_1904c : MethodName := ⟨RJ7, "copyOf", "([Ljava/lang/Object;I)[Ljava/lang/Object;"⟩
abbrev cJ7_copyOf_6403c : ByteArray := prog_37_method_120_code
def yJ7_copyOf_6403c : MethodName := ⟨RJ7, "copyOf", "([Ljava/lang/Object;ILjava/lang/Class;)[Ljava/lang/Object;"⟩
def RJx5ef63 : String := "java/util/Collection"
def TJx5ef63 : u_T := fun k => match k with
  | _ => ("", "", "", false)
def tyJx5ef63 : Nat → FieldType := fun k => match k with
  | _ => .int
abbrev wsJx5ef630 : List Cond := u_ws RJx5ef63 TJx5ef63 0
theorem nmJx5ef63 : ∀ a, a < 0 → ∀ b, b < 0 → a ≠ b → (TJx5ef63 a).2.1 ≠ (TJx5ef63 b).2.1 := by decide +kernel
theorem tyJx5ef63_ok : ∀ k, k < 0 → parseFieldDescriptor (TJx5ef63 k).2.2.1 = some (tyJx5ef63 k) := by decide +kernel
def RJx4d0d8 : String := "java/util/Iterator"
def TJx4d0d8 : u_T := fun k => match k with
  | _ => ("", "", "", false)
def tyJx4d0d8 : Nat → FieldType := fun k => match k with
  | _ => .int
abbrev wsJx4d0d80 : List Cond := u_ws RJx4d0d8 TJx4d0d8 0
theorem nmJx4d0d8 : ∀ a, a < 0 → ∀ b, b < 0 → a ≠ b → (TJx4d0d8 a).2.1 ≠ (TJx4d0d8 b).2.1 := by decide +kernel
theorem tyJx4d0d8_ok : ∀ k, k < 0 → parseFieldDescriptor (TJx4d0d8 k).2.2.1 = some (tyJx4d0d8 k) := by decide +kernel
def RJxbd725 : String := "java/util/List"
def TJxbd725 : u_T := fun k => match k with
  | _ => ("", "", "", false)
def tyJxbd725 : Nat → FieldType := fun k => match k with
  | _ => .int
abbrev wsJxbd7250 : List Cond := u_ws RJxbd725 TJxbd725 0
theorem nmJxbd725 : ∀ a, a < 0 → ∀ b, b < 0 → a ≠ b → (TJxbd725 a).2.1 ≠ (TJxbd725 b).2.1 := by decide +kernel
theorem tyJxbd725_ok : ∀ k, k < 0 → parseFieldDescriptor (TJxbd725 k).2.2.1 = some (tyJxbd725 k) := by decide +kernel
def RJ15 : String := "java/util/Objects"
def TJ15 : u_T := fun k => match k with
  | _ => ("", "", "", false)
def tyJ15 : Nat → FieldType := fun k => match k with
  | _ => .int
abbrev wsJ150 : List Cond := u_ws RJ15 TJ15 0
theorem nmJ15 : ∀ a, a < 0 → ∀ b, b < 0 → a ≠ b → (TJ15 a).2.1 ≠ (TJ15 b).2.1 := by decide +kernel
theorem tyJ15_ok : ∀ k, k < 0 → parseFieldDescriptor (TJ15 k).2.2.1 = some (tyJ15 k) := by decide +kernel
abbrev cJ15_checkIndex_7cf53 : ByteArray := prog_41_method_17_code
def yJ15_checkIndex_7cf53 : MethodName := ⟨RJ15, "checkIndex", "(II)I"⟩
def RJxf0a74 : String := "java/util/RandomAccess"
def TJxf0a74 : u_T := fun k => match k with
  | _ => ("", "", "", false)
def tyJxf0a74 : Nat → FieldType := fun k => match k with
  | _ => .int
abbrev wsJxf0a740 : List Cond := u_ws RJxf0a74 TJxf0a74 0
theorem nmJxf0a74 : ∀ a, a < 0 → ∀ b, b < 0 → a ≠ b → (TJxf0a74 a).2.1 ≠ (TJxf0a74 b).2.1 := by decide +kernel
theorem tyJxf0a74_ok : ∀ k, k < 0 → parseFieldDescriptor (TJxf0a74 k).2.2.1 = some (tyJxf0a74 k) := by decide +kernel
def RJxa66e6 : String := "java/util/SequencedCollection"
def TJxa66e6 : u_T := fun k => match k with
  | _ => ("", "", "", false)
def tyJxa66e6 : Nat → FieldType := fun k => match k with
  | _ => .int
abbrev wsJxa66e60 : List Cond := u_ws RJxa66e6 TJxa66e6 0
theorem nmJxa66e6 : ∀ a, a < 0 → ∀ b, b < 0 → a ≠ b → (TJxa66e6 a).2.1 ≠ (TJxa66e6 b).2.1 := by decide +kernel
theorem tyJxa66e6_ok : ∀ k, k < 0 → parseFieldDescriptor (TJxa66e6 k).2.2.1 = some (tyJxa66e6 k) := by decide +kernel
def RJ8 : String := "jdk/internal/util/ArraysSupport"
def TJ8 : u_T := fun k => match k with
  | _ => ("", "", "", false)
def tyJ8 : Nat → FieldType := fun k => match k with
  | _ => .int
abbrev wsJ80 : List Cond := u_ws RJ8 TJ8 0
theorem nmJ8 : ∀ a, a < 0 → ∀ b, b < 0 → a ≠ b → (TJ8 a).2.1 ≠ (TJ8 b).2.1 := by decide +kernel
theorem tyJ8_ok : ∀ k, k < 0 → parseFieldDescriptor (TJ8 k).2.2.1 = some (tyJ8 k) := by decide +kernel
abbrev cJ8_newLength_cabcc : ByteArray := prog_44_method_27_code
def yJ8_newLength_cabcc : MethodName := ⟨RJ8, "newLength", "(III)I"⟩
abbrev cJ8_hugeLength_7cf53 : ByteArray := prog_44_method_28_code
def yJ8_hugeLength_7cf53 : MethodName := ⟨RJ8, "hugeLength", "(II)I"⟩
def RJ3 : String := "jdk/internal/util/Preconditions"
def TJ3 : u_T := fun k => match k with
  | _ => ("", "", "", false)
def tyJ3 : Nat → FieldType := fun k => match k with
  | _ => .int
abbrev wsJ30 : List Cond := u_ws RJ3 TJ3 0
theorem nmJ3 : ∀ a, a < 0 → ∀ b, b < 0 → a ≠ b → (TJ3 a).2.1 ≠ (TJ3 b).2.1 := by decide +kernel
theorem tyJ3_ok : ∀ k, k < 0 → parseFieldDescriptor (TJ3 k).2.2.1 = some (tyJ3 k) := by decide +kernel
abbrev cJ3_checkIndex_8e157 : ByteArray := prog_45_method_11_code
def yJ3_checkIndex_8e157 : MethodName := ⟨RJ3, "checkIndex", "(IILjava/util/function/BiFunction;)I"⟩
def RL : String := "BijectoryLaw"
abbrev cL_size : ByteArray := method_3_code
def yL_size : MethodName := ⟨RL, "size", "(LBijectory;I[J)I"⟩
abbrev cL_map : ByteArray := method_4_code
def yL_map : MethodName := ⟨RL, "map", "(LBijectory;I[J)I"⟩
abbrev cL_then : ByteArray := method_5_code
def yL_then : MethodName := ⟨RL, "then", "(LBijectory;II[J)I"⟩
abbrev cL_walker : ByteArray := method_6_code
def yL_walker : MethodName := ⟨RL, "walker", "(LBijectory;II[J)I"⟩
abbrev cL_claim : ByteArray := method_7_code
def yL_claim : MethodName := ⟨RL, "claim", "(LBijectory;III[J)I"⟩
abbrev cL_send : ByteArray := method_8_code
def yL_send : MethodName := ⟨RL, "send", "(LBijectory;III[J)I"⟩
abbrev cL_trial : ByteArray := method_9_code
def yL_trial : MethodName := ⟨RL, "trial", "(LBijectory;I[J)I"⟩
abbrev cL_objects : ByteArray := method_10_code
def yL_objects : MethodName := ⟨RL, "objects", "(LBijectory;I[J)I"⟩
abbrev cL_unrank : ByteArray := method_11_code
def yL_unrank : MethodName := ⟨RL, "unrank", "(LBijectory;II[J)I"⟩
abbrev cL_rank : ByteArray := method_12_code
def yL_rank : MethodName := ⟨RL, "rank", "(LBijectory;II[J)I"⟩
abbrev cL_statistic : ByteArray := method_13_code
def yL_statistic : MethodName := ⟨RL, "statistic", "(LBijectory;III[J)I"⟩
abbrev cL_spread : ByteArray := method_14_code
def yL_spread : MethodName := ⟨RL, "spread", "(LBijectory;III[J)I"⟩
abbrev cL_signs : ByteArray := method_15_code
def yL_signs : MethodName := ⟨RL, "signs", "(LBijectory;II[J)I"⟩
abbrev cL_alike : ByteArray := method_16_code
def yL_alike : MethodName := ⟨RL, "alike", "(LBijectory;IIII[J)I"⟩
abbrev cL_contains : ByteArray := method_17_code
def yL_contains : MethodName := ⟨RL, "contains", "(LBijectory;II[J)I"⟩
abbrev cL_sorted : ByteArray := method_18_code
def yL_sorted : MethodName := ⟨RL, "sorted", "(LBijectory;I[J)I"⟩
abbrev cL_ofMap : ByteArray := method_19_code
def yL_ofMap : MethodName := ⟨RL, "ofMap", "(LBijectory;II[J)I"⟩
abbrev cL_image : ByteArray := method_20_code
def yL_image : MethodName := ⟨RL, "image", "(LBijectory;II[J)I"⟩
abbrev cL_source : ByteArray := method_21_code
def yL_source : MethodName := ⟨RL, "source", "(LBijectory;II[J)I"⟩
abbrev cL_rounds : ByteArray := method_22_code
def yL_rounds : MethodName := ⟨RL, "rounds", "(LBijectory;I[J)I"⟩
abbrev cL_period : ByteArray := method_23_code
def yL_period : MethodName := ⟨RL, "period", "(LBijectory;I[J)I"⟩
abbrev cL_against : ByteArray := method_24_code
def yL_against : MethodName := ⟨RL, "against", "(LBijectory;III[J)I"⟩
abbrev cL_cancels : ByteArray := method_25_code
def yL_cancels : MethodName := ⟨RL, "cancels", "(LBijectory;II[J)I"⟩
abbrev cL_ofWalker : ByteArray := method_26_code
def yL_ofWalker : MethodName := ⟨RL, "ofWalker", "(LBijectory;II[J)I"⟩
abbrev cL_ofClaim : ByteArray := method_27_code
def yL_ofClaim : MethodName := ⟨RL, "ofClaim", "(LBijectory;II[J)I"⟩
abbrev cL_many : ByteArray := method_28_code
def yL_many : MethodName := ⟨RL, "many", "(LBijectory;I[J)I"⟩
abbrev cL_mean : ByteArray := method_29_code
def yL_mean : MethodName := ⟨RL, "mean", "(LBijectory;II[D)I"⟩
abbrev cL_law : ByteArray := code
def yL_law : MethodName := ⟨RL, "law", "([I)Z"⟩
