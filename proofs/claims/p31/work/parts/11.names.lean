/-! ===== BEGIN printed: names, fields, word lists, decode rows ===== -/
def RX0 : String := "Bijectory$Chart"
def TX0 : u_T := fun k => match k with
  | 0 => ("Bijectory$Chart", "from", "I", true)
  | 1 => ("Bijectory$Chart", "to", "I", false)
  | 2 => ("Bijectory$Chart", "steps", "[I", true)
  | 3 => ("Bijectory$Chart", "length", "I", false)
  | 4 => ("Bijectory$Chart", "claimed", "Z", false)
  | 5 => ("Bijectory$Chart", "surveyed", "I", false)
  | 6 => ("Bijectory$Chart", "distinct", "I", false)
  | 7 => ("Bijectory$Chart", "unmoved", "I", false)
  | 8 => ("Bijectory$Chart", "rounds", "I", false)
  | _ => ("Bijectory$Chart", "period", "J", false)
def tyX0 : Nat → FieldType := fun k => match k with
  | 0 => .int
  | 1 => .int
  | 2 => .array .int
  | 3 => .int
  | 4 => .boolean
  | 5 => .int
  | 6 => .int
  | 7 => .int
  | 8 => .int
  | _ => .long
abbrev wsX00 : List Cond := u_ws RX0 TX0 10
theorem nmX0 : ∀ a, a < 10 → ∀ b, b < 10 → a ≠ b → (TX0 a).2.1 ≠ (TX0 b).2.1 := by decide +kernel
theorem tyX0_ok : ∀ k, k < 10 → parseFieldDescriptor (TX0 k).2.2.1 = some (tyX0 k) := by decide +kernel
abbrev cX0_init : ByteArray := prog_2_method_1_code
def yX0_init : MethodName := ⟨RX0, "<init>", "(I)V"⟩
abbrev cX0_append : ByteArray := prog_2_method_2_code
def yX0_append : MethodName := ⟨RX0, "append", "(I)V"⟩
abbrev cX0_stepAt : ByteArray := prog_2_method_3_code
def yX0_stepAt : MethodName := ⟨RX0, "stepAt", "(I)I"⟩
abbrev cX0_isMove : ByteArray := prog_2_method_4_code
def yX0_isMove : MethodName := ⟨RX0, "isMove", "()Z"⟩
def RX1 : String := "Bijectory$Claim"
def TX1 : u_T := fun k => match k with
  | 0 => ("Bijectory$Claim", "map", "I", true)
  | 1 => ("Bijectory$Claim", "which", "I", true)
  | 2 => ("Bijectory$Claim", "other", "I", true)
  | 3 => ("Bijectory$Claim", "tried", "I", false)
  | _ => ("Bijectory$Claim", "refuted", "I", false)
def tyX1 : Nat → FieldType := fun k => match k with
  | 0 => .int
  | 1 => .int
  | 2 => .int
  | 3 => .int
  | _ => .int
abbrev wsX10 : List Cond := u_ws RX1 TX1 5
theorem nmX1 : ∀ a, a < 5 → ∀ b, b < 5 → a ≠ b → (TX1 a).2.1 ≠ (TX1 b).2.1 := by decide +kernel
theorem tyX1_ok : ∀ k, k < 5 → parseFieldDescriptor (TX1 k).2.2.1 = some (tyX1 k) := by decide +kernel
abbrev cX1_init : ByteArray := prog_3_method_1_code
def yX1_init : MethodName := ⟨RX1, "<init>", "(III)V"⟩
abbrev cX1_note : ByteArray := prog_3_method_2_code
def yX1_note : MethodName := ⟨RX1, "note", "(IZ)V"⟩
def RX2 : String := "Bijectory$Orders"
def TX2 : u_T := fun k => match k with
  | _ => ("", "", "", false)
def tyX2 : Nat → FieldType := fun k => match k with
  | _ => .int
abbrev wsX20 : List Cond := u_ws RX2 TX2 0
theorem nmX2 : ∀ a, a < 0 → ∀ b, b < 0 → a ≠ b → (TX2 a).2.1 ≠ (TX2 b).2.1 := by decide +kernel
theorem tyX2_ok : ∀ k, k < 0 → parseFieldDescriptor (TX2 k).2.2.1 = some (tyX2 k) := by decide +kernel
abbrev cX2_at : ByteArray := prog_4_method_3_code
def yX2_at : MethodName := ⟨RX2, "at", "(III)I"⟩
abbrev cX2_ofRank : ByteArray := prog_4_method_4_code
def yX2_ofRank : MethodName := ⟨RX2, "ofRank", "(II)I"⟩
abbrev cX2_freeNumber : ByteArray := prog_4_method_5_code
def yX2_freeNumber : MethodName := ⟨RX2, "freeNumber", "(II)I"⟩
abbrev cX2_shape : ByteArray := prog_4_method_6_code
def yX2_shape : MethodName := ⟨RX2, "shape", "(IIII)I"⟩
abbrev cX2_invert : ByteArray := prog_4_method_7_code
def yX2_invert : MethodName := ⟨RX2, "invert", "(II)I"⟩
abbrev cX2_turn : ByteArray := prog_4_method_8_code
def yX2_turn : MethodName := ⟨RX2, "turn", "(II)I"⟩
abbrev cX2_sort : ByteArray := prog_4_method_9_code
def yX2_sort : MethodName := ⟨RX2, "sort", "(II)I"⟩
abbrev cX2_valueOf : ByteArray := prog_4_method_10_code
def yX2_valueOf : MethodName := ⟨RX2, "valueOf", "(III)I"⟩
abbrev cX2_drops : ByteArray := prog_4_method_11_code
def yX2_drops : MethodName := ⟨RX2, "drops", "(II)I"⟩
abbrev cX2_inversions : ByteArray := prog_4_method_12_code
def yX2_inversions : MethodName := ⟨RX2, "inversions", "(II)I"⟩
abbrev cX2_records : ByteArray := prog_4_method_13_code
def yX2_records : MethodName := ⟨RX2, "records", "(II)I"⟩
abbrev cX2_unmoved : ByteArray := prog_4_method_14_code
def yX2_unmoved : MethodName := ⟨RX2, "unmoved", "(II)I"⟩
def RX3 : String := "Bijectory$Paths"
def TX3 : u_T := fun k => match k with
  | _ => ("", "", "", false)
def tyX3 : Nat → FieldType := fun k => match k with
  | _ => .int
abbrev wsX30 : List Cond := u_ws RX3 TX3 0
theorem nmX3 : ∀ a, a < 0 → ∀ b, b < 0 → a ≠ b → (TX3 a).2.1 ≠ (TX3 b).2.1 := by decide +kernel
theorem tyX3_ok : ∀ k, k < 0 → parseFieldDescriptor (TX3 k).2.2.1 = some (tyX3 k) := by decide +kernel
abbrev cX3_isPath : ByteArray := prog_5_method_2_code
def yX3_isPath : MethodName := ⟨RX3, "isPath", "(II)Z"⟩
abbrev cX3_isUp : ByteArray := prog_5_method_3_code
def yX3_isUp : MethodName := ⟨RX3, "isUp", "(II)Z"⟩
abbrev cX3_rise : ByteArray := prog_5_method_4_code
def yX3_rise : MethodName := ⟨RX3, "rise", "(II)I"⟩
abbrev cX3_part : ByteArray := prog_5_method_5_code
def yX3_part : MethodName := ⟨RX3, "part", "(III)I"⟩
abbrev cX3_pairsOfFirst : ByteArray := prog_5_method_6_code
def yX3_pairsOfFirst : MethodName := ⟨RX3, "pairsOfFirst", "(II)I"⟩
abbrev cX3_pairsOfLast : ByteArray := prog_5_method_7_code
def yX3_pairsOfLast : MethodName := ⟨RX3, "pairsOfLast", "(II)I"⟩
abbrev cX3_graft : ByteArray := prog_5_method_8_code
def yX3_graft : MethodName := ⟨RX3, "graft", "(II)I"⟩
abbrev cX3_backward : ByteArray := prog_5_method_9_code
def yX3_backward : MethodName := ⟨RX3, "backward", "(II)I"⟩
abbrev cX3_roll : ByteArray := prog_5_method_10_code
def yX3_roll : MethodName := ⟨RX3, "roll", "(II)I"⟩
abbrev cX3_valueOf : ByteArray := prog_5_method_11_code
def yX3_valueOf : MethodName := ⟨RX3, "valueOf", "(III)I"⟩
abbrev cX3_peaks : ByteArray := prog_5_method_12_code
def yX3_peaks : MethodName := ⟨RX3, "peaks", "(II)I"⟩
abbrev cX3_returns : ByteArray := prog_5_method_13_code
def yX3_returns : MethodName := ⟨RX3, "returns", "(II)I"⟩
abbrev cX3_greatestHeight : ByteArray := prog_5_method_14_code
def yX3_greatestHeight : MethodName := ⟨RX3, "greatestHeight", "(II)I"⟩
abbrev cX3_area : ByteArray := prog_5_method_15_code
def yX3_area : MethodName := ⟨RX3, "area", "(II)I"⟩
def RX4 : String := "Bijectory$Realm"
def TX4 : u_T := fun k => match k with
  | 0 => ("Bijectory$Realm", "size", "I", true)
  | 1 => ("Bijectory$Realm", "paths", "[I", true)
  | 2 => ("Bijectory$Realm", "orders", "[I", true)
  | 3 => ("Bijectory$Realm", "images", "[[I", true)
  | 4 => ("Bijectory$Realm", "values", "[[I", true)
  | _ => ("Bijectory$Realm", "counts", "[[I", true)
def tyX4 : Nat → FieldType := fun k => match k with
  | 0 => .int
  | 1 => .array .int
  | 2 => .array .int
  | 3 => .array (.array .int)
  | 4 => .array (.array .int)
  | _ => .array (.array .int)
abbrev wsX40 : List Cond := u_ws RX4 TX4 6
theorem nmX4 : ∀ a, a < 6 → ∀ b, b < 6 → a ≠ b → (TX4 a).2.1 ≠ (TX4 b).2.1 := by decide +kernel
theorem tyX4_ok : ∀ k, k < 6 → parseFieldDescriptor (TX4 k).2.2.1 = some (tyX4 k) := by decide +kernel
abbrev cX4_init : ByteArray := prog_6_method_1_code
def yX4_init : MethodName := ⟨RX4, "<init>", "(I)V"⟩
abbrev cX4_of : ByteArray := prog_6_method_2_code
def yX4_of : MethodName := ⟨RX4, "of", "(I)LBijectory$Realm;"⟩
abbrev cX4_listPaths : ByteArray := prog_6_method_3_code
def yX4_listPaths : MethodName := ⟨RX4, "listPaths", "()V"⟩
abbrev cX4_listOrders : ByteArray := prog_6_method_4_code
def yX4_listOrders : MethodName := ⟨RX4, "listOrders", "()V"⟩
abbrev cX4_listImages : ByteArray := prog_6_method_5_code
def yX4_listImages : MethodName := ⟨RX4, "listImages", "(I)V"⟩
abbrev cX4_listValues : ByteArray := prog_6_method_6_code
def yX4_listValues : MethodName := ⟨RX4, "listValues", "(II)V"⟩
abbrev cX4_imageCode : ByteArray := prog_6_method_7_code
def yX4_imageCode : MethodName := ⟨RX4, "imageCode", "(III)I"⟩
abbrev cX4_valueByCode : ByteArray := prog_6_method_8_code
def yX4_valueByCode : MethodName := ⟨RX4, "valueByCode", "(IIII)I"⟩
abbrev cX4_codes : ByteArray := prog_6_method_9_code
def yX4_codes : MethodName := ⟨RX4, "codes", "(I)[I"⟩
abbrev cX4_count : ByteArray := prog_6_method_10_code
def yX4_count : MethodName := ⟨RX4, "count", "(I)I"⟩
abbrev cX4_codeOf : ByteArray := prog_6_method_11_code
def yX4_codeOf : MethodName := ⟨RX4, "codeOf", "(II)I"⟩
abbrev cX4_rankOf : ByteArray := prog_6_method_12_code
def yX4_rankOf : MethodName := ⟨RX4, "rankOf", "(II)I"⟩
abbrev cX4_through : ByteArray := prog_6_method_13_code
def yX4_through : MethodName := ⟨RX4, "through", "(LBijectory$Chart;I)I"⟩
abbrev cX4_valueOf : ByteArray := prog_6_method_14_code
def yX4_valueOf : MethodName := ⟨RX4, "valueOf", "(III)I"⟩
abbrev cX4_countOf : ByteArray := prog_6_method_15_code
def yX4_countOf : MethodName := ⟨RX4, "countOf", "(III)I"⟩
abbrev cX4_isInOrderBehind : ByteArray := prog_6_method_16_code
def yX4_isInOrderBehind : MethodName := ⟨RX4, "isInOrderBehind", "(II)Z"⟩
def RX5 : String := "Bijectory$Rows"
def TX5 : u_T := fun k => match k with
  | _ => ("", "", "", false)
def tyX5 : Nat → FieldType := fun k => match k with
  | _ => .int
abbrev wsX50 : List Cond := u_ws RX5 TX5 0
theorem nmX5 : ∀ a, a < 0 → ∀ b, b < 0 → a ≠ b → (TX5 a).2.1 ≠ (TX5 b).2.1 := by decide +kernel
theorem tyX5_ok : ∀ k, k < 0 → parseFieldDescriptor (TX5 k).2.2.1 = some (tyX5 k) := by decide +kernel
abbrev cX5_at : ByteArray := prog_7_method_2_code
def yX5_at : MethodName := ⟨RX5, "at", "([II)I"⟩
abbrev cX5_at_ : ByteArray := prog_7_method_3_code
def yX5_at_ : MethodName := ⟨RX5, "at", "([[III)I"⟩
abbrev cX5_put : ByteArray := prog_7_method_4_code
def yX5_put : MethodName := ⟨RX5, "put", "([III)V"⟩
abbrev cX5_put_ : ByteArray := prog_7_method_5_code
def yX5_put_ : MethodName := ⟨RX5, "put", "([[IIII)V"⟩
def RX6 : String := "Bijectory$Survey"
def TX6 : u_T := fun k => match k with
  | 0 => ("Bijectory$Survey", "ends", "[I", true)
  | _ => ("Bijectory$Survey", "met", "[Z", true)
def tyX6 : Nat → FieldType := fun k => match k with
  | 0 => .array .int
  | _ => .array .boolean
abbrev wsX60 : List Cond := u_ws RX6 TX6 2
theorem nmX6 : ∀ a, a < 2 → ∀ b, b < 2 → a ≠ b → (TX6 a).2.1 ≠ (TX6 b).2.1 := by decide +kernel
theorem tyX6_ok : ∀ k, k < 2 → parseFieldDescriptor (TX6 k).2.2.1 = some (tyX6 k) := by decide +kernel
abbrev cX6_init : ByteArray := prog_8_method_1_code
def yX6_init : MethodName := ⟨RX6, "<init>", "()V"⟩
abbrev cX6_take : ByteArray := prog_8_method_2_code
def yX6_take : MethodName := ⟨RX6, "take", "(LBijectory$Chart;LBijectory$Realm;)V"⟩
abbrev cX6_countDistinct : ByteArray := prog_8_method_3_code
def yX6_countDistinct : MethodName := ⟨RX6, "countDistinct", "(I)I"⟩
abbrev cX6_countUnmoved : ByteArray := prog_8_method_4_code
def yX6_countUnmoved : MethodName := ⟨RX6, "countUnmoved", "(I)I"⟩
abbrev cX6_followRounds : ByteArray := prog_8_method_5_code
def yX6_followRounds : MethodName := ⟨RX6, "followRounds", "(LBijectory$Chart;I)V"⟩
abbrev cX6_roundLength : ByteArray := prog_8_method_6_code
def yX6_roundLength : MethodName := ⟨RX6, "roundLength", "(II)I"⟩
abbrev cX6_commonMultiple : ByteArray := prog_8_method_7_code
def yX6_commonMultiple : MethodName := ⟨RX6, "commonMultiple", "(JI)J"⟩
abbrev cX6_forget : ByteArray := prog_8_method_8_code
def yX6_forget : MethodName := ⟨RX6, "forget", "()V"⟩
abbrev cX6_meet : ByteArray := prog_8_method_9_code
def yX6_meet : MethodName := ⟨RX6, "meet", "(I)Z"⟩
def RX7 : String := "Bijectory$Trees"
def TX7 : u_T := fun k => match k with
  | _ => ("", "", "", false)
def tyX7 : Nat → FieldType := fun k => match k with
  | _ => .int
abbrev wsX70 : List Cond := u_ws RX7 TX7 0
theorem nmX7 : ∀ a, a < 0 → ∀ b, b < 0 → a ≠ b → (TX7 a).2.1 ≠ (TX7 b).2.1 := by decide +kernel
theorem tyX7_ok : ∀ k, k < 0 → parseFieldDescriptor (TX7 k).2.2.1 = some (tyX7 k) := by decide +kernel
abbrev cX7_node : ByteArray := prog_9_method_2_code
def yX7_node : MethodName := ⟨RX7, "node", "(IIII)I"⟩
abbrev cX7_leftOf : ByteArray := prog_9_method_3_code
def yX7_leftOf : MethodName := ⟨RX7, "leftOf", "(III)I"⟩
abbrev cX7_rightOf : ByteArray := prog_9_method_4_code
def yX7_rightOf : MethodName := ⟨RX7, "rightOf", "(II)I"⟩
abbrev cX7_mirror : ByteArray := prog_9_method_5_code
def yX7_mirror : MethodName := ⟨RX7, "mirror", "(II)I"⟩
abbrev cX7_label : ByteArray := prog_9_method_6_code
def yX7_label : MethodName := ⟨RX7, "label", "(III)I"⟩
abbrev cX7_valueOf : ByteArray := prog_9_method_7_code
def yX7_valueOf : MethodName := ⟨RX7, "valueOf", "(III)I"⟩
def RX8 : String := "Bijectory$Walker"
def TX8 : u_T := fun k => match k with
  | 0 => ("Bijectory$Walker", "homeFamily", "I", true)
  | 1 => ("Bijectory$Walker", "home", "I", true)
  | 2 => ("Bijectory$Walker", "family", "I", false)
  | 3 => ("Bijectory$Walker", "place", "I", false)
  | 4 => ("Bijectory$Walker", "trips", "I", false)
  | _ => ("Bijectory$Walker", "backs", "I", false)
def tyX8 : Nat → FieldType := fun k => match k with
  | 0 => .int
  | 1 => .int
  | 2 => .int
  | 3 => .int
  | 4 => .int
  | _ => .int
abbrev wsX80 : List Cond := u_ws RX8 TX8 6
theorem nmX8 : ∀ a, a < 6 → ∀ b, b < 6 → a ≠ b → (TX8 a).2.1 ≠ (TX8 b).2.1 := by decide +kernel
theorem tyX8_ok : ∀ k, k < 6 → parseFieldDescriptor (TX8 k).2.2.1 = some (tyX8 k) := by decide +kernel
abbrev cX8_init : ByteArray := prog_10_method_1_code
def yX8_init : MethodName := ⟨RX8, "<init>", "(II)V"⟩
abbrev cX8_go : ByteArray := prog_10_method_2_code
def yX8_go : MethodName := ⟨RX8, "go", "(II)V"⟩
def RX9 : String := "Bijectory"
def TX9 : u_T := fun k => match k with
  | 0 => ("Bijectory", "realms", "[LBijectory$Realm;", true)
  | 1 => ("Bijectory", "survey", "LBijectory$Survey;", true)
  | 2 => ("Bijectory", "charts", "[LBijectory$Chart;", true)
  | 3 => ("Bijectory", "walkers", "[LBijectory$Walker;", true)
  | 4 => ("Bijectory", "claims", "[LBijectory$Claim;", true)
  | 5 => ("Bijectory", "realm", "LBijectory$Realm;", false)
  | 6 => ("Bijectory", "chartCount", "I", false)
  | 7 => ("Bijectory", "walkerCount", "I", false)
  | 8 => ("Bijectory", "claimCount", "I", false)
  | 9 => ("Bijectory", "tripsEver", "I", false)
  | _ => ("Bijectory", "trialsEver", "I", false)
def tyX9 : Nat → FieldType := fun k => match k with
  | 0 => .array (.object "Bijectory$Realm")
  | 1 => .object "Bijectory$Survey"
  | 2 => .array (.object "Bijectory$Chart")
  | 3 => .array (.object "Bijectory$Walker")
  | 4 => .array (.object "Bijectory$Claim")
  | 5 => .object "Bijectory$Realm"
  | 6 => .int
  | 7 => .int
  | 8 => .int
  | 9 => .int
  | _ => .int
abbrev wsX90 : List Cond := u_ws RX9 TX9 11
theorem nmX9 : ∀ a, a < 11 → ∀ b, b < 11 → a ≠ b → (TX9 a).2.1 ≠ (TX9 b).2.1 := by decide +kernel
theorem tyX9_ok : ∀ k, k < 11 → parseFieldDescriptor (TX9 k).2.2.1 = some (tyX9 k) := by decide +kernel
abbrev cX9_init : ByteArray := prog_1_method_1_code
def yX9_init : MethodName := ⟨RX9, "<init>", "()V"⟩
abbrev cX9_size : ByteArray := prog_1_method_2_code
def yX9_size : MethodName := ⟨RX9, "size", "(I)I"⟩
abbrev cX9_map : ByteArray := prog_1_method_3_code
def yX9_map : MethodName := ⟨RX9, "map", "(I)I"⟩
abbrev cX9_then : ByteArray := prog_1_method_4_code
def yX9_then : MethodName := ⟨RX9, "then", "(II)I"⟩
abbrev cX9_walker : ByteArray := prog_1_method_5_code
def yX9_walker : MethodName := ⟨RX9, "walker", "(II)I"⟩
abbrev cX9_claim : ByteArray := prog_1_method_6_code
def yX9_claim : MethodName := ⟨RX9, "claim", "(III)I"⟩
abbrev cX9_send : ByteArray := prog_1_method_7_code
def yX9_send : MethodName := ⟨RX9, "send", "(III)I"⟩
abbrev cX9_trial : ByteArray := prog_1_method_8_code
def yX9_trial : MethodName := ⟨RX9, "trial", "(I)Z"⟩
abbrev cX9_objects : ByteArray := prog_1_method_9_code
def yX9_objects : MethodName := ⟨RX9, "objects", "(I)I"⟩
abbrev cX9_unrank : ByteArray := prog_1_method_10_code
def yX9_unrank : MethodName := ⟨RX9, "unrank", "(II)I"⟩
abbrev cX9_rank : ByteArray := prog_1_method_11_code
def yX9_rank : MethodName := ⟨RX9, "rank", "(II)I"⟩
abbrev cX9_statistic : ByteArray := prog_1_method_12_code
def yX9_statistic : MethodName := ⟨RX9, "statistic", "(III)I"⟩
abbrev cX9_signs : ByteArray := prog_1_method_14_code
def yX9_signs : MethodName := ⟨RX9, "signs", "(II)I"⟩
abbrev cX9_alike : ByteArray := prog_1_method_15_code
def yX9_alike : MethodName := ⟨RX9, "alike", "(IIII)Z"⟩
abbrev cX9_sorted : ByteArray := prog_1_method_17_code
def yX9_sorted : MethodName := ⟨RX9, "sorted", "(I)I"⟩
abbrev cX9_ofMap : ByteArray := prog_1_method_18_code
def yX9_ofMap : MethodName := ⟨RX9, "ofMap", "(II)I"⟩
abbrev cX9_image : ByteArray := prog_1_method_19_code
def yX9_image : MethodName := ⟨RX9, "image", "(II)I"⟩
abbrev cX9_source : ByteArray := prog_1_method_20_code
def yX9_source : MethodName := ⟨RX9, "source", "(II)I"⟩
abbrev cX9_rounds : ByteArray := prog_1_method_21_code
def yX9_rounds : MethodName := ⟨RX9, "rounds", "(I)I"⟩
abbrev cX9_period : ByteArray := prog_1_method_22_code
def yX9_period : MethodName := ⟨RX9, "period", "(I)J"⟩
abbrev cX9_against : ByteArray := prog_1_method_23_code
def yX9_against : MethodName := ⟨RX9, "against", "(III)I"⟩
abbrev cX9_cancels : ByteArray := prog_1_method_24_code
def yX9_cancels : MethodName := ⟨RX9, "cancels", "(II)Z"⟩
abbrev cX9_ofWalker : ByteArray := prog_1_method_25_code
def yX9_ofWalker : MethodName := ⟨RX9, "ofWalker", "(II)I"⟩
abbrev cX9_ofClaim : ByteArray := prog_1_method_26_code
def yX9_ofClaim : MethodName := ⟨RX9, "ofClaim", "(II)I"⟩
abbrev cX9_many : ByteArray := prog_1_method_27_code
def yX9_many : MethodName := ⟨RX9, "many", "(I)I"⟩
abbrev cX9_digest : ByteArray := prog_1_method_29_code
def yX9_digest : MethodName := ⟨RX9, "digest", "()J"⟩
abbrev cX9_digestOfObjects : ByteArray := prog_1_method_30_code
def yX9_digestOfObjects : MethodName := ⟨RX9, "digestOfObjects", "(J)J"⟩
abbrev cX9_digestOfMap : ByteArray := prog_1_method_31_code
def yX9_digestOfMap : MethodName := ⟨RX9, "digestOfMap", "(JI)J"⟩
abbrev cX9_needStep : ByteArray := prog_1_method_32_code
def yX9_needStep : MethodName := ⟨RX9, "needStep", "(I)V"⟩
abbrev cX9_needFamily : ByteArray := prog_1_method_33_code
def yX9_needFamily : MethodName := ⟨RX9, "needFamily", "(I)V"⟩
abbrev cX9_needStatistic : ByteArray := prog_1_method_34_code
def yX9_needStatistic : MethodName := ⟨RX9, "needStatistic", "(I)V"⟩
abbrev cX9_needRank : ByteArray := prog_1_method_35_code
def yX9_needRank : MethodName := ⟨RX9, "needRank", "(II)V"⟩
abbrev cX9_chartAt : ByteArray := prog_1_method_36_code
def yX9_chartAt : MethodName := ⟨RX9, "chartAt", "(I)LBijectory$Chart;"⟩
abbrev cX9_walkerAt : ByteArray := prog_1_method_37_code
def yX9_walkerAt : MethodName := ⟨RX9, "walkerAt", "(I)LBijectory$Walker;"⟩
abbrev cX9_claimAt : ByteArray := prog_1_method_38_code
def yX9_claimAt : MethodName := ⟨RX9, "claimAt", "(I)LBijectory$Claim;"⟩
abbrev cX9_signOf : ByteArray := prog_1_method_39_code
def yX9_signOf : MethodName := ⟨RX9, "signOf", "(I)I"⟩
abbrev cX9_tryClaim : ByteArray := prog_1_method_41_code
def yX9_tryClaim : MethodName := ⟨RX9, "tryClaim", "(LBijectory$Claim;LBijectory$Chart;)Z"⟩
abbrev cX9_firstAgainst : ByteArray := prog_1_method_42_code
def yX9_firstAgainst : MethodName := ⟨RX9, "firstAgainst", "(LBijectory$Chart;II)I"⟩
abbrev cX9_isPairedOff : ByteArray := prog_1_method_43_code
def yX9_isPairedOff : MethodName := ⟨RX9, "isPairedOff", "(LBijectory$Chart;II)Z"⟩
abbrev cX9_refutedClaims : ByteArray := prog_1_method_44_code
def yX9_refutedClaims : MethodName := ⟨RX9, "refutedClaims", "()I"⟩
def RX10 : String := "BijectoryModel$Claim"
def TX10 : u_T := fun k => match k with
  | _ => ("", "", "", false)
def tyX10 : Nat → FieldType := fun k => match k with
  | _ => .int
abbrev wsX100 : List Cond := u_ws RX10 TX10 0
theorem nmX10 : ∀ a, a < 0 → ∀ b, b < 0 → a ≠ b → (TX10 a).2.1 ≠ (TX10 b).2.1 := by decide +kernel
theorem tyX10_ok : ∀ k, k < 0 → parseFieldDescriptor (TX10 k).2.2.1 = some (tyX10 k) := by decide +kernel
def RX11 : String := "BijectoryModel$Walker"
def TX11 : u_T := fun k => match k with
  | _ => ("", "", "", false)
def tyX11 : Nat → FieldType := fun k => match k with
  | _ => .int
abbrev wsX110 : List Cond := u_ws RX11 TX11 0
theorem nmX11 : ∀ a, a < 0 → ∀ b, b < 0 → a ≠ b → (TX11 a).2.1 ≠ (TX11 b).2.1 := by decide +kernel
theorem tyX11_ok : ∀ k, k < 0 → parseFieldDescriptor (TX11 k).2.2.1 = some (tyX11 k) := by decide +kernel
def RX12 : String := "BijectoryModel"
def TX12 : u_T := fun k => match k with
  | _ => ("", "", "", false)
def tyX12 : Nat → FieldType := fun k => match k with
  | _ => .int
abbrev wsX120 : List Cond := u_ws RX12 TX12 0
theorem nmX12 : ∀ a, a < 0 → ∀ b, b < 0 → a ≠ b → (TX12 a).2.1 ≠ (TX12 b).2.1 := by decide +kernel
theorem tyX12_ok : ∀ k, k < 0 → parseFieldDescriptor (TX12 k).2.2.1 = some (tyX12 k) := by decide +kernel
def RJx145de : String := "java/io/Serializable"
def TJx145de : u_T := fun k => match k with
  | _ => ("", "", "", false)
def tyJx145de : Nat → FieldType := fun k => match k with
  | _ => .int
abbrev wsJx145de0 : List Cond := u_ws RJx145de TJx145de 0
theorem nmJx145de : ∀ a, a < 0 → ∀ b, b < 0 → a ≠ b → (TJx145de a).2.1 ≠ (TJx145de b).2.1 := by decide +kernel
theorem tyJx145de_ok : ∀ k, k < 0 → parseFieldDescriptor (TJx145de k).2.2.1 = some (tyJx145de k) := by decide +kernel
def RJ9 : String := "java/lang/Math"
def TJ9 : u_T := fun k => match k with
  | _ => ("", "", "", false)
def tyJ9 : Nat → FieldType := fun k => match k with
  | _ => .int
abbrev wsJ90 : List Cond := u_ws RJ9 TJ9 0
theorem nmJ9 : ∀ a, a < 0 → ∀ b, b < 0 → a ≠ b → (TJ9 a).2.1 ≠ (TJ9 b).2.1 := by decide +kernel
theorem tyJ9_ok : ∀ k, k < 0 → parseFieldDescriptor (TJ9 k).2.2.1 = some (tyJ9 k) := by decide +kernel
abbrev cJ9_max_7cf53 : ByteArray := prog_19_method_65_code
def yJ9_max_7cf53 : MethodName := ⟨RJ9, "max", "(II)I"⟩
abbrev cJ9_min_7cf53 : ByteArray := prog_19_method_69_code
def yJ9_min_7cf53 : MethodName := ⟨RJ9, "min", "(II)I"⟩
def RJ0 : String := "java/lang/String"
def TJ0 : u_T := fun k => match k with
  | _ => ("", "", "", false)
def tyJ0 : Nat → FieldType := fun k => match k with
  | _ => .int
abbrev wsJ00 : List Cond := u_ws RJ0 TJ0 0
theorem nmJ0 : ∀ a, a < 0 → ∀ b, b < 0 → a ≠ b → (TJ0 a).2.1 ≠ (TJ0 b).2.1 := by decide +kernel
theorem tyJ0_ok : ∀ k, k < 0 → parseFieldDescriptor (TJ0 k).2.2.1 = some (tyJ0 k) := by decide +kernel
def RL : String := "BijectoryLaw"
abbrev cL_below : ByteArray := method_2_code
def yL_below : MethodName := ⟨RL, "below", "(II)I"⟩
abbrev cL_cell : ByteArray := method_3_code
def yL_cell : MethodName := ⟨RL, "cell", "([II)I"⟩
abbrev cL_law : ByteArray := code
def yL_law : MethodName := ⟨RL, "law", "([I)Z"⟩
abbrev cL_isSent : ByteArray := method_5_code
def yL_isSent : MethodName := ⟨RL, "isSent", "(LBijectory;II)Z"⟩
abbrev cL_isMap : ByteArray := method_6_code
def yL_isMap : MethodName := ⟨RL, "isMap", "(LBijectory;II)Z"⟩
