/-! ===== all methods together ===== -/
def kMs (tb : List (List Int32)) (cl : kCall) : List (List (List kOp)) := [bl_X5_at tb cl, bl_X5_at_ tb cl, bl_X5_put tb cl, bl_X5_put_ tb cl, bl_X3_isPath tb cl, bl_X3_isUp tb cl, bl_X3_rise tb cl, bl_X3_part tb cl, bl_X3_pairsOfFirst tb cl, bl_X3_pairsOfLast tb cl, bl_X3_graft tb cl, bl_X3_backward tb cl, bl_X3_roll tb cl, bl_X3_valueOf tb cl, bl_X3_peaks tb cl, bl_X3_returns tb cl, bl_X3_greatestHeight tb cl, bl_X3_area tb cl, bl_X2_isOrder tb cl, bl_X2_at tb cl, bl_X2_ofRank tb cl, bl_X2_freeNumber tb cl, bl_X2_shape tb cl, bl_X2_invert tb cl, bl_X2_turn tb cl, bl_X2_sort tb cl, bl_X2_valueOf tb cl, bl_X2_drops tb cl, bl_X2_inversions tb cl, bl_X2_records tb cl, bl_X2_unmoved tb cl, bl_X2_timesContained tb cl, bl_X2_chosen tb cl, bl_X2_patternOf tb cl, bl_X7_node tb cl, bl_X7_leftOf tb cl, bl_X7_rightOf tb cl, bl_X7_mirror tb cl, bl_X7_label tb cl, bl_X7_valueOf tb cl, bl_J6_bitCount_0f7a4 tb cl, bl_X4_init tb cl, bl_X4_of tb cl, bl_X4_listPaths tb cl, bl_X4_listOrders tb cl, bl_X4_listImages tb cl, bl_X4_listValues tb cl, bl_X4_imageCode tb cl, bl_X4_valueByCode tb cl, bl_X4_codes tb cl, bl_X4_count tb cl, bl_X4_codeOf tb cl, bl_X4_rankOf tb cl, bl_X4_through tb cl, bl_X4_valueOf tb cl, bl_X4_countOf tb cl, bl_X4_isInOrderBehind tb cl, bl_X0_init tb cl, bl_X0_append tb cl, bl_X0_stepAt tb cl, bl_X0_isMove tb cl, bl_X6_init tb cl, bl_X6_take tb cl, bl_X6_countDistinct tb cl, bl_X6_countUnmoved tb cl, bl_X6_followRounds tb cl, bl_X6_roundLength tb cl, bl_X6_commonMultiple tb cl, bl_X6_forget tb cl, bl_X6_meet tb cl, bl_X8_init tb cl, bl_X8_go tb cl, bl_X1_init tb cl, bl_X1_note tb cl]
def kM (tb : List (List Int32)) (cl : kCall) (mi : Nat) : List (List kOp) := ((kMs tb cl)[mi]?).getD []
theorem kMOK_nil {E : kE} {XX : State → Prop} {σ : List Nat} {zs : List (String × String × Nat)} {l : Launch} {Y : Nat → MethodName} {WS : Nat → List Cond} {y : MethodName} {ws : List Cond} {cc : ByteArray} {maxL : Nat} {ret : Option FieldType} {bl : kCall → List (List kOp)} (h : ∀ cl, bl cl = []) : kMOK E XX σ zs l Y WS y ws cc maxL ret bl := by
  intro d cl hS p e R s m args below meth c α0 nc0 ns0 res C hf hlo hr hnm hout
  refine ⟨fun _ => 0, rfl, fun b ops hb => ?_⟩
  rw [h] at hb
  simp at hb
set_option maxRecDepth 100000 in
theorem kM_ok {E : kE} {σ : List Nat} {l : Launch} {tb : List (List Int32)} (hE : kcl E = kCl) (hn : kn E = 8) (htb : ktb E = tb) : ∀ mi, kMOK E (kXX (kb E)) σ kZs l kY kWS (kY mi) (kWS mi) (kCC mi) (kML mi) (kRT mi) (fun cl => kM tb cl mi) := by
  have h0 : ∀ a, a < 0 → kMOK E (kXX (kb E)) σ kZs l kY kWS (kY a) (kWS a) (kCC a) (kML a) (kRT a) (fun cl => kM tb cl a) := lt_0
  have h1 := lt_s h0 (mok_X5_at hE hn htb)
  have h2 := lt_s h1 (mok_X5_at_ hE hn htb)
  have h3 := lt_s h2 (mok_X5_put hE hn htb)
  have h4 := lt_s h3 (mok_X5_put_ hE hn htb)
  have h5 := lt_s h4 (mok_X3_isPath hE hn htb)
  have h6 := lt_s h5 (mok_X3_isUp hE hn htb)
  have h7 := lt_s h6 (mok_X3_rise hE hn htb)
  have h8 := lt_s h7 (mok_X3_part hE hn htb)
  have h9 := lt_s h8 (mok_X3_pairsOfFirst hE hn htb)
  have h10 := lt_s h9 (mok_X3_pairsOfLast hE hn htb)
  have h11 := lt_s h10 (mok_X3_graft hE hn htb)
  have h12 := lt_s h11 (mok_X3_backward hE hn htb)
  have h13 := lt_s h12 (mok_X3_roll hE hn htb)
  have h14 := lt_s h13 (mok_X3_valueOf hE hn htb)
  have h15 := lt_s h14 (mok_X3_peaks hE hn htb)
  have h16 := lt_s h15 (mok_X3_returns hE hn htb)
  have h17 := lt_s h16 (mok_X3_greatestHeight hE hn htb)
  have h18 := lt_s h17 (mok_X3_area hE hn htb)
  have h19 := lt_s h18 (mok_X2_isOrder hE hn htb)
  have h20 := lt_s h19 (mok_X2_at hE hn htb)
  have h21 := lt_s h20 (mok_X2_ofRank hE hn htb)
  have h22 := lt_s h21 (mok_X2_freeNumber hE hn htb)
  have h23 := lt_s h22 (mok_X2_shape hE hn htb)
  have h24 := lt_s h23 (mok_X2_invert hE hn htb)
  have h25 := lt_s h24 (mok_X2_turn hE hn htb)
  have h26 := lt_s h25 (mok_X2_sort hE hn htb)
  have h27 := lt_s h26 (mok_X2_valueOf hE hn htb)
  have h28 := lt_s h27 (mok_X2_drops hE hn htb)
  have h29 := lt_s h28 (mok_X2_inversions hE hn htb)
  have h30 := lt_s h29 (mok_X2_records hE hn htb)
  have h31 := lt_s h30 (mok_X2_unmoved hE hn htb)
  have h32 := lt_s h31 (mok_X2_timesContained hE hn htb)
  have h33 := lt_s h32 (mok_X2_chosen hE hn htb)
  have h34 := lt_s h33 (mok_X2_patternOf hE hn htb)
  have h35 := lt_s h34 (mok_X7_node hE hn htb)
  have h36 := lt_s h35 (mok_X7_leftOf hE hn htb)
  have h37 := lt_s h36 (mok_X7_rightOf hE hn htb)
  have h38 := lt_s h37 (mok_X7_mirror hE hn htb)
  have h39 := lt_s h38 (mok_X7_label hE hn htb)
  have h40 := lt_s h39 (mok_X7_valueOf hE hn htb)
  have h41 := lt_s h40 (mok_J6_bitCount_0f7a4 hE hn htb)
  have h42 := lt_s h41 (mok_X4_init hE hn htb)
  have h43 := lt_s h42 (mok_X4_of hE hn htb)
  have h44 := lt_s h43 (mok_X4_listPaths hE hn htb)
  have h45 := lt_s h44 (mok_X4_listOrders hE hn htb)
  have h46 := lt_s h45 (mok_X4_listImages hE hn htb)
  have h47 := lt_s h46 (mok_X4_listValues hE hn htb)
  have h48 := lt_s h47 (mok_X4_imageCode hE hn htb)
  have h49 := lt_s h48 (mok_X4_valueByCode hE hn htb)
  have h50 := lt_s h49 (mok_X4_codes hE hn htb)
  have h51 := lt_s h50 (mok_X4_count hE hn htb)
  have h52 := lt_s h51 (mok_X4_codeOf hE hn htb)
  have h53 := lt_s h52 (mok_X4_rankOf hE hn htb)
  have h54 := lt_s h53 (mok_X4_through hE hn htb)
  have h55 := lt_s h54 (mok_X4_valueOf hE hn htb)
  have h56 := lt_s h55 (mok_X4_countOf hE hn htb)
  have h57 := lt_s h56 (mok_X4_isInOrderBehind hE hn htb)
  have h58 := lt_s h57 (mok_X0_init hE hn htb)
  have h59 := lt_s h58 (mok_X0_append hE hn htb)
  have h60 := lt_s h59 (mok_X0_stepAt hE hn htb)
  have h61 := lt_s h60 (mok_X0_isMove hE hn htb)
  have h62 := lt_s h61 (mok_X6_init hE hn htb)
  have h63 := lt_s h62 (mok_X6_take hE hn htb)
  have h64 := lt_s h63 (mok_X6_countDistinct hE hn htb)
  have h65 := lt_s h64 (mok_X6_countUnmoved hE hn htb)
  have h66 := lt_s h65 (mok_X6_followRounds hE hn htb)
  have h67 := lt_s h66 (mok_X6_roundLength hE hn htb)
  have h68 := lt_s h67 (mok_X6_commonMultiple hE hn htb)
  have h69 := lt_s h68 (mok_X6_forget hE hn htb)
  have h70 := lt_s h69 (mok_X6_meet hE hn htb)
  have h71 := lt_s h70 (mok_X8_init hE hn htb)
  have h72 := lt_s h71 (mok_X8_go hE hn htb)
  have h73 := lt_s h72 (mok_X1_init hE hn htb)
  have h74 := lt_s h73 (mok_X1_note hE hn htb)
  intro mi
  by_cases h : mi < 74
  · exact h74 mi h
  · refine kMOK_nil fun cl => ?_
    have hz : (kMs tb cl)[mi]? = none := List.getElem?_eq_none (by show 74 ≤ mi; omega)
    show ((kMs tb cl)[mi]?).getD [] = []
    rw [hz]; rfl
theorem kY_plain (mi : Nat) : plainName (kY mi).cls = true := by
  unfold kY
  cases h : kYs[mi]? with
  | none => decide +kernel
  | some y =>
    have h1 : kYs.all (fun y => plainName y.cls) = true := by decide +kernel
    exact List.all_eq_true.mp h1 y (List.mem_of_getElem? h)
theorem kmach_ok {E : kE} {σ : List Nat} {l : Launch} {tb : List (List Int32)} {F : Nat} (hE : kcl E = kCl) (hn : kn E = 8) (htb : ktb E = tb) (hst : kStab (kb E) (kXX (kb E))) (hfl : l.stackTraces = false) (d : Nat) : kSnd E (kXX (kb E)) σ kZs l kY kWS d (kcall (kM tb) kML F d) := kcall_ok (CC := kCC) (RT := kRT) (G := kG) hst hfl kY_plain (fun _ => rfl) (kM_ok hE hn htb) d
def mi_X5_at : Nat := 0
def mi_X5_at_ : Nat := 1
def mi_X5_put : Nat := 2
def mi_X5_put_ : Nat := 3
def mi_X3_isPath : Nat := 4
def mi_X3_isUp : Nat := 5
def mi_X3_rise : Nat := 6
def mi_X3_part : Nat := 7
def mi_X3_pairsOfFirst : Nat := 8
def mi_X3_pairsOfLast : Nat := 9
def mi_X3_graft : Nat := 10
def mi_X3_backward : Nat := 11
def mi_X3_roll : Nat := 12
def mi_X3_valueOf : Nat := 13
def mi_X3_peaks : Nat := 14
def mi_X3_returns : Nat := 15
def mi_X3_greatestHeight : Nat := 16
def mi_X3_area : Nat := 17
def mi_X2_isOrder : Nat := 18
def mi_X2_at : Nat := 19
def mi_X2_ofRank : Nat := 20
def mi_X2_freeNumber : Nat := 21
def mi_X2_shape : Nat := 22
def mi_X2_invert : Nat := 23
def mi_X2_turn : Nat := 24
def mi_X2_sort : Nat := 25
def mi_X2_valueOf : Nat := 26
def mi_X2_drops : Nat := 27
def mi_X2_inversions : Nat := 28
def mi_X2_records : Nat := 29
def mi_X2_unmoved : Nat := 30
def mi_X2_timesContained : Nat := 31
def mi_X2_chosen : Nat := 32
def mi_X2_patternOf : Nat := 33
def mi_X7_node : Nat := 34
def mi_X7_leftOf : Nat := 35
def mi_X7_rightOf : Nat := 36
def mi_X7_mirror : Nat := 37
def mi_X7_label : Nat := 38
def mi_X7_valueOf : Nat := 39
def mi_J6_bitCount_0f7a4 : Nat := 40
def mi_X4_init : Nat := 41
def mi_X4_of : Nat := 42
def mi_X4_listPaths : Nat := 43
def mi_X4_listOrders : Nat := 44
def mi_X4_listImages : Nat := 45
def mi_X4_listValues : Nat := 46
def mi_X4_imageCode : Nat := 47
def mi_X4_valueByCode : Nat := 48
def mi_X4_codes : Nat := 49
def mi_X4_count : Nat := 50
def mi_X4_codeOf : Nat := 51
def mi_X4_rankOf : Nat := 52
def mi_X4_through : Nat := 53
def mi_X4_valueOf : Nat := 54
def mi_X4_countOf : Nat := 55
def mi_X4_isInOrderBehind : Nat := 56
def mi_X0_init : Nat := 57
def mi_X0_append : Nat := 58
def mi_X0_stepAt : Nat := 59
def mi_X0_isMove : Nat := 60
def mi_X6_init : Nat := 61
def mi_X6_take : Nat := 62
def mi_X6_countDistinct : Nat := 63
def mi_X6_countUnmoved : Nat := 64
def mi_X6_followRounds : Nat := 65
def mi_X6_roundLength : Nat := 66
def mi_X6_commonMultiple : Nat := 67
def mi_X6_forget : Nat := 68
def mi_X6_meet : Nat := 69
def mi_X8_init : Nat := 70
def mi_X8_go : Nat := 71
def mi_X1_init : Nat := 72
def mi_X1_note : Nat := 73
