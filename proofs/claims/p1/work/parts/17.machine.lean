/-! ===== all methods together ===== -/
theorem hh_no {α : Type} {P : Prop} {o : Option α} {x : α} (h : o = some x) (h2 : o = none) : P := by
  rw [h] at h2
  cases h2
def kM (tb : List (List Int32)) (cl : kCall) (mi : Nat) : List (List kOp) := bif Nat.ble mi 220 then (bif Nat.ble mi 109 then (bif Nat.ble mi 54 then (bif Nat.ble mi 26 then (bif Nat.ble mi 12 then (bif Nat.ble mi 5 then (bif Nat.ble mi 2 then (bif Nat.ble mi 0 then bl_X5_at tb cl else (bif Nat.ble mi 1 then bl_X5_at_ tb cl else bl_X5_put tb cl)) else (bif Nat.ble mi 3 then bl_X5_put_ tb cl else (bif Nat.ble mi 4 then bl_X3_isPath tb cl else bl_X3_isUp tb cl))) else (bif Nat.ble mi 8 then (bif Nat.ble mi 6 then bl_X3_rise tb cl else (bif Nat.ble mi 7 then bl_X3_part tb cl else bl_X3_pairsOfFirst tb cl)) else (bif Nat.ble mi 10 then (bif Nat.ble mi 9 then bl_X3_pairsOfLast tb cl else bl_X3_graft tb cl) else (bif Nat.ble mi 11 then bl_X3_backward tb cl else bl_X3_roll tb cl)))) else (bif Nat.ble mi 19 then (bif Nat.ble mi 15 then (bif Nat.ble mi 13 then bl_X3_valueOf tb cl else (bif Nat.ble mi 14 then bl_X3_peaks tb cl else bl_X3_returns tb cl)) else (bif Nat.ble mi 17 then (bif Nat.ble mi 16 then bl_X3_greatestHeight tb cl else bl_X3_area tb cl) else (bif Nat.ble mi 18 then bl_X2_isOrder tb cl else bl_X2_at tb cl))) else (bif Nat.ble mi 22 then (bif Nat.ble mi 20 then bl_X2_ofRank tb cl else (bif Nat.ble mi 21 then bl_X2_freeNumber tb cl else bl_X2_shape tb cl)) else (bif Nat.ble mi 24 then (bif Nat.ble mi 23 then bl_X2_invert tb cl else bl_X2_turn tb cl) else (bif Nat.ble mi 25 then bl_X2_sort tb cl else bl_X2_valueOf tb cl))))) else (bif Nat.ble mi 40 then (bif Nat.ble mi 33 then (bif Nat.ble mi 29 then (bif Nat.ble mi 27 then bl_X2_drops tb cl else (bif Nat.ble mi 28 then bl_X2_inversions tb cl else bl_X2_records tb cl)) else (bif Nat.ble mi 31 then (bif Nat.ble mi 30 then bl_X2_unmoved tb cl else bl_X2_timesContained tb cl) else (bif Nat.ble mi 32 then bl_X2_chosen tb cl else bl_X2_patternOf tb cl))) else (bif Nat.ble mi 36 then (bif Nat.ble mi 34 then bl_X7_node tb cl else (bif Nat.ble mi 35 then bl_X7_leftOf tb cl else bl_X7_rightOf tb cl)) else (bif Nat.ble mi 38 then (bif Nat.ble mi 37 then bl_X7_mirror tb cl else bl_X7_label tb cl) else (bif Nat.ble mi 39 then bl_X7_valueOf tb cl else bl_J6_valueOf_2dffe tb cl)))) else (bif Nat.ble mi 47 then (bif Nat.ble mi 43 then (bif Nat.ble mi 41 then bl_J6_bitCount_0f7a4 tb cl else (bif Nat.ble mi 42 then bl_X4_init tb cl else bl_X4_of tb cl)) else (bif Nat.ble mi 45 then (bif Nat.ble mi 44 then bl_X4_listPaths tb cl else bl_X4_listOrders tb cl) else (bif Nat.ble mi 46 then bl_X4_listImages tb cl else bl_X4_listValues tb cl))) else (bif Nat.ble mi 50 then (bif Nat.ble mi 48 then bl_X4_imageCode tb cl else (bif Nat.ble mi 49 then bl_X4_valueByCode tb cl else bl_X4_codes tb cl)) else (bif Nat.ble mi 52 then (bif Nat.ble mi 51 then bl_X4_count tb cl else bl_X4_codeOf tb cl) else (bif Nat.ble mi 53 then bl_X4_rankOf tb cl else bl_X4_through tb cl)))))) else (bif Nat.ble mi 81 then (bif Nat.ble mi 67 then (bif Nat.ble mi 60 then (bif Nat.ble mi 57 then (bif Nat.ble mi 55 then bl_X4_valueOf tb cl else (bif Nat.ble mi 56 then bl_X4_countOf tb cl else bl_X4_isInOrderBehind tb cl)) else (bif Nat.ble mi 58 then bl_X0_init tb cl else (bif Nat.ble mi 59 then bl_X0_append tb cl else bl_X0_stepAt tb cl))) else (bif Nat.ble mi 63 then (bif Nat.ble mi 61 then bl_X0_isMove tb cl else (bif Nat.ble mi 62 then bl_X6_init tb cl else bl_X6_take tb cl)) else (bif Nat.ble mi 65 then (bif Nat.ble mi 64 then bl_X6_countDistinct tb cl else bl_X6_countUnmoved tb cl) else (bif Nat.ble mi 66 then bl_X6_followRounds tb cl else bl_X6_roundLength tb cl)))) else (bif Nat.ble mi 74 then (bif Nat.ble mi 70 then (bif Nat.ble mi 68 then bl_X6_commonMultiple tb cl else (bif Nat.ble mi 69 then bl_X6_forget tb cl else bl_X6_meet tb cl)) else (bif Nat.ble mi 72 then (bif Nat.ble mi 71 then bl_X8_init tb cl else bl_X8_go tb cl) else (bif Nat.ble mi 73 then bl_X1_init tb cl else bl_X1_note tb cl))) else (bif Nat.ble mi 77 then (bif Nat.ble mi 75 then bl_X9_init tb cl else (bif Nat.ble mi 76 then bl_X9_size tb cl else bl_X9_map tb cl)) else (bif Nat.ble mi 79 then (bif Nat.ble mi 78 then bl_X9_then tb cl else bl_X9_walker tb cl) else (bif Nat.ble mi 80 then bl_X9_claim tb cl else bl_X9_send tb cl))))) else (bif Nat.ble mi 95 then (bif Nat.ble mi 88 then (bif Nat.ble mi 84 then (bif Nat.ble mi 82 then bl_X9_trial tb cl else (bif Nat.ble mi 83 then bl_X9_objects tb cl else bl_X9_unrank tb cl)) else (bif Nat.ble mi 86 then (bif Nat.ble mi 85 then bl_X9_rank tb cl else bl_X9_statistic tb cl) else (bif Nat.ble mi 87 then bl_X9_spread tb cl else bl_X9_signs tb cl))) else (bif Nat.ble mi 91 then (bif Nat.ble mi 89 then bl_X9_alike tb cl else (bif Nat.ble mi 90 then bl_X9_contains tb cl else bl_X9_sorted tb cl)) else (bif Nat.ble mi 93 then (bif Nat.ble mi 92 then bl_X9_ofMap tb cl else bl_X9_image tb cl) else (bif Nat.ble mi 94 then bl_X9_source tb cl else bl_X9_rounds tb cl)))) else (bif Nat.ble mi 102 then (bif Nat.ble mi 98 then (bif Nat.ble mi 96 then bl_X9_period tb cl else (bif Nat.ble mi 97 then bl_X9_against tb cl else bl_X9_cancels tb cl)) else (bif Nat.ble mi 100 then (bif Nat.ble mi 99 then bl_X9_ofWalker tb cl else bl_X9_ofClaim tb cl) else (bif Nat.ble mi 101 then bl_X9_many tb cl else bl_X9_mean tb cl))) else (bif Nat.ble mi 105 then (bif Nat.ble mi 103 then bl_X9_digest tb cl else (bif Nat.ble mi 104 then bl_X9_digestOfObjects tb cl else bl_X9_digestOfMap tb cl)) else (bif Nat.ble mi 107 then (bif Nat.ble mi 106 then bl_X9_needStep tb cl else bl_X9_needFamily tb cl) else (bif Nat.ble mi 108 then bl_X9_needStatistic tb cl else bl_X9_needRank tb cl))))))) else (bif Nat.ble mi 164 then (bif Nat.ble mi 136 then (bif Nat.ble mi 122 then (bif Nat.ble mi 115 then (bif Nat.ble mi 112 then (bif Nat.ble mi 110 then bl_X9_chartAt tb cl else (bif Nat.ble mi 111 then bl_X9_walkerAt tb cl else bl_X9_claimAt tb cl)) else (bif Nat.ble mi 113 then bl_X9_signOf tb cl else (bif Nat.ble mi 114 then bl_X9_patternLength tb cl else bl_X9_tryClaim tb cl))) else (bif Nat.ble mi 118 then (bif Nat.ble mi 116 then bl_X9_firstAgainst tb cl else (bif Nat.ble mi 117 then bl_X9_isPairedOff tb cl else bl_X9_refutedClaims tb cl)) else (bif Nat.ble mi 120 then (bif Nat.ble mi 119 then bl_X11_init tb cl else bl_X12_isIn tb cl) else (bif Nat.ble mi 121 then bl_X12_init tb cl else bl_X12_thrown tb cl)))) else (bif Nat.ble mi 129 then (bif Nat.ble mi 125 then (bif Nat.ble mi 123 then bl_X12_refuse tb cl else (bif Nat.ble mi 124 then bl_X12_start tb cl else bl_X12_isPath tb cl)) else (bif Nat.ble mi 127 then (bif Nat.ble mi 126 then bl_X12_isOrder tb cl else bl_X12_tens tb cl) else (bif Nat.ble mi 128 then bl_X12_grow tb cl else bl_X12_fill tb cl))) else (bif Nat.ble mi 132 then (bif Nat.ble mi 130 then bl_X12_index tb cl else (bif Nat.ble mi 131 then bl_X12_first tb cl else bl_X12_part tb cl)) else (bif Nat.ble mi 134 then (bif Nat.ble mi 133 then bl_X12_read tb cl else bl_X12_written tb cl) else (bif Nat.ble mi 135 then bl_X12_sort tb cl else bl_X12_ofPath tb cl))))) else (bif Nat.ble mi 150 then (bif Nat.ble mi 143 then (bif Nat.ble mi 139 then (bif Nat.ble mi 137 then bl_X12_tree tb cl else (bif Nat.ble mi 138 then bl_X12_ofOrder tb cl else bl_X12_statisticOf tb cl)) else (bif Nat.ble mi 141 then (bif Nat.ble mi 140 then bl_X12_statistics tb cl else bl_X12_sign tb cl) else (bif Nat.ble mi 142 then bl_X12_size tb cl else bl_X12_map tb cl))) else (bif Nat.ble mi 146 then (bif Nat.ble mi 144 then bl_X12_isNoMap tb cl else (bif Nat.ble mi 145 then bl_X12_then tb cl else bl_X12_isNoFamily tb cl)) else (bif Nat.ble mi 148 then (bif Nat.ble mi 147 then bl_X12_isNoStatistic tb cl else bl_X12_walker tb cl) else (bif Nat.ble mi 149 then bl_X12_claim tb cl else bl_X12_send tb cl)))) else (bif Nat.ble mi 157 then (bif Nat.ble mi 153 then (bif Nat.ble mi 151 then bl_X12_trial tb cl else (bif Nat.ble mi 152 then bl_X12_objects tb cl else bl_X12_isNoRank tb cl)) else (bif Nat.ble mi 155 then (bif Nat.ble mi 154 then bl_X12_unrank tb cl else bl_X12_rank tb cl) else (bif Nat.ble mi 156 then bl_X12_statistic tb cl else bl_X12_spread tb cl))) else (bif Nat.ble mi 160 then (bif Nat.ble mi 158 then bl_X12_signsNow tb cl else (bif Nat.ble mi 159 then bl_X12_signs tb cl else bl_X12_alike tb cl)) else (bif Nat.ble mi 162 then (bif Nat.ble mi 161 then bl_X12_digits tb cl else bl_X12_contains tb cl) else (bif Nat.ble mi 163 then bl_X12_isLike tb cl else bl_X12_sortedNow tb cl)))))) else (bif Nat.ble mi 192 then (bif Nat.ble mi 178 then (bif Nat.ble mi 171 then (bif Nat.ble mi 167 then (bif Nat.ble mi 165 then bl_X12_sorted tb cl else (bif Nat.ble mi 166 then bl_X12_ofMap tb cl else bl_X12_image tb cl)) else (bif Nat.ble mi 169 then (bif Nat.ble mi 168 then bl_X12_source tb cl else bl_X12_rounds_ tb cl) else (bif Nat.ble mi 170 then bl_X12_period tb cl else bl_X12_against tb cl))) else (bif Nat.ble mi 174 then (bif Nat.ble mi 172 then bl_X12_cancels tb cl else (bif Nat.ble mi 173 then bl_X12_ofWalker tb cl else bl_X12_ofClaim tb cl)) else (bif Nat.ble mi 176 then (bif Nat.ble mi 175 then bl_X12_refuted tb cl else bl_X12_manyNow tb cl) else (bif Nat.ble mi 177 then bl_X12_many tb cl else bl_X12_mean tb cl)))) else (bif Nat.ble mi 185 then (bif Nat.ble mi 181 then (bif Nat.ble mi 179 then bl_X12_add tb cl else (bif Nat.ble mi 180 then bl_X12_digest tb cl else bl_Jxa1e45_init_da8c8 tb cl)) else (bif Nat.ble mi 183 then (bif Nat.ble mi 182 then bl_Jxc12de_init_da8c8 tb cl else bl_Jx35411_init_45d68 tb cl) else (bif Nat.ble mi 184 then bl_Jx35411_hasNext_aae02 tb cl else bl_Jx4a65c_init_da8c8 tb cl))) else (bif Nat.ble mi 188 then (bif Nat.ble mi 186 then bl_Jx4a65c_grow_92f84 tb cl else (bif Nat.ble mi 187 then bl_Jx4a65c_grow_d5877 tb cl else bl_Jx4a65c_size_8abf5 tb cl)) else (bif Nat.ble mi 190 then (bif Nat.ble mi 189 then bl_Jx4a65c_add_72be8 tb cl else bl_Jx4a65c_add_9ea2d tb cl) else (bif Nat.ble mi 191 then bl_Jx4a65c_clear_da8c8 tb cl else bl_Jx4a65c_iterator_32c93 tb cl))))) else (bif Nat.ble mi 206 then (bif Nat.ble mi 199 then (bif Nat.ble mi 195 then (bif Nat.ble mi 193 then bl_L_size tb cl else (bif Nat.ble mi 194 then bl_L_map tb cl else bl_L_then tb cl)) else (bif Nat.ble mi 197 then (bif Nat.ble mi 196 then bl_L_walker tb cl else bl_L_claim tb cl) else (bif Nat.ble mi 198 then bl_L_send tb cl else bl_L_trial tb cl))) else (bif Nat.ble mi 202 then (bif Nat.ble mi 200 then bl_L_objects tb cl else (bif Nat.ble mi 201 then bl_L_unrank tb cl else bl_L_rank tb cl)) else (bif Nat.ble mi 204 then (bif Nat.ble mi 203 then bl_L_statistic tb cl else bl_L_spread tb cl) else (bif Nat.ble mi 205 then bl_L_signs tb cl else bl_L_alike tb cl)))) else (bif Nat.ble mi 213 then (bif Nat.ble mi 209 then (bif Nat.ble mi 207 then bl_L_contains tb cl else (bif Nat.ble mi 208 then bl_L_sorted tb cl else bl_L_ofMap tb cl)) else (bif Nat.ble mi 211 then (bif Nat.ble mi 210 then bl_L_image tb cl else bl_L_source tb cl) else (bif Nat.ble mi 212 then bl_L_rounds tb cl else bl_L_period tb cl))) else (bif Nat.ble mi 216 then (bif Nat.ble mi 214 then bl_L_against tb cl else (bif Nat.ble mi 215 then bl_L_cancels tb cl else bl_L_ofWalker tb cl)) else (bif Nat.ble mi 218 then (bif Nat.ble mi 217 then bl_L_ofClaim tb cl else bl_L_many tb cl) else (bif Nat.ble mi 219 then bl_L_mean tb cl else bl_L_law tb cl)))))))) else []
theorem kMOK_nil {E : kE} {XX : State → Prop} {σ : List Nat} {zs : List (String × String × Nat)} {l : Launch} {Y : Nat → MethodName} {WS : Nat → List Cond} {y : MethodName} {ws : List Cond} {cc : ByteArray} {maxL : Nat} {ret : Option FieldType} {bl : kCall → List (List kOp)} (h : ∀ cl, bl cl = []) : kMOK E XX σ zs l Y WS y ws cc maxL ret bl := by
  intro d cl hS p e R s m args below meth c α0 nc0 ns0 res C hf hlo hr hnm hout
  refine ⟨fun _ => 0, rfl, fun b ops hb => ?_⟩
  rw [h] at hb
  simp at hb
theorem kMOKH_nil {E : kE} {XX : State → Prop} {σ : List Nat} {zs : List (String × String × Nat)} {l : Launch} {Y : Nat → MethodName} {WS : Nat → List Cond} {y : MethodName} {ws : List Cond} {cc : ByteArray} {maxL : Nat} {ret : Option FieldType} {hh : List (Nat × Nat × Nat × Nat)} {bl : kCall → List (List kOp)} (h : ∀ cl, bl cl = []) : kMOKH E XX σ zs l Y WS y ws cc maxL ret hh bl := by
  intro d cl hS p e R s m args below meth c α0 nc0 ns0 res C hf hlo hr hnm hout
  refine ⟨fun _ => 0, rfl, fun b ops hb => ?_⟩
  rw [h] at hb
  simp at hb
set_option maxRecDepth 100000 in
theorem kM_ok {E : kE} {σ : List Nat} {l : Launch} {tb : List (List Int32)} (hE : kcl E = kCl) (hn : kn E = 20) (htb : ktb E = tb) : ∀ mi, (kHH mi = none → kMOK E (kXX (kb E) σ) σ kZs l kY kWS (kY mi) (kWS mi) (kCC mi) (kML mi) (kRT mi) (fun cl => kM tb cl mi)) ∧ ∀ hh, kHH mi = some hh → kMOKH E (kXX (kb E) σ) σ kZs l kY kWS (kY mi) (kWS mi) (kCC mi) (kML mi) (kRT mi) hh (fun cl => kM tb cl mi) := by
  have h0 : ∀ a, a < 0 → (kHH a = none → kMOK E (kXX (kb E) σ) σ kZs l kY kWS (kY a) (kWS a) (kCC a) (kML a) (kRT a) (fun cl => kM tb cl a)) ∧ ∀ hh, kHH a = some hh → kMOKH E (kXX (kb E) σ) σ kZs l kY kWS (kY a) (kWS a) (kCC a) (kML a) (kRT a) hh (fun cl => kM tb cl a) := lt_0
  have h1 := lt_s h0 ⟨fun _ => mok_X5_at hE hn htb, fun hh h => hh_no h (rfl : kHH 0 = none)⟩
  have h2 := lt_s h1 ⟨fun _ => mok_X5_at_ hE hn htb, fun hh h => hh_no h (rfl : kHH 1 = none)⟩
  have h3 := lt_s h2 ⟨fun _ => mok_X5_put hE hn htb, fun hh h => hh_no h (rfl : kHH 2 = none)⟩
  have h4 := lt_s h3 ⟨fun _ => mok_X5_put_ hE hn htb, fun hh h => hh_no h (rfl : kHH 3 = none)⟩
  have h5 := lt_s h4 ⟨fun _ => mok_X3_isPath hE hn htb, fun hh h => hh_no h (rfl : kHH 4 = none)⟩
  have h6 := lt_s h5 ⟨fun _ => mok_X3_isUp hE hn htb, fun hh h => hh_no h (rfl : kHH 5 = none)⟩
  have h7 := lt_s h6 ⟨fun _ => mok_X3_rise hE hn htb, fun hh h => hh_no h (rfl : kHH 6 = none)⟩
  have h8 := lt_s h7 ⟨fun _ => mok_X3_part hE hn htb, fun hh h => hh_no h (rfl : kHH 7 = none)⟩
  have h9 := lt_s h8 ⟨fun _ => mok_X3_pairsOfFirst hE hn htb, fun hh h => hh_no h (rfl : kHH 8 = none)⟩
  have h10 := lt_s h9 ⟨fun _ => mok_X3_pairsOfLast hE hn htb, fun hh h => hh_no h (rfl : kHH 9 = none)⟩
  have h11 := lt_s h10 ⟨fun _ => mok_X3_graft hE hn htb, fun hh h => hh_no h (rfl : kHH 10 = none)⟩
  have h12 := lt_s h11 ⟨fun _ => mok_X3_backward hE hn htb, fun hh h => hh_no h (rfl : kHH 11 = none)⟩
  have h13 := lt_s h12 ⟨fun _ => mok_X3_roll hE hn htb, fun hh h => hh_no h (rfl : kHH 12 = none)⟩
  have h14 := lt_s h13 ⟨fun _ => mok_X3_valueOf hE hn htb, fun hh h => hh_no h (rfl : kHH 13 = none)⟩
  have h15 := lt_s h14 ⟨fun _ => mok_X3_peaks hE hn htb, fun hh h => hh_no h (rfl : kHH 14 = none)⟩
  have h16 := lt_s h15 ⟨fun _ => mok_X3_returns hE hn htb, fun hh h => hh_no h (rfl : kHH 15 = none)⟩
  have h17 := lt_s h16 ⟨fun _ => mok_X3_greatestHeight hE hn htb, fun hh h => hh_no h (rfl : kHH 16 = none)⟩
  have h18 := lt_s h17 ⟨fun _ => mok_X3_area hE hn htb, fun hh h => hh_no h (rfl : kHH 17 = none)⟩
  have h19 := lt_s h18 ⟨fun _ => mok_X2_isOrder hE hn htb, fun hh h => hh_no h (rfl : kHH 18 = none)⟩
  have h20 := lt_s h19 ⟨fun _ => mok_X2_at hE hn htb, fun hh h => hh_no h (rfl : kHH 19 = none)⟩
  have h21 := lt_s h20 ⟨fun _ => mok_X2_ofRank hE hn htb, fun hh h => hh_no h (rfl : kHH 20 = none)⟩
  have h22 := lt_s h21 ⟨fun _ => mok_X2_freeNumber hE hn htb, fun hh h => hh_no h (rfl : kHH 21 = none)⟩
  have h23 := lt_s h22 ⟨fun _ => mok_X2_shape hE hn htb, fun hh h => hh_no h (rfl : kHH 22 = none)⟩
  have h24 := lt_s h23 ⟨fun _ => mok_X2_invert hE hn htb, fun hh h => hh_no h (rfl : kHH 23 = none)⟩
  have h25 := lt_s h24 ⟨fun _ => mok_X2_turn hE hn htb, fun hh h => hh_no h (rfl : kHH 24 = none)⟩
  have h26 := lt_s h25 ⟨fun _ => mok_X2_sort hE hn htb, fun hh h => hh_no h (rfl : kHH 25 = none)⟩
  have h27 := lt_s h26 ⟨fun _ => mok_X2_valueOf hE hn htb, fun hh h => hh_no h (rfl : kHH 26 = none)⟩
  have h28 := lt_s h27 ⟨fun _ => mok_X2_drops hE hn htb, fun hh h => hh_no h (rfl : kHH 27 = none)⟩
  have h29 := lt_s h28 ⟨fun _ => mok_X2_inversions hE hn htb, fun hh h => hh_no h (rfl : kHH 28 = none)⟩
  have h30 := lt_s h29 ⟨fun _ => mok_X2_records hE hn htb, fun hh h => hh_no h (rfl : kHH 29 = none)⟩
  have h31 := lt_s h30 ⟨fun _ => mok_X2_unmoved hE hn htb, fun hh h => hh_no h (rfl : kHH 30 = none)⟩
  have h32 := lt_s h31 ⟨fun _ => mok_X2_timesContained hE hn htb, fun hh h => hh_no h (rfl : kHH 31 = none)⟩
  have h33 := lt_s h32 ⟨fun _ => mok_X2_chosen hE hn htb, fun hh h => hh_no h (rfl : kHH 32 = none)⟩
  have h34 := lt_s h33 ⟨fun _ => mok_X2_patternOf hE hn htb, fun hh h => hh_no h (rfl : kHH 33 = none)⟩
  have h35 := lt_s h34 ⟨fun _ => mok_X7_node hE hn htb, fun hh h => hh_no h (rfl : kHH 34 = none)⟩
  have h36 := lt_s h35 ⟨fun _ => mok_X7_leftOf hE hn htb, fun hh h => hh_no h (rfl : kHH 35 = none)⟩
  have h37 := lt_s h36 ⟨fun _ => mok_X7_rightOf hE hn htb, fun hh h => hh_no h (rfl : kHH 36 = none)⟩
  have h38 := lt_s h37 ⟨fun _ => mok_X7_mirror hE hn htb, fun hh h => hh_no h (rfl : kHH 37 = none)⟩
  have h39 := lt_s h38 ⟨fun _ => mok_X7_label hE hn htb, fun hh h => hh_no h (rfl : kHH 38 = none)⟩
  have h40 := lt_s h39 ⟨fun _ => mok_X7_valueOf hE hn htb, fun hh h => hh_no h (rfl : kHH 39 = none)⟩
  have h41 := lt_s h40 ⟨fun _ => mok_J6_valueOf_2dffe hE hn htb, fun hh h => hh_no h (rfl : kHH 40 = none)⟩
  have h42 := lt_s h41 ⟨fun _ => mok_J6_bitCount_0f7a4 hE hn htb, fun hh h => hh_no h (rfl : kHH 41 = none)⟩
  have h43 := lt_s h42 ⟨fun _ => mok_X4_init hE hn htb, fun hh h => hh_no h (rfl : kHH 42 = none)⟩
  have h44 := lt_s h43 ⟨fun _ => mok_X4_of hE hn htb, fun hh h => hh_no h (rfl : kHH 43 = none)⟩
  have h45 := lt_s h44 ⟨fun _ => mok_X4_listPaths hE hn htb, fun hh h => hh_no h (rfl : kHH 44 = none)⟩
  have h46 := lt_s h45 ⟨fun _ => mok_X4_listOrders hE hn htb, fun hh h => hh_no h (rfl : kHH 45 = none)⟩
  have h47 := lt_s h46 ⟨fun _ => mok_X4_listImages hE hn htb, fun hh h => hh_no h (rfl : kHH 46 = none)⟩
  have h48 := lt_s h47 ⟨fun _ => mok_X4_listValues hE hn htb, fun hh h => hh_no h (rfl : kHH 47 = none)⟩
  have h49 := lt_s h48 ⟨fun _ => mok_X4_imageCode hE hn htb, fun hh h => hh_no h (rfl : kHH 48 = none)⟩
  have h50 := lt_s h49 ⟨fun _ => mok_X4_valueByCode hE hn htb, fun hh h => hh_no h (rfl : kHH 49 = none)⟩
  have h51 := lt_s h50 ⟨fun _ => mok_X4_codes hE hn htb, fun hh h => hh_no h (rfl : kHH 50 = none)⟩
  have h52 := lt_s h51 ⟨fun _ => mok_X4_count hE hn htb, fun hh h => hh_no h (rfl : kHH 51 = none)⟩
  have h53 := lt_s h52 ⟨fun _ => mok_X4_codeOf hE hn htb, fun hh h => hh_no h (rfl : kHH 52 = none)⟩
  have h54 := lt_s h53 ⟨fun _ => mok_X4_rankOf hE hn htb, fun hh h => hh_no h (rfl : kHH 53 = none)⟩
  have h55 := lt_s h54 ⟨fun _ => mok_X4_through hE hn htb, fun hh h => hh_no h (rfl : kHH 54 = none)⟩
  have h56 := lt_s h55 ⟨fun _ => mok_X4_valueOf hE hn htb, fun hh h => hh_no h (rfl : kHH 55 = none)⟩
  have h57 := lt_s h56 ⟨fun _ => mok_X4_countOf hE hn htb, fun hh h => hh_no h (rfl : kHH 56 = none)⟩
  have h58 := lt_s h57 ⟨fun _ => mok_X4_isInOrderBehind hE hn htb, fun hh h => hh_no h (rfl : kHH 57 = none)⟩
  have h59 := lt_s h58 ⟨fun _ => mok_X0_init hE hn htb, fun hh h => hh_no h (rfl : kHH 58 = none)⟩
  have h60 := lt_s h59 ⟨fun _ => mok_X0_append hE hn htb, fun hh h => hh_no h (rfl : kHH 59 = none)⟩
  have h61 := lt_s h60 ⟨fun _ => mok_X0_stepAt hE hn htb, fun hh h => hh_no h (rfl : kHH 60 = none)⟩
  have h62 := lt_s h61 ⟨fun _ => mok_X0_isMove hE hn htb, fun hh h => hh_no h (rfl : kHH 61 = none)⟩
  have h63 := lt_s h62 ⟨fun _ => mok_X6_init hE hn htb, fun hh h => hh_no h (rfl : kHH 62 = none)⟩
  have h64 := lt_s h63 ⟨fun _ => mok_X6_take hE hn htb, fun hh h => hh_no h (rfl : kHH 63 = none)⟩
  have h65 := lt_s h64 ⟨fun _ => mok_X6_countDistinct hE hn htb, fun hh h => hh_no h (rfl : kHH 64 = none)⟩
  have h66 := lt_s h65 ⟨fun _ => mok_X6_countUnmoved hE hn htb, fun hh h => hh_no h (rfl : kHH 65 = none)⟩
  have h67 := lt_s h66 ⟨fun _ => mok_X6_followRounds hE hn htb, fun hh h => hh_no h (rfl : kHH 66 = none)⟩
  have h68 := lt_s h67 ⟨fun _ => mok_X6_roundLength hE hn htb, fun hh h => hh_no h (rfl : kHH 67 = none)⟩
  have h69 := lt_s h68 ⟨fun _ => mok_X6_commonMultiple hE hn htb, fun hh h => hh_no h (rfl : kHH 68 = none)⟩
  have h70 := lt_s h69 ⟨fun _ => mok_X6_forget hE hn htb, fun hh h => hh_no h (rfl : kHH 69 = none)⟩
  have h71 := lt_s h70 ⟨fun _ => mok_X6_meet hE hn htb, fun hh h => hh_no h (rfl : kHH 70 = none)⟩
  have h72 := lt_s h71 ⟨fun _ => mok_X8_init hE hn htb, fun hh h => hh_no h (rfl : kHH 71 = none)⟩
  have h73 := lt_s h72 ⟨fun _ => mok_X8_go hE hn htb, fun hh h => hh_no h (rfl : kHH 72 = none)⟩
  have h74 := lt_s h73 ⟨fun _ => mok_X1_init hE hn htb, fun hh h => hh_no h (rfl : kHH 73 = none)⟩
  have h75 := lt_s h74 ⟨fun _ => mok_X1_note hE hn htb, fun hh h => hh_no h (rfl : kHH 74 = none)⟩
  have h76 := lt_s h75 ⟨fun _ => mok_X9_init hE hn htb, fun hh h => hh_no h (rfl : kHH 75 = none)⟩
  have h77 := lt_s h76 ⟨fun _ => mok_X9_size hE hn htb, fun hh h => hh_no h (rfl : kHH 76 = none)⟩
  have h78 := lt_s h77 ⟨fun _ => mok_X9_map hE hn htb, fun hh h => hh_no h (rfl : kHH 77 = none)⟩
  have h79 := lt_s h78 ⟨fun _ => mok_X9_then hE hn htb, fun hh h => hh_no h (rfl : kHH 78 = none)⟩
  have h80 := lt_s h79 ⟨fun _ => mok_X9_walker hE hn htb, fun hh h => hh_no h (rfl : kHH 79 = none)⟩
  have h81 := lt_s h80 ⟨fun _ => mok_X9_claim hE hn htb, fun hh h => hh_no h (rfl : kHH 80 = none)⟩
  have h82 := lt_s h81 ⟨fun _ => mok_X9_send hE hn htb, fun hh h => hh_no h (rfl : kHH 81 = none)⟩
  have h83 := lt_s h82 ⟨fun _ => mok_X9_trial hE hn htb, fun hh h => hh_no h (rfl : kHH 82 = none)⟩
  have h84 := lt_s h83 ⟨fun _ => mok_X9_objects hE hn htb, fun hh h => hh_no h (rfl : kHH 83 = none)⟩
  have h85 := lt_s h84 ⟨fun _ => mok_X9_unrank hE hn htb, fun hh h => hh_no h (rfl : kHH 84 = none)⟩
  have h86 := lt_s h85 ⟨fun _ => mok_X9_rank hE hn htb, fun hh h => hh_no h (rfl : kHH 85 = none)⟩
  have h87 := lt_s h86 ⟨fun _ => mok_X9_statistic hE hn htb, fun hh h => hh_no h (rfl : kHH 86 = none)⟩
  have h88 := lt_s h87 ⟨fun _ => mok_X9_spread hE hn htb, fun hh h => hh_no h (rfl : kHH 87 = none)⟩
  have h89 := lt_s h88 ⟨fun _ => mok_X9_signs hE hn htb, fun hh h => hh_no h (rfl : kHH 88 = none)⟩
  have h90 := lt_s h89 ⟨fun _ => mok_X9_alike hE hn htb, fun hh h => hh_no h (rfl : kHH 89 = none)⟩
  have h91 := lt_s h90 ⟨fun _ => mok_X9_contains hE hn htb, fun hh h => hh_no h (rfl : kHH 90 = none)⟩
  have h92 := lt_s h91 ⟨fun _ => mok_X9_sorted hE hn htb, fun hh h => hh_no h (rfl : kHH 91 = none)⟩
  have h93 := lt_s h92 ⟨fun _ => mok_X9_ofMap hE hn htb, fun hh h => hh_no h (rfl : kHH 92 = none)⟩
  have h94 := lt_s h93 ⟨fun _ => mok_X9_image hE hn htb, fun hh h => hh_no h (rfl : kHH 93 = none)⟩
  have h95 := lt_s h94 ⟨fun _ => mok_X9_source hE hn htb, fun hh h => hh_no h (rfl : kHH 94 = none)⟩
  have h96 := lt_s h95 ⟨fun _ => mok_X9_rounds hE hn htb, fun hh h => hh_no h (rfl : kHH 95 = none)⟩
  have h97 := lt_s h96 ⟨fun _ => mok_X9_period hE hn htb, fun hh h => hh_no h (rfl : kHH 96 = none)⟩
  have h98 := lt_s h97 ⟨fun _ => mok_X9_against hE hn htb, fun hh h => hh_no h (rfl : kHH 97 = none)⟩
  have h99 := lt_s h98 ⟨fun _ => mok_X9_cancels hE hn htb, fun hh h => hh_no h (rfl : kHH 98 = none)⟩
  have h100 := lt_s h99 ⟨fun _ => mok_X9_ofWalker hE hn htb, fun hh h => hh_no h (rfl : kHH 99 = none)⟩
  have h101 := lt_s h100 ⟨fun _ => mok_X9_ofClaim hE hn htb, fun hh h => hh_no h (rfl : kHH 100 = none)⟩
  have h102 := lt_s h101 ⟨fun _ => mok_X9_many hE hn htb, fun hh h => hh_no h (rfl : kHH 101 = none)⟩
  have h103 := lt_s h102 ⟨fun _ => mok_X9_mean hE hn htb, fun hh h => hh_no h (rfl : kHH 102 = none)⟩
  have h104 := lt_s h103 ⟨fun _ => mok_X9_digest hE hn htb, fun hh h => hh_no h (rfl : kHH 103 = none)⟩
  have h105 := lt_s h104 ⟨fun _ => mok_X9_digestOfObjects hE hn htb, fun hh h => hh_no h (rfl : kHH 104 = none)⟩
  have h106 := lt_s h105 ⟨fun _ => mok_X9_digestOfMap hE hn htb, fun hh h => hh_no h (rfl : kHH 105 = none)⟩
  have h107 := lt_s h106 ⟨fun _ => mok_X9_needStep hE hn htb, fun hh h => hh_no h (rfl : kHH 106 = none)⟩
  have h108 := lt_s h107 ⟨fun _ => mok_X9_needFamily hE hn htb, fun hh h => hh_no h (rfl : kHH 107 = none)⟩
  have h109 := lt_s h108 ⟨fun _ => mok_X9_needStatistic hE hn htb, fun hh h => hh_no h (rfl : kHH 108 = none)⟩
  have h110 := lt_s h109 ⟨fun _ => mok_X9_needRank hE hn htb, fun hh h => hh_no h (rfl : kHH 109 = none)⟩
  have h111 := lt_s h110 ⟨fun _ => mok_X9_chartAt hE hn htb, fun hh h => hh_no h (rfl : kHH 110 = none)⟩
  have h112 := lt_s h111 ⟨fun _ => mok_X9_walkerAt hE hn htb, fun hh h => hh_no h (rfl : kHH 111 = none)⟩
  have h113 := lt_s h112 ⟨fun _ => mok_X9_claimAt hE hn htb, fun hh h => hh_no h (rfl : kHH 112 = none)⟩
  have h114 := lt_s h113 ⟨fun _ => mok_X9_signOf hE hn htb, fun hh h => hh_no h (rfl : kHH 113 = none)⟩
  have h115 := lt_s h114 ⟨fun _ => mok_X9_patternLength hE hn htb, fun hh h => hh_no h (rfl : kHH 114 = none)⟩
  have h116 := lt_s h115 ⟨fun _ => mok_X9_tryClaim hE hn htb, fun hh h => hh_no h (rfl : kHH 115 = none)⟩
  have h117 := lt_s h116 ⟨fun _ => mok_X9_firstAgainst hE hn htb, fun hh h => hh_no h (rfl : kHH 116 = none)⟩
  have h118 := lt_s h117 ⟨fun _ => mok_X9_isPairedOff hE hn htb, fun hh h => hh_no h (rfl : kHH 117 = none)⟩
  have h119 := lt_s h118 ⟨fun _ => mok_X9_refutedClaims hE hn htb, fun hh h => hh_no h (rfl : kHH 118 = none)⟩
  have h120 := lt_s h119 ⟨fun _ => mok_X11_init hE hn htb, fun hh h => hh_no h (rfl : kHH 119 = none)⟩
  have h121 := lt_s h120 ⟨fun _ => mok_X12_isIn hE hn htb, fun hh h => hh_no h (rfl : kHH 120 = none)⟩
  have h122 := lt_s h121 ⟨fun _ => mok_X12_init hE hn htb, fun hh h => hh_no h (rfl : kHH 121 = none)⟩
  have h123 := lt_s h122 ⟨fun _ => mok_X12_thrown hE hn htb, fun hh h => hh_no h (rfl : kHH 122 = none)⟩
  have h124 := lt_s h123 ⟨fun _ => mok_X12_refuse hE hn htb, fun hh h => hh_no h (rfl : kHH 123 = none)⟩
  have h125 := lt_s h124 ⟨fun _ => mok_X12_start hE hn htb, fun hh h => hh_no h (rfl : kHH 124 = none)⟩
  have h126 := lt_s h125 ⟨fun _ => mok_X12_isPath hE hn htb, fun hh h => hh_no h (rfl : kHH 125 = none)⟩
  have h127 := lt_s h126 ⟨fun _ => mok_X12_isOrder hE hn htb, fun hh h => hh_no h (rfl : kHH 126 = none)⟩
  have h128 := lt_s h127 ⟨fun _ => mok_X12_tens hE hn htb, fun hh h => hh_no h (rfl : kHH 127 = none)⟩
  have h129 := lt_s h128 ⟨fun _ => mok_X12_grow hE hn htb, fun hh h => hh_no h (rfl : kHH 128 = none)⟩
  have h130 := lt_s h129 ⟨fun _ => mok_X12_fill hE hn htb, fun hh h => hh_no h (rfl : kHH 129 = none)⟩
  have h131 := lt_s h130 ⟨fun _ => mok_X12_index hE hn htb, fun hh h => hh_no h (rfl : kHH 130 = none)⟩
  have h132 := lt_s h131 ⟨fun _ => mok_X12_first hE hn htb, fun hh h => hh_no h (rfl : kHH 131 = none)⟩
  have h133 := lt_s h132 ⟨fun _ => mok_X12_part hE hn htb, fun hh h => hh_no h (rfl : kHH 132 = none)⟩
  have h134 := lt_s h133 ⟨fun _ => mok_X12_read hE hn htb, fun hh h => hh_no h (rfl : kHH 133 = none)⟩
  have h135 := lt_s h134 ⟨fun _ => mok_X12_written hE hn htb, fun hh h => hh_no h (rfl : kHH 134 = none)⟩
  have h136 := lt_s h135 ⟨fun _ => mok_X12_sort hE hn htb, fun hh h => hh_no h (rfl : kHH 135 = none)⟩
  have h137 := lt_s h136 ⟨fun _ => mok_X12_ofPath hE hn htb, fun hh h => hh_no h (rfl : kHH 136 = none)⟩
  have h138 := lt_s h137 ⟨fun _ => mok_X12_tree hE hn htb, fun hh h => hh_no h (rfl : kHH 137 = none)⟩
  have h139 := lt_s h138 ⟨fun _ => mok_X12_ofOrder hE hn htb, fun hh h => hh_no h (rfl : kHH 138 = none)⟩
  have h140 := lt_s h139 ⟨fun _ => mok_X12_statisticOf hE hn htb, fun hh h => hh_no h (rfl : kHH 139 = none)⟩
  have h141 := lt_s h140 ⟨fun _ => mok_X12_statistics hE hn htb, fun hh h => hh_no h (rfl : kHH 140 = none)⟩
  have h142 := lt_s h141 ⟨fun _ => mok_X12_sign hE hn htb, fun hh h => hh_no h (rfl : kHH 141 = none)⟩
  have h143 := lt_s h142 ⟨fun _ => mok_X12_size hE hn htb, fun hh h => hh_no h (rfl : kHH 142 = none)⟩
  have h144 := lt_s h143 ⟨fun _ => mok_X12_map hE hn htb, fun hh h => hh_no h (rfl : kHH 143 = none)⟩
  have h145 := lt_s h144 ⟨fun _ => mok_X12_isNoMap hE hn htb, fun hh h => hh_no h (rfl : kHH 144 = none)⟩
  have h146 := lt_s h145 ⟨fun _ => mok_X12_then hE hn htb, fun hh h => hh_no h (rfl : kHH 145 = none)⟩
  have h147 := lt_s h146 ⟨fun _ => mok_X12_isNoFamily hE hn htb, fun hh h => hh_no h (rfl : kHH 146 = none)⟩
  have h148 := lt_s h147 ⟨fun _ => mok_X12_isNoStatistic hE hn htb, fun hh h => hh_no h (rfl : kHH 147 = none)⟩
  have h149 := lt_s h148 ⟨fun _ => mok_X12_walker hE hn htb, fun hh h => hh_no h (rfl : kHH 148 = none)⟩
  have h150 := lt_s h149 ⟨fun _ => mok_X12_claim hE hn htb, fun hh h => hh_no h (rfl : kHH 149 = none)⟩
  have h151 := lt_s h150 ⟨fun _ => mok_X12_send hE hn htb, fun hh h => hh_no h (rfl : kHH 150 = none)⟩
  have h152 := lt_s h151 ⟨fun _ => mok_X12_trial hE hn htb, fun hh h => hh_no h (rfl : kHH 151 = none)⟩
  have h153 := lt_s h152 ⟨fun _ => mok_X12_objects hE hn htb, fun hh h => hh_no h (rfl : kHH 152 = none)⟩
  have h154 := lt_s h153 ⟨fun _ => mok_X12_isNoRank hE hn htb, fun hh h => hh_no h (rfl : kHH 153 = none)⟩
  have h155 := lt_s h154 ⟨fun _ => mok_X12_unrank hE hn htb, fun hh h => hh_no h (rfl : kHH 154 = none)⟩
  have h156 := lt_s h155 ⟨fun _ => mok_X12_rank hE hn htb, fun hh h => hh_no h (rfl : kHH 155 = none)⟩
  have h157 := lt_s h156 ⟨fun _ => mok_X12_statistic hE hn htb, fun hh h => hh_no h (rfl : kHH 156 = none)⟩
  have h158 := lt_s h157 ⟨fun _ => mok_X12_spread hE hn htb, fun hh h => hh_no h (rfl : kHH 157 = none)⟩
  have h159 := lt_s h158 ⟨fun _ => mok_X12_signsNow hE hn htb, fun hh h => hh_no h (rfl : kHH 158 = none)⟩
  have h160 := lt_s h159 ⟨fun _ => mok_X12_signs hE hn htb, fun hh h => hh_no h (rfl : kHH 159 = none)⟩
  have h161 := lt_s h160 ⟨fun _ => mok_X12_alike hE hn htb, fun hh h => hh_no h (rfl : kHH 160 = none)⟩
  have h162 := lt_s h161 ⟨fun _ => mok_X12_digits hE hn htb, fun hh h => hh_no h (rfl : kHH 161 = none)⟩
  have h163 := lt_s h162 ⟨fun _ => mok_X12_contains hE hn htb, fun hh h => hh_no h (rfl : kHH 162 = none)⟩
  have h164 := lt_s h163 ⟨fun _ => mok_X12_isLike hE hn htb, fun hh h => hh_no h (rfl : kHH 163 = none)⟩
  have h165 := lt_s h164 ⟨fun _ => mok_X12_sortedNow hE hn htb, fun hh h => hh_no h (rfl : kHH 164 = none)⟩
  have h166 := lt_s h165 ⟨fun _ => mok_X12_sorted hE hn htb, fun hh h => hh_no h (rfl : kHH 165 = none)⟩
  have h167 := lt_s h166 ⟨fun _ => mok_X12_ofMap hE hn htb, fun hh h => hh_no h (rfl : kHH 166 = none)⟩
  have h168 := lt_s h167 ⟨fun _ => mok_X12_image hE hn htb, fun hh h => hh_no h (rfl : kHH 167 = none)⟩
  have h169 := lt_s h168 ⟨fun _ => mok_X12_source hE hn htb, fun hh h => hh_no h (rfl : kHH 168 = none)⟩
  have h170 := lt_s h169 ⟨fun _ => mok_X12_rounds_ hE hn htb, fun hh h => hh_no h (rfl : kHH 169 = none)⟩
  have h171 := lt_s h170 ⟨fun _ => mok_X12_period hE hn htb, fun hh h => hh_no h (rfl : kHH 170 = none)⟩
  have h172 := lt_s h171 ⟨fun _ => mok_X12_against hE hn htb, fun hh h => hh_no h (rfl : kHH 171 = none)⟩
  have h173 := lt_s h172 ⟨fun _ => mok_X12_cancels hE hn htb, fun hh h => hh_no h (rfl : kHH 172 = none)⟩
  have h174 := lt_s h173 ⟨fun _ => mok_X12_ofWalker hE hn htb, fun hh h => hh_no h (rfl : kHH 173 = none)⟩
  have h175 := lt_s h174 ⟨fun _ => mok_X12_ofClaim hE hn htb, fun hh h => hh_no h (rfl : kHH 174 = none)⟩
  have h176 := lt_s h175 ⟨fun _ => mok_X12_refuted hE hn htb, fun hh h => hh_no h (rfl : kHH 175 = none)⟩
  have h177 := lt_s h176 ⟨fun _ => mok_X12_manyNow hE hn htb, fun hh h => hh_no h (rfl : kHH 176 = none)⟩
  have h178 := lt_s h177 ⟨fun _ => mok_X12_many hE hn htb, fun hh h => hh_no h (rfl : kHH 177 = none)⟩
  have h179 := lt_s h178 ⟨fun _ => mok_X12_mean hE hn htb, fun hh h => hh_no h (rfl : kHH 178 = none)⟩
  have h180 := lt_s h179 ⟨fun _ => mok_X12_add hE hn htb, fun hh h => hh_no h (rfl : kHH 179 = none)⟩
  have h181 := lt_s h180 ⟨fun _ => mok_X12_digest hE hn htb, fun hh h => hh_no h (rfl : kHH 180 = none)⟩
  have h182 := lt_s h181 ⟨fun _ => mok_Jxa1e45_init_da8c8 hE hn htb, fun hh h => hh_no h (rfl : kHH 181 = none)⟩
  have h183 := lt_s h182 ⟨fun _ => mok_Jxc12de_init_da8c8 hE hn htb, fun hh h => hh_no h (rfl : kHH 182 = none)⟩
  have h184 := lt_s h183 ⟨fun _ => mok_Jx35411_init_45d68 hE hn htb, fun hh h => hh_no h (rfl : kHH 183 = none)⟩
  have h185 := lt_s h184 ⟨fun _ => mok_Jx35411_hasNext_aae02 hE hn htb, fun hh h => hh_no h (rfl : kHH 184 = none)⟩
  have h186 := lt_s h185 ⟨fun _ => mok_Jx4a65c_init_da8c8 hE hn htb, fun hh h => hh_no h (rfl : kHH 185 = none)⟩
  have h187 := lt_s h186 ⟨fun _ => mok_Jx4a65c_grow_92f84 hE hn htb, fun hh h => hh_no h (rfl : kHH 186 = none)⟩
  have h188 := lt_s h187 ⟨fun _ => mok_Jx4a65c_grow_d5877 hE hn htb, fun hh h => hh_no h (rfl : kHH 187 = none)⟩
  have h189 := lt_s h188 ⟨fun _ => mok_Jx4a65c_size_8abf5 hE hn htb, fun hh h => hh_no h (rfl : kHH 188 = none)⟩
  have h190 := lt_s h189 ⟨fun _ => mok_Jx4a65c_add_72be8 hE hn htb, fun hh h => hh_no h (rfl : kHH 189 = none)⟩
  have h191 := lt_s h190 ⟨fun _ => mok_Jx4a65c_add_9ea2d hE hn htb, fun hh h => hh_no h (rfl : kHH 190 = none)⟩
  have h192 := lt_s h191 ⟨fun _ => mok_Jx4a65c_clear_da8c8 hE hn htb, fun hh h => hh_no h (rfl : kHH 191 = none)⟩
  have h193 := lt_s h192 ⟨fun _ => mok_Jx4a65c_iterator_32c93 hE hn htb, fun hh h => hh_no h (rfl : kHH 192 = none)⟩
  have h194 := lt_s h193 ⟨fun h => hh_no (rfl : kHH 193 = some [(0, 9, 12, 13)]) h, fun hh h => (Option.some.inj ((rfl : kHH 193 = some [(0, 9, 12, 13)]).symm.trans h)) ▸ mok_L_size hE hn htb⟩
  have h195 := lt_s h194 ⟨fun h => hh_no (rfl : kHH 194 = some [(0, 9, 12, 13), (0, 9, 15, 18)]) h, fun hh h => (Option.some.inj ((rfl : kHH 194 = some [(0, 9, 12, 13), (0, 9, 15, 18)]).symm.trans h)) ▸ mok_L_map hE hn htb⟩
  have h196 := lt_s h195 ⟨fun h => hh_no (rfl : kHH 195 = some [(0, 10, 13, 24), (0, 10, 17, 13), (0, 10, 21, 18)]) h, fun hh h => (Option.some.inj ((rfl : kHH 195 = some [(0, 10, 13, 24), (0, 10, 17, 13), (0, 10, 21, 18)]).symm.trans h)) ▸ mok_L_then hE hn htb⟩
  have h197 := lt_s h196 ⟨fun h => hh_no (rfl : kHH 196 = some [(0, 10, 13, 24), (0, 10, 17, 13), (0, 10, 21, 18)]) h, fun hh h => (Option.some.inj ((rfl : kHH 196 = some [(0, 10, 13, 24), (0, 10, 17, 13), (0, 10, 21, 18)]).symm.trans h)) ▸ mok_L_walker hE hn htb⟩
  have h198 := lt_s h197 ⟨fun h => hh_no (rfl : kHH 197 = some [(0, 12, 15, 24), (0, 12, 19, 13), (0, 12, 23, 18)]) h, fun hh h => (Option.some.inj ((rfl : kHH 197 = some [(0, 12, 15, 24), (0, 12, 19, 13), (0, 12, 23, 18)]).symm.trans h)) ▸ mok_L_claim hE hn htb⟩
  have h199 := lt_s h198 ⟨fun h => hh_no (rfl : kHH 198 = some [(0, 12, 15, 24), (0, 12, 19, 13), (0, 12, 23, 18)]) h, fun hh h => (Option.some.inj ((rfl : kHH 198 = some [(0, 12, 15, 24), (0, 12, 19, 13), (0, 12, 23, 18)]).symm.trans h)) ▸ mok_L_send hE hn htb⟩
  have h200 := lt_s h199 ⟨fun h => hh_no (rfl : kHH 199 = some [(0, 16, 19, 24)]) h, fun hh h => (Option.some.inj ((rfl : kHH 199 = some [(0, 16, 19, 24)]).symm.trans h)) ▸ mok_L_trial hE hn htb⟩
  have h201 := lt_s h200 ⟨fun h => hh_no (rfl : kHH 200 = some [(0, 9, 12, 24)]) h, fun hh h => (Option.some.inj ((rfl : kHH 200 = some [(0, 9, 12, 24)]).symm.trans h)) ▸ mok_L_objects hE hn htb⟩
  have h202 := lt_s h201 ⟨fun h => hh_no (rfl : kHH 201 = some [(0, 10, 13, 24)]) h, fun hh h => (Option.some.inj ((rfl : kHH 201 = some [(0, 10, 13, 24)]).symm.trans h)) ▸ mok_L_unrank hE hn htb⟩
  have h203 := lt_s h202 ⟨fun h => hh_no (rfl : kHH 202 = some [(0, 10, 13, 24)]) h, fun hh h => (Option.some.inj ((rfl : kHH 202 = some [(0, 10, 13, 24)]).symm.trans h)) ▸ mok_L_rank hE hn htb⟩
  have h204 := lt_s h203 ⟨fun h => hh_no (rfl : kHH 203 = some [(0, 12, 15, 24), (0, 12, 19, 13)]) h, fun hh h => (Option.some.inj ((rfl : kHH 203 = some [(0, 12, 15, 24), (0, 12, 19, 13)]).symm.trans h)) ▸ mok_L_statistic hE hn htb⟩
  have h205 := lt_s h204 ⟨fun h => hh_no (rfl : kHH 204 = some [(0, 12, 15, 24), (0, 12, 19, 13)]) h, fun hh h => (Option.some.inj ((rfl : kHH 204 = some [(0, 12, 15, 24), (0, 12, 19, 13)]).symm.trans h)) ▸ mok_L_spread hE hn htb⟩
  have h206 := lt_s h205 ⟨fun h => hh_no (rfl : kHH 205 = some [(0, 10, 13, 24), (0, 10, 17, 13)]) h, fun hh h => (Option.some.inj ((rfl : kHH 205 = some [(0, 10, 13, 24), (0, 10, 17, 13)]).symm.trans h)) ▸ mok_L_signs hE hn htb⟩
  have h207 := lt_s h206 ⟨fun h => hh_no (rfl : kHH 206 = some [(0, 21, 24, 24), (0, 21, 28, 13)]) h, fun hh h => (Option.some.inj ((rfl : kHH 206 = some [(0, 21, 24, 24), (0, 21, 28, 13)]).symm.trans h)) ▸ mok_L_alike hE hn htb⟩
  have h208 := lt_s h207 ⟨fun h => hh_no (rfl : kHH 207 = some [(0, 10, 13, 24), (0, 10, 17, 13)]) h, fun hh h => (Option.some.inj ((rfl : kHH 207 = some [(0, 10, 13, 24), (0, 10, 17, 13)]).symm.trans h)) ▸ mok_L_contains hE hn htb⟩
  have h209 := lt_s h208 ⟨fun h => hh_no (rfl : kHH 208 = some [(0, 9, 12, 13)]) h, fun hh h => (Option.some.inj ((rfl : kHH 208 = some [(0, 9, 12, 13)]).symm.trans h)) ▸ mok_L_sorted hE hn htb⟩
  have h210 := lt_s h209 ⟨fun h => hh_no (rfl : kHH 209 = some [(0, 10, 13, 24), (0, 10, 17, 13)]) h, fun hh h => (Option.some.inj ((rfl : kHH 209 = some [(0, 10, 13, 24), (0, 10, 17, 13)]).symm.trans h)) ▸ mok_L_ofMap hE hn htb⟩
  have h211 := lt_s h210 ⟨fun h => hh_no (rfl : kHH 210 = some [(0, 10, 13, 24)]) h, fun hh h => (Option.some.inj ((rfl : kHH 210 = some [(0, 10, 13, 24)]).symm.trans h)) ▸ mok_L_image hE hn htb⟩
  have h212 := lt_s h211 ⟨fun h => hh_no (rfl : kHH 211 = some [(0, 10, 13, 24)]) h, fun hh h => (Option.some.inj ((rfl : kHH 211 = some [(0, 10, 13, 24)]).symm.trans h)) ▸ mok_L_source hE hn htb⟩
  have h213 := lt_s h212 ⟨fun h => hh_no (rfl : kHH 212 = some [(0, 9, 12, 24)]) h, fun hh h => (Option.some.inj ((rfl : kHH 212 = some [(0, 9, 12, 24)]).symm.trans h)) ▸ mok_L_rounds hE hn htb⟩
  have h214 := lt_s h213 ⟨fun h => hh_no (rfl : kHH 213 = some [(0, 8, 11, 24)]) h, fun hh h => (Option.some.inj ((rfl : kHH 213 = some [(0, 8, 11, 24)]).symm.trans h)) ▸ mok_L_period hE hn htb⟩
  have h215 := lt_s h214 ⟨fun h => hh_no (rfl : kHH 214 = some [(0, 12, 15, 24), (0, 12, 19, 13)]) h, fun hh h => (Option.some.inj ((rfl : kHH 214 = some [(0, 12, 15, 24), (0, 12, 19, 13)]).symm.trans h)) ▸ mok_L_against hE hn htb⟩
  have h216 := lt_s h215 ⟨fun h => hh_no (rfl : kHH 215 = some [(0, 17, 20, 24), (0, 17, 24, 13)]) h, fun hh h => (Option.some.inj ((rfl : kHH 215 = some [(0, 17, 20, 24), (0, 17, 24, 13)]).symm.trans h)) ▸ mok_L_cancels hE hn htb⟩
  have h217 := lt_s h216 ⟨fun h => hh_no (rfl : kHH 216 = some [(0, 10, 13, 24), (0, 10, 17, 13)]) h, fun hh h => (Option.some.inj ((rfl : kHH 216 = some [(0, 10, 13, 24), (0, 10, 17, 13)]).symm.trans h)) ▸ mok_L_ofWalker hE hn htb⟩
  have h218 := lt_s h217 ⟨fun h => hh_no (rfl : kHH 217 = some [(0, 10, 13, 24), (0, 10, 17, 13)]) h, fun hh h => (Option.some.inj ((rfl : kHH 217 = some [(0, 10, 13, 24), (0, 10, 17, 13)]).symm.trans h)) ▸ mok_L_ofClaim hE hn htb⟩
  have h219 := lt_s h218 ⟨fun h => hh_no (rfl : kHH 218 = some [(0, 9, 12, 13)]) h, fun hh h => (Option.some.inj ((rfl : kHH 218 = some [(0, 9, 12, 13)]).symm.trans h)) ▸ mok_L_many hE hn htb⟩
  have h220 := lt_s h219 ⟨fun h => hh_no (rfl : kHH 219 = some [(0, 9, 12, 24), (0, 9, 16, 13)]) h, fun hh h => (Option.some.inj ((rfl : kHH 219 = some [(0, 9, 12, 24), (0, 9, 16, 13)]).symm.trans h)) ▸ mok_L_mean hE hn htb⟩
  have h221 := lt_s h220 ⟨fun _ => mok_L_law hE hn htb, fun hh h => hh_no h (rfl : kHH 220 = none)⟩
  intro mi
  by_cases h : mi < 221
  · exact h221 mi h
  · have hz : Nat.ble mi 220 = false := by
      cases h9 : Nat.ble mi 220 with
      | false => rfl
      | true => exact absurd (Nat.le_of_ble_eq_true h9) (by omega)
    have hM : ∀ cl, kM tb cl mi = [] := fun cl => by
      unfold kM
      rw [hz]; rfl
    exact ⟨fun _ => kMOK_nil hM, fun hh _ => kMOKH_nil hM⟩
set_option maxRecDepth 100000 in
theorem kY_plain (mi : Nat) : plainName (kY mi).cls = true := by
  have h0 : ∀ a, a < 0 → plainName (kY a).cls = true := lt_0
  have h1 := lt_s h0 (show plainName (kY 0).cls = true by decide +kernel)
  have h2 := lt_s h1 (show plainName (kY 1).cls = true by decide +kernel)
  have h3 := lt_s h2 (show plainName (kY 2).cls = true by decide +kernel)
  have h4 := lt_s h3 (show plainName (kY 3).cls = true by decide +kernel)
  have h5 := lt_s h4 (show plainName (kY 4).cls = true by decide +kernel)
  have h6 := lt_s h5 (show plainName (kY 5).cls = true by decide +kernel)
  have h7 := lt_s h6 (show plainName (kY 6).cls = true by decide +kernel)
  have h8 := lt_s h7 (show plainName (kY 7).cls = true by decide +kernel)
  have h9 := lt_s h8 (show plainName (kY 8).cls = true by decide +kernel)
  have h10 := lt_s h9 (show plainName (kY 9).cls = true by decide +kernel)
  have h11 := lt_s h10 (show plainName (kY 10).cls = true by decide +kernel)
  have h12 := lt_s h11 (show plainName (kY 11).cls = true by decide +kernel)
  have h13 := lt_s h12 (show plainName (kY 12).cls = true by decide +kernel)
  have h14 := lt_s h13 (show plainName (kY 13).cls = true by decide +kernel)
  have h15 := lt_s h14 (show plainName (kY 14).cls = true by decide +kernel)
  have h16 := lt_s h15 (show plainName (kY 15).cls = true by decide +kernel)
  have h17 := lt_s h16 (show plainName (kY 16).cls = true by decide +kernel)
  have h18 := lt_s h17 (show plainName (kY 17).cls = true by decide +kernel)
  have h19 := lt_s h18 (show plainName (kY 18).cls = true by decide +kernel)
  have h20 := lt_s h19 (show plainName (kY 19).cls = true by decide +kernel)
  have h21 := lt_s h20 (show plainName (kY 20).cls = true by decide +kernel)
  have h22 := lt_s h21 (show plainName (kY 21).cls = true by decide +kernel)
  have h23 := lt_s h22 (show plainName (kY 22).cls = true by decide +kernel)
  have h24 := lt_s h23 (show plainName (kY 23).cls = true by decide +kernel)
  have h25 := lt_s h24 (show plainName (kY 24).cls = true by decide +kernel)
  have h26 := lt_s h25 (show plainName (kY 25).cls = true by decide +kernel)
  have h27 := lt_s h26 (show plainName (kY 26).cls = true by decide +kernel)
  have h28 := lt_s h27 (show plainName (kY 27).cls = true by decide +kernel)
  have h29 := lt_s h28 (show plainName (kY 28).cls = true by decide +kernel)
  have h30 := lt_s h29 (show plainName (kY 29).cls = true by decide +kernel)
  have h31 := lt_s h30 (show plainName (kY 30).cls = true by decide +kernel)
  have h32 := lt_s h31 (show plainName (kY 31).cls = true by decide +kernel)
  have h33 := lt_s h32 (show plainName (kY 32).cls = true by decide +kernel)
  have h34 := lt_s h33 (show plainName (kY 33).cls = true by decide +kernel)
  have h35 := lt_s h34 (show plainName (kY 34).cls = true by decide +kernel)
  have h36 := lt_s h35 (show plainName (kY 35).cls = true by decide +kernel)
  have h37 := lt_s h36 (show plainName (kY 36).cls = true by decide +kernel)
  have h38 := lt_s h37 (show plainName (kY 37).cls = true by decide +kernel)
  have h39 := lt_s h38 (show plainName (kY 38).cls = true by decide +kernel)
  have h40 := lt_s h39 (show plainName (kY 39).cls = true by decide +kernel)
  have h41 := lt_s h40 (show plainName (kY 40).cls = true by decide +kernel)
  have h42 := lt_s h41 (show plainName (kY 41).cls = true by decide +kernel)
  have h43 := lt_s h42 (show plainName (kY 42).cls = true by decide +kernel)
  have h44 := lt_s h43 (show plainName (kY 43).cls = true by decide +kernel)
  have h45 := lt_s h44 (show plainName (kY 44).cls = true by decide +kernel)
  have h46 := lt_s h45 (show plainName (kY 45).cls = true by decide +kernel)
  have h47 := lt_s h46 (show plainName (kY 46).cls = true by decide +kernel)
  have h48 := lt_s h47 (show plainName (kY 47).cls = true by decide +kernel)
  have h49 := lt_s h48 (show plainName (kY 48).cls = true by decide +kernel)
  have h50 := lt_s h49 (show plainName (kY 49).cls = true by decide +kernel)
  have h51 := lt_s h50 (show plainName (kY 50).cls = true by decide +kernel)
  have h52 := lt_s h51 (show plainName (kY 51).cls = true by decide +kernel)
  have h53 := lt_s h52 (show plainName (kY 52).cls = true by decide +kernel)
  have h54 := lt_s h53 (show plainName (kY 53).cls = true by decide +kernel)
  have h55 := lt_s h54 (show plainName (kY 54).cls = true by decide +kernel)
  have h56 := lt_s h55 (show plainName (kY 55).cls = true by decide +kernel)
  have h57 := lt_s h56 (show plainName (kY 56).cls = true by decide +kernel)
  have h58 := lt_s h57 (show plainName (kY 57).cls = true by decide +kernel)
  have h59 := lt_s h58 (show plainName (kY 58).cls = true by decide +kernel)
  have h60 := lt_s h59 (show plainName (kY 59).cls = true by decide +kernel)
  have h61 := lt_s h60 (show plainName (kY 60).cls = true by decide +kernel)
  have h62 := lt_s h61 (show plainName (kY 61).cls = true by decide +kernel)
  have h63 := lt_s h62 (show plainName (kY 62).cls = true by decide +kernel)
  have h64 := lt_s h63 (show plainName (kY 63).cls = true by decide +kernel)
  have h65 := lt_s h64 (show plainName (kY 64).cls = true by decide +kernel)
  have h66 := lt_s h65 (show plainName (kY 65).cls = true by decide +kernel)
  have h67 := lt_s h66 (show plainName (kY 66).cls = true by decide +kernel)
  have h68 := lt_s h67 (show plainName (kY 67).cls = true by decide +kernel)
  have h69 := lt_s h68 (show plainName (kY 68).cls = true by decide +kernel)
  have h70 := lt_s h69 (show plainName (kY 69).cls = true by decide +kernel)
  have h71 := lt_s h70 (show plainName (kY 70).cls = true by decide +kernel)
  have h72 := lt_s h71 (show plainName (kY 71).cls = true by decide +kernel)
  have h73 := lt_s h72 (show plainName (kY 72).cls = true by decide +kernel)
  have h74 := lt_s h73 (show plainName (kY 73).cls = true by decide +kernel)
  have h75 := lt_s h74 (show plainName (kY 74).cls = true by decide +kernel)
  have h76 := lt_s h75 (show plainName (kY 75).cls = true by decide +kernel)
  have h77 := lt_s h76 (show plainName (kY 76).cls = true by decide +kernel)
  have h78 := lt_s h77 (show plainName (kY 77).cls = true by decide +kernel)
  have h79 := lt_s h78 (show plainName (kY 78).cls = true by decide +kernel)
  have h80 := lt_s h79 (show plainName (kY 79).cls = true by decide +kernel)
  have h81 := lt_s h80 (show plainName (kY 80).cls = true by decide +kernel)
  have h82 := lt_s h81 (show plainName (kY 81).cls = true by decide +kernel)
  have h83 := lt_s h82 (show plainName (kY 82).cls = true by decide +kernel)
  have h84 := lt_s h83 (show plainName (kY 83).cls = true by decide +kernel)
  have h85 := lt_s h84 (show plainName (kY 84).cls = true by decide +kernel)
  have h86 := lt_s h85 (show plainName (kY 85).cls = true by decide +kernel)
  have h87 := lt_s h86 (show plainName (kY 86).cls = true by decide +kernel)
  have h88 := lt_s h87 (show plainName (kY 87).cls = true by decide +kernel)
  have h89 := lt_s h88 (show plainName (kY 88).cls = true by decide +kernel)
  have h90 := lt_s h89 (show plainName (kY 89).cls = true by decide +kernel)
  have h91 := lt_s h90 (show plainName (kY 90).cls = true by decide +kernel)
  have h92 := lt_s h91 (show plainName (kY 91).cls = true by decide +kernel)
  have h93 := lt_s h92 (show plainName (kY 92).cls = true by decide +kernel)
  have h94 := lt_s h93 (show plainName (kY 93).cls = true by decide +kernel)
  have h95 := lt_s h94 (show plainName (kY 94).cls = true by decide +kernel)
  have h96 := lt_s h95 (show plainName (kY 95).cls = true by decide +kernel)
  have h97 := lt_s h96 (show plainName (kY 96).cls = true by decide +kernel)
  have h98 := lt_s h97 (show plainName (kY 97).cls = true by decide +kernel)
  have h99 := lt_s h98 (show plainName (kY 98).cls = true by decide +kernel)
  have h100 := lt_s h99 (show plainName (kY 99).cls = true by decide +kernel)
  have h101 := lt_s h100 (show plainName (kY 100).cls = true by decide +kernel)
  have h102 := lt_s h101 (show plainName (kY 101).cls = true by decide +kernel)
  have h103 := lt_s h102 (show plainName (kY 102).cls = true by decide +kernel)
  have h104 := lt_s h103 (show plainName (kY 103).cls = true by decide +kernel)
  have h105 := lt_s h104 (show plainName (kY 104).cls = true by decide +kernel)
  have h106 := lt_s h105 (show plainName (kY 105).cls = true by decide +kernel)
  have h107 := lt_s h106 (show plainName (kY 106).cls = true by decide +kernel)
  have h108 := lt_s h107 (show plainName (kY 107).cls = true by decide +kernel)
  have h109 := lt_s h108 (show plainName (kY 108).cls = true by decide +kernel)
  have h110 := lt_s h109 (show plainName (kY 109).cls = true by decide +kernel)
  have h111 := lt_s h110 (show plainName (kY 110).cls = true by decide +kernel)
  have h112 := lt_s h111 (show plainName (kY 111).cls = true by decide +kernel)
  have h113 := lt_s h112 (show plainName (kY 112).cls = true by decide +kernel)
  have h114 := lt_s h113 (show plainName (kY 113).cls = true by decide +kernel)
  have h115 := lt_s h114 (show plainName (kY 114).cls = true by decide +kernel)
  have h116 := lt_s h115 (show plainName (kY 115).cls = true by decide +kernel)
  have h117 := lt_s h116 (show plainName (kY 116).cls = true by decide +kernel)
  have h118 := lt_s h117 (show plainName (kY 117).cls = true by decide +kernel)
  have h119 := lt_s h118 (show plainName (kY 118).cls = true by decide +kernel)
  have h120 := lt_s h119 (show plainName (kY 119).cls = true by decide +kernel)
  have h121 := lt_s h120 (show plainName (kY 120).cls = true by decide +kernel)
  have h122 := lt_s h121 (show plainName (kY 121).cls = true by decide +kernel)
  have h123 := lt_s h122 (show plainName (kY 122).cls = true by decide +kernel)
  have h124 := lt_s h123 (show plainName (kY 123).cls = true by decide +kernel)
  have h125 := lt_s h124 (show plainName (kY 124).cls = true by decide +kernel)
  have h126 := lt_s h125 (show plainName (kY 125).cls = true by decide +kernel)
  have h127 := lt_s h126 (show plainName (kY 126).cls = true by decide +kernel)
  have h128 := lt_s h127 (show plainName (kY 127).cls = true by decide +kernel)
  have h129 := lt_s h128 (show plainName (kY 128).cls = true by decide +kernel)
  have h130 := lt_s h129 (show plainName (kY 129).cls = true by decide +kernel)
  have h131 := lt_s h130 (show plainName (kY 130).cls = true by decide +kernel)
  have h132 := lt_s h131 (show plainName (kY 131).cls = true by decide +kernel)
  have h133 := lt_s h132 (show plainName (kY 132).cls = true by decide +kernel)
  have h134 := lt_s h133 (show plainName (kY 133).cls = true by decide +kernel)
  have h135 := lt_s h134 (show plainName (kY 134).cls = true by decide +kernel)
  have h136 := lt_s h135 (show plainName (kY 135).cls = true by decide +kernel)
  have h137 := lt_s h136 (show plainName (kY 136).cls = true by decide +kernel)
  have h138 := lt_s h137 (show plainName (kY 137).cls = true by decide +kernel)
  have h139 := lt_s h138 (show plainName (kY 138).cls = true by decide +kernel)
  have h140 := lt_s h139 (show plainName (kY 139).cls = true by decide +kernel)
  have h141 := lt_s h140 (show plainName (kY 140).cls = true by decide +kernel)
  have h142 := lt_s h141 (show plainName (kY 141).cls = true by decide +kernel)
  have h143 := lt_s h142 (show plainName (kY 142).cls = true by decide +kernel)
  have h144 := lt_s h143 (show plainName (kY 143).cls = true by decide +kernel)
  have h145 := lt_s h144 (show plainName (kY 144).cls = true by decide +kernel)
  have h146 := lt_s h145 (show plainName (kY 145).cls = true by decide +kernel)
  have h147 := lt_s h146 (show plainName (kY 146).cls = true by decide +kernel)
  have h148 := lt_s h147 (show plainName (kY 147).cls = true by decide +kernel)
  have h149 := lt_s h148 (show plainName (kY 148).cls = true by decide +kernel)
  have h150 := lt_s h149 (show plainName (kY 149).cls = true by decide +kernel)
  have h151 := lt_s h150 (show plainName (kY 150).cls = true by decide +kernel)
  have h152 := lt_s h151 (show plainName (kY 151).cls = true by decide +kernel)
  have h153 := lt_s h152 (show plainName (kY 152).cls = true by decide +kernel)
  have h154 := lt_s h153 (show plainName (kY 153).cls = true by decide +kernel)
  have h155 := lt_s h154 (show plainName (kY 154).cls = true by decide +kernel)
  have h156 := lt_s h155 (show plainName (kY 155).cls = true by decide +kernel)
  have h157 := lt_s h156 (show plainName (kY 156).cls = true by decide +kernel)
  have h158 := lt_s h157 (show plainName (kY 157).cls = true by decide +kernel)
  have h159 := lt_s h158 (show plainName (kY 158).cls = true by decide +kernel)
  have h160 := lt_s h159 (show plainName (kY 159).cls = true by decide +kernel)
  have h161 := lt_s h160 (show plainName (kY 160).cls = true by decide +kernel)
  have h162 := lt_s h161 (show plainName (kY 161).cls = true by decide +kernel)
  have h163 := lt_s h162 (show plainName (kY 162).cls = true by decide +kernel)
  have h164 := lt_s h163 (show plainName (kY 163).cls = true by decide +kernel)
  have h165 := lt_s h164 (show plainName (kY 164).cls = true by decide +kernel)
  have h166 := lt_s h165 (show plainName (kY 165).cls = true by decide +kernel)
  have h167 := lt_s h166 (show plainName (kY 166).cls = true by decide +kernel)
  have h168 := lt_s h167 (show plainName (kY 167).cls = true by decide +kernel)
  have h169 := lt_s h168 (show plainName (kY 168).cls = true by decide +kernel)
  have h170 := lt_s h169 (show plainName (kY 169).cls = true by decide +kernel)
  have h171 := lt_s h170 (show plainName (kY 170).cls = true by decide +kernel)
  have h172 := lt_s h171 (show plainName (kY 171).cls = true by decide +kernel)
  have h173 := lt_s h172 (show plainName (kY 172).cls = true by decide +kernel)
  have h174 := lt_s h173 (show plainName (kY 173).cls = true by decide +kernel)
  have h175 := lt_s h174 (show plainName (kY 174).cls = true by decide +kernel)
  have h176 := lt_s h175 (show plainName (kY 175).cls = true by decide +kernel)
  have h177 := lt_s h176 (show plainName (kY 176).cls = true by decide +kernel)
  have h178 := lt_s h177 (show plainName (kY 177).cls = true by decide +kernel)
  have h179 := lt_s h178 (show plainName (kY 178).cls = true by decide +kernel)
  have h180 := lt_s h179 (show plainName (kY 179).cls = true by decide +kernel)
  have h181 := lt_s h180 (show plainName (kY 180).cls = true by decide +kernel)
  have h182 := lt_s h181 (show plainName (kY 181).cls = true by decide +kernel)
  have h183 := lt_s h182 (show plainName (kY 182).cls = true by decide +kernel)
  have h184 := lt_s h183 (show plainName (kY 183).cls = true by decide +kernel)
  have h185 := lt_s h184 (show plainName (kY 184).cls = true by decide +kernel)
  have h186 := lt_s h185 (show plainName (kY 185).cls = true by decide +kernel)
  have h187 := lt_s h186 (show plainName (kY 186).cls = true by decide +kernel)
  have h188 := lt_s h187 (show plainName (kY 187).cls = true by decide +kernel)
  have h189 := lt_s h188 (show plainName (kY 188).cls = true by decide +kernel)
  have h190 := lt_s h189 (show plainName (kY 189).cls = true by decide +kernel)
  have h191 := lt_s h190 (show plainName (kY 190).cls = true by decide +kernel)
  have h192 := lt_s h191 (show plainName (kY 191).cls = true by decide +kernel)
  have h193 := lt_s h192 (show plainName (kY 192).cls = true by decide +kernel)
  have h194 := lt_s h193 (show plainName (kY 193).cls = true by decide +kernel)
  have h195 := lt_s h194 (show plainName (kY 194).cls = true by decide +kernel)
  have h196 := lt_s h195 (show plainName (kY 195).cls = true by decide +kernel)
  have h197 := lt_s h196 (show plainName (kY 196).cls = true by decide +kernel)
  have h198 := lt_s h197 (show plainName (kY 197).cls = true by decide +kernel)
  have h199 := lt_s h198 (show plainName (kY 198).cls = true by decide +kernel)
  have h200 := lt_s h199 (show plainName (kY 199).cls = true by decide +kernel)
  have h201 := lt_s h200 (show plainName (kY 200).cls = true by decide +kernel)
  have h202 := lt_s h201 (show plainName (kY 201).cls = true by decide +kernel)
  have h203 := lt_s h202 (show plainName (kY 202).cls = true by decide +kernel)
  have h204 := lt_s h203 (show plainName (kY 203).cls = true by decide +kernel)
  have h205 := lt_s h204 (show plainName (kY 204).cls = true by decide +kernel)
  have h206 := lt_s h205 (show plainName (kY 205).cls = true by decide +kernel)
  have h207 := lt_s h206 (show plainName (kY 206).cls = true by decide +kernel)
  have h208 := lt_s h207 (show plainName (kY 207).cls = true by decide +kernel)
  have h209 := lt_s h208 (show plainName (kY 208).cls = true by decide +kernel)
  have h210 := lt_s h209 (show plainName (kY 209).cls = true by decide +kernel)
  have h211 := lt_s h210 (show plainName (kY 210).cls = true by decide +kernel)
  have h212 := lt_s h211 (show plainName (kY 211).cls = true by decide +kernel)
  have h213 := lt_s h212 (show plainName (kY 212).cls = true by decide +kernel)
  have h214 := lt_s h213 (show plainName (kY 213).cls = true by decide +kernel)
  have h215 := lt_s h214 (show plainName (kY 214).cls = true by decide +kernel)
  have h216 := lt_s h215 (show plainName (kY 215).cls = true by decide +kernel)
  have h217 := lt_s h216 (show plainName (kY 216).cls = true by decide +kernel)
  have h218 := lt_s h217 (show plainName (kY 217).cls = true by decide +kernel)
  have h219 := lt_s h218 (show plainName (kY 218).cls = true by decide +kernel)
  have h220 := lt_s h219 (show plainName (kY 219).cls = true by decide +kernel)
  have h221 := lt_s h220 (show plainName (kY 220).cls = true by decide +kernel)
  by_cases h : mi < 221
  · exact h221 mi h
  · have hb : ∀ k, k ≤ 219 → Nat.ble mi k = false := fun k hk => by
      cases h9 : Nat.ble mi k with
      | false => rfl
      | true => exact absurd (Nat.le_of_ble_eq_true h9) (by omega)
    have e : kY mi = yL_law := by
      unfold kY
      rw [hb 109 (by decide), hb 164 (by decide), hb 192 (by decide), hb 206 (by decide), hb 213 (by decide), hb 216 (by decide), hb 218 (by decide), hb 219 (by decide)]; rfl
    rw [e]; decide +kernel
theorem kmach_ok {E : kE} {σ : List Nat} {l : Launch} {tb : List (List Int32)} {F : Nat} (hE : kcl E = kCl) (hn : kn E = 20) (htb : ktb E = tb) (hst : kStab (kb E) (kXX (kb E) σ)) (hfl : l.stackTraces = false) (d : Nat) : kSnd E (kXX (kb E) σ) σ kZs l kY kWS d (kcall (kM tb) kML F d) := kcall_okH (CC := kCC) (RT := kRT) (HH := kHH) (G := kG) hst hfl kY_plain (fun _ => rfl) (kM_ok hE hn htb) d
def mi_X5_at : Nat := 0
def mi_X5_at_ : Nat := 1
def mi_X5_put : Nat := 2
def mi_X5_put_ : Nat := 3
def mi_X3_isPath : Nat := 4
def mi_X3_isUp : Nat := 5
def mi_X3_rise : Nat := 6
def mi_X3_part : Nat := 7
def mi_X3_pairsOfFirst : Nat := 8
def mi_X3_pairsOfLast : Nat := 9
def mi_X3_graft : Nat := 10
def mi_X3_backward : Nat := 11
def mi_X3_roll : Nat := 12
def mi_X3_valueOf : Nat := 13
def mi_X3_peaks : Nat := 14
def mi_X3_returns : Nat := 15
def mi_X3_greatestHeight : Nat := 16
def mi_X3_area : Nat := 17
def mi_X2_isOrder : Nat := 18
def mi_X2_at : Nat := 19
def mi_X2_ofRank : Nat := 20
def mi_X2_freeNumber : Nat := 21
def mi_X2_shape : Nat := 22
def mi_X2_invert : Nat := 23
def mi_X2_turn : Nat := 24
def mi_X2_sort : Nat := 25
def mi_X2_valueOf : Nat := 26
def mi_X2_drops : Nat := 27
def mi_X2_inversions : Nat := 28
def mi_X2_records : Nat := 29
def mi_X2_unmoved : Nat := 30
def mi_X2_timesContained : Nat := 31
def mi_X2_chosen : Nat := 32
def mi_X2_patternOf : Nat := 33
def mi_X7_node : Nat := 34
def mi_X7_leftOf : Nat := 35
def mi_X7_rightOf : Nat := 36
def mi_X7_mirror : Nat := 37
def mi_X7_label : Nat := 38
def mi_X7_valueOf : Nat := 39
def mi_J6_valueOf_2dffe : Nat := 40
def mi_J6_bitCount_0f7a4 : Nat := 41
def mi_X4_init : Nat := 42
def mi_X4_of : Nat := 43
def mi_X4_listPaths : Nat := 44
def mi_X4_listOrders : Nat := 45
def mi_X4_listImages : Nat := 46
def mi_X4_listValues : Nat := 47
def mi_X4_imageCode : Nat := 48
def mi_X4_valueByCode : Nat := 49
def mi_X4_codes : Nat := 50
def mi_X4_count : Nat := 51
def mi_X4_codeOf : Nat := 52
def mi_X4_rankOf : Nat := 53
def mi_X4_through : Nat := 54
def mi_X4_valueOf : Nat := 55
def mi_X4_countOf : Nat := 56
def mi_X4_isInOrderBehind : Nat := 57
def mi_X0_init : Nat := 58
def mi_X0_append : Nat := 59
def mi_X0_stepAt : Nat := 60
def mi_X0_isMove : Nat := 61
def mi_X6_init : Nat := 62
def mi_X6_take : Nat := 63
def mi_X6_countDistinct : Nat := 64
def mi_X6_countUnmoved : Nat := 65
def mi_X6_followRounds : Nat := 66
def mi_X6_roundLength : Nat := 67
def mi_X6_commonMultiple : Nat := 68
def mi_X6_forget : Nat := 69
def mi_X6_meet : Nat := 70
def mi_X8_init : Nat := 71
def mi_X8_go : Nat := 72
def mi_X1_init : Nat := 73
def mi_X1_note : Nat := 74
def mi_X9_init : Nat := 75
def mi_X9_size : Nat := 76
def mi_X9_map : Nat := 77
def mi_X9_then : Nat := 78
def mi_X9_walker : Nat := 79
def mi_X9_claim : Nat := 80
def mi_X9_send : Nat := 81
def mi_X9_trial : Nat := 82
def mi_X9_objects : Nat := 83
def mi_X9_unrank : Nat := 84
def mi_X9_rank : Nat := 85
def mi_X9_statistic : Nat := 86
def mi_X9_spread : Nat := 87
def mi_X9_signs : Nat := 88
def mi_X9_alike : Nat := 89
def mi_X9_contains : Nat := 90
def mi_X9_sorted : Nat := 91
def mi_X9_ofMap : Nat := 92
def mi_X9_image : Nat := 93
def mi_X9_source : Nat := 94
def mi_X9_rounds : Nat := 95
def mi_X9_period : Nat := 96
def mi_X9_against : Nat := 97
def mi_X9_cancels : Nat := 98
def mi_X9_ofWalker : Nat := 99
def mi_X9_ofClaim : Nat := 100
def mi_X9_many : Nat := 101
def mi_X9_mean : Nat := 102
def mi_X9_digest : Nat := 103
def mi_X9_digestOfObjects : Nat := 104
def mi_X9_digestOfMap : Nat := 105
def mi_X9_needStep : Nat := 106
def mi_X9_needFamily : Nat := 107
def mi_X9_needStatistic : Nat := 108
def mi_X9_needRank : Nat := 109
def mi_X9_chartAt : Nat := 110
def mi_X9_walkerAt : Nat := 111
def mi_X9_claimAt : Nat := 112
def mi_X9_signOf : Nat := 113
def mi_X9_patternLength : Nat := 114
def mi_X9_tryClaim : Nat := 115
def mi_X9_firstAgainst : Nat := 116
def mi_X9_isPairedOff : Nat := 117
def mi_X9_refutedClaims : Nat := 118
def mi_X11_init : Nat := 119
def mi_X12_isIn : Nat := 120
def mi_X12_init : Nat := 121
def mi_X12_thrown : Nat := 122
def mi_X12_refuse : Nat := 123
def mi_X12_start : Nat := 124
def mi_X12_isPath : Nat := 125
def mi_X12_isOrder : Nat := 126
def mi_X12_tens : Nat := 127
def mi_X12_grow : Nat := 128
def mi_X12_fill : Nat := 129
def mi_X12_index : Nat := 130
def mi_X12_first : Nat := 131
def mi_X12_part : Nat := 132
def mi_X12_read : Nat := 133
def mi_X12_written : Nat := 134
def mi_X12_sort : Nat := 135
def mi_X12_ofPath : Nat := 136
def mi_X12_tree : Nat := 137
def mi_X12_ofOrder : Nat := 138
def mi_X12_statisticOf : Nat := 139
def mi_X12_statistics : Nat := 140
def mi_X12_sign : Nat := 141
def mi_X12_size : Nat := 142
def mi_X12_map : Nat := 143
def mi_X12_isNoMap : Nat := 144
def mi_X12_then : Nat := 145
def mi_X12_isNoFamily : Nat := 146
def mi_X12_isNoStatistic : Nat := 147
def mi_X12_walker : Nat := 148
def mi_X12_claim : Nat := 149
def mi_X12_send : Nat := 150
def mi_X12_trial : Nat := 151
def mi_X12_objects : Nat := 152
def mi_X12_isNoRank : Nat := 153
def mi_X12_unrank : Nat := 154
def mi_X12_rank : Nat := 155
def mi_X12_statistic : Nat := 156
def mi_X12_spread : Nat := 157
def mi_X12_signsNow : Nat := 158
def mi_X12_signs : Nat := 159
def mi_X12_alike : Nat := 160
def mi_X12_digits : Nat := 161
def mi_X12_contains : Nat := 162
def mi_X12_isLike : Nat := 163
def mi_X12_sortedNow : Nat := 164
def mi_X12_sorted : Nat := 165
def mi_X12_ofMap : Nat := 166
def mi_X12_image : Nat := 167
def mi_X12_source : Nat := 168
def mi_X12_rounds_ : Nat := 169
def mi_X12_period : Nat := 170
def mi_X12_against : Nat := 171
def mi_X12_cancels : Nat := 172
def mi_X12_ofWalker : Nat := 173
def mi_X12_ofClaim : Nat := 174
def mi_X12_refuted : Nat := 175
def mi_X12_manyNow : Nat := 176
def mi_X12_many : Nat := 177
def mi_X12_mean : Nat := 178
def mi_X12_add : Nat := 179
def mi_X12_digest : Nat := 180
def mi_Jxa1e45_init_da8c8 : Nat := 181
def mi_Jxc12de_init_da8c8 : Nat := 182
def mi_Jx35411_init_45d68 : Nat := 183
def mi_Jx35411_hasNext_aae02 : Nat := 184
def mi_Jx4a65c_init_da8c8 : Nat := 185
def mi_Jx4a65c_grow_92f84 : Nat := 186
def mi_Jx4a65c_grow_d5877 : Nat := 187
def mi_Jx4a65c_size_8abf5 : Nat := 188
def mi_Jx4a65c_add_72be8 : Nat := 189
def mi_Jx4a65c_add_9ea2d : Nat := 190
def mi_Jx4a65c_clear_da8c8 : Nat := 191
def mi_Jx4a65c_iterator_32c93 : Nat := 192
def mi_L_size : Nat := 193
def mi_L_map : Nat := 194
def mi_L_then : Nat := 195
def mi_L_walker : Nat := 196
def mi_L_claim : Nat := 197
def mi_L_send : Nat := 198
def mi_L_trial : Nat := 199
def mi_L_objects : Nat := 200
def mi_L_unrank : Nat := 201
def mi_L_rank : Nat := 202
def mi_L_statistic : Nat := 203
def mi_L_spread : Nat := 204
def mi_L_signs : Nat := 205
def mi_L_alike : Nat := 206
def mi_L_contains : Nat := 207
def mi_L_sorted : Nat := 208
def mi_L_ofMap : Nat := 209
def mi_L_image : Nat := 210
def mi_L_source : Nat := 211
def mi_L_rounds : Nat := 212
def mi_L_period : Nat := 213
def mi_L_against : Nat := 214
def mi_L_cancels : Nat := 215
def mi_L_ofWalker : Nat := 216
def mi_L_ofClaim : Nat := 217
def mi_L_many : Nat := 218
def mi_L_mean : Nat := 219
def mi_L_law : Nat := 220
