/-! ===== all methods together ===== -/
def kM (tb : List (List Int32)) (cl : kCall) (mi : Nat) : List (List kOp) := bif Nat.ble mi 113 then (bif Nat.ble mi 56 then (bif Nat.ble mi 27 then (bif Nat.ble mi 13 then (bif Nat.ble mi 6 then (bif Nat.ble mi 2 then (bif Nat.ble mi 0 then bl_X5_at tb cl else (bif Nat.ble mi 1 then bl_X5_at_ tb cl else bl_X5_put tb cl)) else (bif Nat.ble mi 4 then (bif Nat.ble mi 3 then bl_X5_put_ tb cl else bl_X3_isPath tb cl) else (bif Nat.ble mi 5 then bl_X3_isUp tb cl else bl_X3_rise tb cl))) else (bif Nat.ble mi 9 then (bif Nat.ble mi 7 then bl_X3_part tb cl else (bif Nat.ble mi 8 then bl_X3_pairsOfFirst tb cl else bl_X3_pairsOfLast tb cl)) else (bif Nat.ble mi 11 then (bif Nat.ble mi 10 then bl_X3_graft tb cl else bl_X3_backward tb cl) else (bif Nat.ble mi 12 then bl_X3_roll tb cl else bl_X3_valueOf tb cl)))) else (bif Nat.ble mi 20 then (bif Nat.ble mi 16 then (bif Nat.ble mi 14 then bl_X3_peaks tb cl else (bif Nat.ble mi 15 then bl_X3_returns tb cl else bl_X3_greatestHeight tb cl)) else (bif Nat.ble mi 18 then (bif Nat.ble mi 17 then bl_X3_area tb cl else bl_X2_at tb cl) else (bif Nat.ble mi 19 then bl_X2_ofRank tb cl else bl_X2_freeNumber tb cl))) else (bif Nat.ble mi 23 then (bif Nat.ble mi 21 then bl_X2_shape tb cl else (bif Nat.ble mi 22 then bl_X2_invert tb cl else bl_X2_turn tb cl)) else (bif Nat.ble mi 25 then (bif Nat.ble mi 24 then bl_X2_sort tb cl else bl_X2_valueOf tb cl) else (bif Nat.ble mi 26 then bl_X2_drops tb cl else bl_X2_inversions tb cl))))) else (bif Nat.ble mi 41 then (bif Nat.ble mi 34 then (bif Nat.ble mi 30 then (bif Nat.ble mi 28 then bl_X2_records tb cl else (bif Nat.ble mi 29 then bl_X2_unmoved tb cl else bl_X7_node tb cl)) else (bif Nat.ble mi 32 then (bif Nat.ble mi 31 then bl_X7_leftOf tb cl else bl_X7_rightOf tb cl) else (bif Nat.ble mi 33 then bl_X7_mirror tb cl else bl_X7_label tb cl))) else (bif Nat.ble mi 37 then (bif Nat.ble mi 35 then bl_X7_valueOf tb cl else (bif Nat.ble mi 36 then bl_X4_init tb cl else bl_X4_of tb cl)) else (bif Nat.ble mi 39 then (bif Nat.ble mi 38 then bl_X4_listPaths tb cl else bl_X4_listOrders tb cl) else (bif Nat.ble mi 40 then bl_X4_listImages tb cl else bl_X4_listValues tb cl)))) else (bif Nat.ble mi 48 then (bif Nat.ble mi 44 then (bif Nat.ble mi 42 then bl_X4_imageCode tb cl else (bif Nat.ble mi 43 then bl_X4_valueByCode tb cl else bl_X4_codes tb cl)) else (bif Nat.ble mi 46 then (bif Nat.ble mi 45 then bl_X4_count tb cl else bl_X4_codeOf tb cl) else (bif Nat.ble mi 47 then bl_X4_rankOf tb cl else bl_X4_through tb cl))) else (bif Nat.ble mi 52 then (bif Nat.ble mi 50 then (bif Nat.ble mi 49 then bl_X4_valueOf tb cl else bl_X4_countOf tb cl) else (bif Nat.ble mi 51 then bl_X4_isInOrderBehind tb cl else bl_X0_init tb cl)) else (bif Nat.ble mi 54 then (bif Nat.ble mi 53 then bl_X0_append tb cl else bl_X0_stepAt tb cl) else (bif Nat.ble mi 55 then bl_X0_isMove tb cl else bl_X6_init tb cl)))))) else (bif Nat.ble mi 84 then (bif Nat.ble mi 70 then (bif Nat.ble mi 63 then (bif Nat.ble mi 59 then (bif Nat.ble mi 57 then bl_X6_take tb cl else (bif Nat.ble mi 58 then bl_X6_countDistinct tb cl else bl_X6_countUnmoved tb cl)) else (bif Nat.ble mi 61 then (bif Nat.ble mi 60 then bl_X6_followRounds tb cl else bl_X6_roundLength tb cl) else (bif Nat.ble mi 62 then bl_X6_commonMultiple tb cl else bl_X6_forget tb cl))) else (bif Nat.ble mi 66 then (bif Nat.ble mi 64 then bl_X6_meet tb cl else (bif Nat.ble mi 65 then bl_X8_init tb cl else bl_X8_go tb cl)) else (bif Nat.ble mi 68 then (bif Nat.ble mi 67 then bl_X1_init tb cl else bl_X1_note tb cl) else (bif Nat.ble mi 69 then bl_X9_init tb cl else bl_X9_size tb cl)))) else (bif Nat.ble mi 77 then (bif Nat.ble mi 73 then (bif Nat.ble mi 71 then bl_X9_map tb cl else (bif Nat.ble mi 72 then bl_X9_then tb cl else bl_X9_walker tb cl)) else (bif Nat.ble mi 75 then (bif Nat.ble mi 74 then bl_X9_claim tb cl else bl_X9_send tb cl) else (bif Nat.ble mi 76 then bl_X9_trial tb cl else bl_X9_objects tb cl))) else (bif Nat.ble mi 80 then (bif Nat.ble mi 78 then bl_X9_unrank tb cl else (bif Nat.ble mi 79 then bl_X9_rank tb cl else bl_X9_statistic tb cl)) else (bif Nat.ble mi 82 then (bif Nat.ble mi 81 then bl_X9_signs tb cl else bl_X9_alike tb cl) else (bif Nat.ble mi 83 then bl_X9_sorted tb cl else bl_X9_ofMap tb cl))))) else (bif Nat.ble mi 98 then (bif Nat.ble mi 91 then (bif Nat.ble mi 87 then (bif Nat.ble mi 85 then bl_X9_image tb cl else (bif Nat.ble mi 86 then bl_X9_source tb cl else bl_X9_rounds tb cl)) else (bif Nat.ble mi 89 then (bif Nat.ble mi 88 then bl_X9_period tb cl else bl_X9_against tb cl) else (bif Nat.ble mi 90 then bl_X9_cancels tb cl else bl_X9_ofWalker tb cl))) else (bif Nat.ble mi 94 then (bif Nat.ble mi 92 then bl_X9_ofClaim tb cl else (bif Nat.ble mi 93 then bl_X9_many tb cl else bl_X9_digest tb cl)) else (bif Nat.ble mi 96 then (bif Nat.ble mi 95 then bl_X9_digestOfObjects tb cl else bl_X9_digestOfMap tb cl) else (bif Nat.ble mi 97 then bl_X9_needStep tb cl else bl_X9_needFamily tb cl)))) else (bif Nat.ble mi 105 then (bif Nat.ble mi 101 then (bif Nat.ble mi 99 then bl_X9_needStatistic tb cl else (bif Nat.ble mi 100 then bl_X9_needRank tb cl else bl_X9_chartAt tb cl)) else (bif Nat.ble mi 103 then (bif Nat.ble mi 102 then bl_X9_walkerAt tb cl else bl_X9_claimAt tb cl) else (bif Nat.ble mi 104 then bl_X9_signOf tb cl else bl_X9_tryClaim tb cl))) else (bif Nat.ble mi 109 then (bif Nat.ble mi 107 then (bif Nat.ble mi 106 then bl_X9_firstAgainst tb cl else bl_X9_isPairedOff tb cl) else (bif Nat.ble mi 108 then bl_X9_refutedClaims tb cl else bl_L_below tb cl)) else (bif Nat.ble mi 111 then (bif Nat.ble mi 110 then bl_L_cell tb cl else bl_L_law tb cl) else (bif Nat.ble mi 112 then bl_L_isSent tb cl else bl_L_isMap tb cl))))))) else []
theorem kMOK_nil {E : kE} {XX : State → Prop} {σ : List Nat} {zs : List (String × String × Nat)} {l : Launch} {Y : Nat → MethodName} {WS : Nat → List Cond} {y : MethodName} {ws : List Cond} {cc : ByteArray} {maxL : Nat} {ret : Option FieldType} {bl : kCall → List (List kOp)} (h : ∀ cl, bl cl = []) : kMOK E XX σ zs l Y WS y ws cc maxL ret bl := by
  intro d cl hS p e R s m args below meth c α0 nc0 ns0 res C hf hlo hr hnm hout
  refine ⟨fun _ => 0, rfl, fun b ops hb => ?_⟩
  rw [h] at hb
  simp at hb
set_option maxRecDepth 100000 in
theorem kM_ok {E : kE} {σ : List Nat} {l : Launch} {tb : List (List Int32)} (hE : kcl E = kCl) (hn : kn E = 6) (htb : ktb E = tb) : ∀ mi, kMOK E (kXX (kb E)) σ kZs l kY kWS (kY mi) (kWS mi) (kCC mi) (kML mi) (kRT mi) (fun cl => kM tb cl mi) := by
  have h0 : ∀ a, a < 0 → kMOK E (kXX (kb E)) σ kZs l kY kWS (kY a) (kWS a) (kCC a) (kML a) (kRT a) (fun cl => kM tb cl a) := lt_0
  have h1 := lt_s h0 (mok_X5_at hE hn htb)
  have h2 := lt_s h1 (mok_X5_at_ hE hn htb)
  have h3 := lt_s h2 (mok_X5_put hE hn htb)
  have h4 := lt_s h3 (mok_X5_put_ hE hn htb)
  have h5 := lt_s h4 (mok_X3_isPath hE hn htb)
  have h6 := lt_s h5 (mok_X3_isUp hE hn htb)
  have h7 := lt_s h6 (mok_X3_rise hE hn htb)
  have h8 := lt_s h7 (mok_X3_part hE hn htb)
  have h9 := lt_s h8 (mok_X3_pairsOfFirst hE hn htb)
  have h10 := lt_s h9 (mok_X3_pairsOfLast hE hn htb)
  have h11 := lt_s h10 (mok_X3_graft hE hn htb)
  have h12 := lt_s h11 (mok_X3_backward hE hn htb)
  have h13 := lt_s h12 (mok_X3_roll hE hn htb)
  have h14 := lt_s h13 (mok_X3_valueOf hE hn htb)
  have h15 := lt_s h14 (mok_X3_peaks hE hn htb)
  have h16 := lt_s h15 (mok_X3_returns hE hn htb)
  have h17 := lt_s h16 (mok_X3_greatestHeight hE hn htb)
  have h18 := lt_s h17 (mok_X3_area hE hn htb)
  have h19 := lt_s h18 (mok_X2_at hE hn htb)
  have h20 := lt_s h19 (mok_X2_ofRank hE hn htb)
  have h21 := lt_s h20 (mok_X2_freeNumber hE hn htb)
  have h22 := lt_s h21 (mok_X2_shape hE hn htb)
  have h23 := lt_s h22 (mok_X2_invert hE hn htb)
  have h24 := lt_s h23 (mok_X2_turn hE hn htb)
  have h25 := lt_s h24 (mok_X2_sort hE hn htb)
  have h26 := lt_s h25 (mok_X2_valueOf hE hn htb)
  have h27 := lt_s h26 (mok_X2_drops hE hn htb)
  have h28 := lt_s h27 (mok_X2_inversions hE hn htb)
  have h29 := lt_s h28 (mok_X2_records hE hn htb)
  have h30 := lt_s h29 (mok_X2_unmoved hE hn htb)
  have h31 := lt_s h30 (mok_X7_node hE hn htb)
  have h32 := lt_s h31 (mok_X7_leftOf hE hn htb)
  have h33 := lt_s h32 (mok_X7_rightOf hE hn htb)
  have h34 := lt_s h33 (mok_X7_mirror hE hn htb)
  have h35 := lt_s h34 (mok_X7_label hE hn htb)
  have h36 := lt_s h35 (mok_X7_valueOf hE hn htb)
  have h37 := lt_s h36 (mok_X4_init hE hn htb)
  have h38 := lt_s h37 (mok_X4_of hE hn htb)
  have h39 := lt_s h38 (mok_X4_listPaths hE hn htb)
  have h40 := lt_s h39 (mok_X4_listOrders hE hn htb)
  have h41 := lt_s h40 (mok_X4_listImages hE hn htb)
  have h42 := lt_s h41 (mok_X4_listValues hE hn htb)
  have h43 := lt_s h42 (mok_X4_imageCode hE hn htb)
  have h44 := lt_s h43 (mok_X4_valueByCode hE hn htb)
  have h45 := lt_s h44 (mok_X4_codes hE hn htb)
  have h46 := lt_s h45 (mok_X4_count hE hn htb)
  have h47 := lt_s h46 (mok_X4_codeOf hE hn htb)
  have h48 := lt_s h47 (mok_X4_rankOf hE hn htb)
  have h49 := lt_s h48 (mok_X4_through hE hn htb)
  have h50 := lt_s h49 (mok_X4_valueOf hE hn htb)
  have h51 := lt_s h50 (mok_X4_countOf hE hn htb)
  have h52 := lt_s h51 (mok_X4_isInOrderBehind hE hn htb)
  have h53 := lt_s h52 (mok_X0_init hE hn htb)
  have h54 := lt_s h53 (mok_X0_append hE hn htb)
  have h55 := lt_s h54 (mok_X0_stepAt hE hn htb)
  have h56 := lt_s h55 (mok_X0_isMove hE hn htb)
  have h57 := lt_s h56 (mok_X6_init hE hn htb)
  have h58 := lt_s h57 (mok_X6_take hE hn htb)
  have h59 := lt_s h58 (mok_X6_countDistinct hE hn htb)
  have h60 := lt_s h59 (mok_X6_countUnmoved hE hn htb)
  have h61 := lt_s h60 (mok_X6_followRounds hE hn htb)
  have h62 := lt_s h61 (mok_X6_roundLength hE hn htb)
  have h63 := lt_s h62 (mok_X6_commonMultiple hE hn htb)
  have h64 := lt_s h63 (mok_X6_forget hE hn htb)
  have h65 := lt_s h64 (mok_X6_meet hE hn htb)
  have h66 := lt_s h65 (mok_X8_init hE hn htb)
  have h67 := lt_s h66 (mok_X8_go hE hn htb)
  have h68 := lt_s h67 (mok_X1_init hE hn htb)
  have h69 := lt_s h68 (mok_X1_note hE hn htb)
  have h70 := lt_s h69 (mok_X9_init hE hn htb)
  have h71 := lt_s h70 (mok_X9_size hE hn htb)
  have h72 := lt_s h71 (mok_X9_map hE hn htb)
  have h73 := lt_s h72 (mok_X9_then hE hn htb)
  have h74 := lt_s h73 (mok_X9_walker hE hn htb)
  have h75 := lt_s h74 (mok_X9_claim hE hn htb)
  have h76 := lt_s h75 (mok_X9_send hE hn htb)
  have h77 := lt_s h76 (mok_X9_trial hE hn htb)
  have h78 := lt_s h77 (mok_X9_objects hE hn htb)
  have h79 := lt_s h78 (mok_X9_unrank hE hn htb)
  have h80 := lt_s h79 (mok_X9_rank hE hn htb)
  have h81 := lt_s h80 (mok_X9_statistic hE hn htb)
  have h82 := lt_s h81 (mok_X9_signs hE hn htb)
  have h83 := lt_s h82 (mok_X9_alike hE hn htb)
  have h84 := lt_s h83 (mok_X9_sorted hE hn htb)
  have h85 := lt_s h84 (mok_X9_ofMap hE hn htb)
  have h86 := lt_s h85 (mok_X9_image hE hn htb)
  have h87 := lt_s h86 (mok_X9_source hE hn htb)
  have h88 := lt_s h87 (mok_X9_rounds hE hn htb)
  have h89 := lt_s h88 (mok_X9_period hE hn htb)
  have h90 := lt_s h89 (mok_X9_against hE hn htb)
  have h91 := lt_s h90 (mok_X9_cancels hE hn htb)
  have h92 := lt_s h91 (mok_X9_ofWalker hE hn htb)
  have h93 := lt_s h92 (mok_X9_ofClaim hE hn htb)
  have h94 := lt_s h93 (mok_X9_many hE hn htb)
  have h95 := lt_s h94 (mok_X9_digest hE hn htb)
  have h96 := lt_s h95 (mok_X9_digestOfObjects hE hn htb)
  have h97 := lt_s h96 (mok_X9_digestOfMap hE hn htb)
  have h98 := lt_s h97 (mok_X9_needStep hE hn htb)
  have h99 := lt_s h98 (mok_X9_needFamily hE hn htb)
  have h100 := lt_s h99 (mok_X9_needStatistic hE hn htb)
  have h101 := lt_s h100 (mok_X9_needRank hE hn htb)
  have h102 := lt_s h101 (mok_X9_chartAt hE hn htb)
  have h103 := lt_s h102 (mok_X9_walkerAt hE hn htb)
  have h104 := lt_s h103 (mok_X9_claimAt hE hn htb)
  have h105 := lt_s h104 (mok_X9_signOf hE hn htb)
  have h106 := lt_s h105 (mok_X9_tryClaim hE hn htb)
  have h107 := lt_s h106 (mok_X9_firstAgainst hE hn htb)
  have h108 := lt_s h107 (mok_X9_isPairedOff hE hn htb)
  have h109 := lt_s h108 (mok_X9_refutedClaims hE hn htb)
  have h110 := lt_s h109 (mok_L_below hE hn htb)
  have h111 := lt_s h110 (mok_L_cell hE hn htb)
  have h112 := lt_s h111 (mok_L_law hE hn htb)
  have h113 := lt_s h112 (mok_L_isSent hE hn htb)
  have h114 := lt_s h113 (mok_L_isMap hE hn htb)
  intro mi
  by_cases h : mi < 114
  · exact h114 mi h
  · refine kMOK_nil fun cl => ?_
    have hz : Nat.ble mi 113 = false := by
      cases h9 : Nat.ble mi 113 with
      | false => rfl
      | true => exact absurd (Nat.le_of_ble_eq_true h9) (by omega)
    unfold kM
    rw [hz]; rfl
set_option maxRecDepth 100000 in
theorem kY_plain (mi : Nat) : plainName (kY mi).cls = true := by
  have h0 : ∀ a, a < 0 → plainName (kY a).cls = true := lt_0
  have h1 := lt_s h0 (show plainName (kY 0).cls = true by decide +kernel)
  have h2 := lt_s h1 (show plainName (kY 1).cls = true by decide +kernel)
  have h3 := lt_s h2 (show plainName (kY 2).cls = true by decide +kernel)
  have h4 := lt_s h3 (show plainName (kY 3).cls = true by decide +kernel)
  have h5 := lt_s h4 (show plainName (kY 4).cls = true by decide +kernel)
  have h6 := lt_s h5 (show plainName (kY 5).cls = true by decide +kernel)
  have h7 := lt_s h6 (show plainName (kY 6).cls = true by decide +kernel)
  have h8 := lt_s h7 (show plainName (kY 7).cls = true by decide +kernel)
  have h9 := lt_s h8 (show plainName (kY 8).cls = true by decide +kernel)
  have h10 := lt_s h9 (show plainName (kY 9).cls = true by decide +kernel)
  have h11 := lt_s h10 (show plainName (kY 10).cls = true by decide +kernel)
  have h12 := lt_s h11 (show plainName (kY 11).cls = true by decide +kernel)
  have h13 := lt_s h12 (show plainName (kY 12).cls = true by decide +kernel)
  have h14 := lt_s h13 (show plainName (kY 13).cls = true by decide +kernel)
  have h15 := lt_s h14 (show plainName (kY 14).cls = true by decide +kernel)
  have h16 := lt_s h15 (show plainName (kY 15).cls = true by decide +kernel)
  have h17 := lt_s h16 (show plainName (kY 16).cls = true by decide +kernel)
  have h18 := lt_s h17 (show plainName (kY 17).cls = true by decide +kernel)
  have h19 := lt_s h18 (show plainName (kY 18).cls = true by decide +kernel)
  have h20 := lt_s h19 (show plainName (kY 19).cls = true by decide +kernel)
  have h21 := lt_s h20 (show plainName (kY 20).cls = true by decide +kernel)
  have h22 := lt_s h21 (show plainName (kY 21).cls = true by decide +kernel)
  have h23 := lt_s h22 (show plainName (kY 22).cls = true by decide +kernel)
  have h24 := lt_s h23 (show plainName (kY 23).cls = true by decide +kernel)
  have h25 := lt_s h24 (show plainName (kY 24).cls = true by decide +kernel)
  have h26 := lt_s h25 (show plainName (kY 25).cls = true by decide +kernel)
  have h27 := lt_s h26 (show plainName (kY 26).cls = true by decide +kernel)
  have h28 := lt_s h27 (show plainName (kY 27).cls = true by decide +kernel)
  have h29 := lt_s h28 (show plainName (kY 28).cls = true by decide +kernel)
  have h30 := lt_s h29 (show plainName (kY 29).cls = true by decide +kernel)
  have h31 := lt_s h30 (show plainName (kY 30).cls = true by decide +kernel)
  have h32 := lt_s h31 (show plainName (kY 31).cls = true by decide +kernel)
  have h33 := lt_s h32 (show plainName (kY 32).cls = true by decide +kernel)
  have h34 := lt_s h33 (show plainName (kY 33).cls = true by decide +kernel)
  have h35 := lt_s h34 (show plainName (kY 34).cls = true by decide +kernel)
  have h36 := lt_s h35 (show plainName (kY 35).cls = true by decide +kernel)
  have h37 := lt_s h36 (show plainName (kY 36).cls = true by decide +kernel)
  have h38 := lt_s h37 (show plainName (kY 37).cls = true by decide +kernel)
  have h39 := lt_s h38 (show plainName (kY 38).cls = true by decide +kernel)
  have h40 := lt_s h39 (show plainName (kY 39).cls = true by decide +kernel)
  have h41 := lt_s h40 (show plainName (kY 40).cls = true by decide +kernel)
  have h42 := lt_s h41 (show plainName (kY 41).cls = true by decide +kernel)
  have h43 := lt_s h42 (show plainName (kY 42).cls = true by decide +kernel)
  have h44 := lt_s h43 (show plainName (kY 43).cls = true by decide +kernel)
  have h45 := lt_s h44 (show plainName (kY 44).cls = true by decide +kernel)
  have h46 := lt_s h45 (show plainName (kY 45).cls = true by decide +kernel)
  have h47 := lt_s h46 (show plainName (kY 46).cls = true by decide +kernel)
  have h48 := lt_s h47 (show plainName (kY 47).cls = true by decide +kernel)
  have h49 := lt_s h48 (show plainName (kY 48).cls = true by decide +kernel)
  have h50 := lt_s h49 (show plainName (kY 49).cls = true by decide +kernel)
  have h51 := lt_s h50 (show plainName (kY 50).cls = true by decide +kernel)
  have h52 := lt_s h51 (show plainName (kY 51).cls = true by decide +kernel)
  have h53 := lt_s h52 (show plainName (kY 52).cls = true by decide +kernel)
  have h54 := lt_s h53 (show plainName (kY 53).cls = true by decide +kernel)
  have h55 := lt_s h54 (show plainName (kY 54).cls = true by decide +kernel)
  have h56 := lt_s h55 (show plainName (kY 55).cls = true by decide +kernel)
  have h57 := lt_s h56 (show plainName (kY 56).cls = true by decide +kernel)
  have h58 := lt_s h57 (show plainName (kY 57).cls = true by decide +kernel)
  have h59 := lt_s h58 (show plainName (kY 58).cls = true by decide +kernel)
  have h60 := lt_s h59 (show plainName (kY 59).cls = true by decide +kernel)
  have h61 := lt_s h60 (show plainName (kY 60).cls = true by decide +kernel)
  have h62 := lt_s h61 (show plainName (kY 61).cls = true by decide +kernel)
  have h63 := lt_s h62 (show plainName (kY 62).cls = true by decide +kernel)
  have h64 := lt_s h63 (show plainName (kY 63).cls = true by decide +kernel)
  have h65 := lt_s h64 (show plainName (kY 64).cls = true by decide +kernel)
  have h66 := lt_s h65 (show plainName (kY 65).cls = true by decide +kernel)
  have h67 := lt_s h66 (show plainName (kY 66).cls = true by decide +kernel)
  have h68 := lt_s h67 (show plainName (kY 67).cls = true by decide +kernel)
  have h69 := lt_s h68 (show plainName (kY 68).cls = true by decide +kernel)
  have h70 := lt_s h69 (show plainName (kY 69).cls = true by decide +kernel)
  have h71 := lt_s h70 (show plainName (kY 70).cls = true by decide +kernel)
  have h72 := lt_s h71 (show plainName (kY 71).cls = true by decide +kernel)
  have h73 := lt_s h72 (show plainName (kY 72).cls = true by decide +kernel)
  have h74 := lt_s h73 (show plainName (kY 73).cls = true by decide +kernel)
  have h75 := lt_s h74 (show plainName (kY 74).cls = true by decide +kernel)
  have h76 := lt_s h75 (show plainName (kY 75).cls = true by decide +kernel)
  have h77 := lt_s h76 (show plainName (kY 76).cls = true by decide +kernel)
  have h78 := lt_s h77 (show plainName (kY 77).cls = true by decide +kernel)
  have h79 := lt_s h78 (show plainName (kY 78).cls = true by decide +kernel)
  have h80 := lt_s h79 (show plainName (kY 79).cls = true by decide +kernel)
  have h81 := lt_s h80 (show plainName (kY 80).cls = true by decide +kernel)
  have h82 := lt_s h81 (show plainName (kY 81).cls = true by decide +kernel)
  have h83 := lt_s h82 (show plainName (kY 82).cls = true by decide +kernel)
  have h84 := lt_s h83 (show plainName (kY 83).cls = true by decide +kernel)
  have h85 := lt_s h84 (show plainName (kY 84).cls = true by decide +kernel)
  have h86 := lt_s h85 (show plainName (kY 85).cls = true by decide +kernel)
  have h87 := lt_s h86 (show plainName (kY 86).cls = true by decide +kernel)
  have h88 := lt_s h87 (show plainName (kY 87).cls = true by decide +kernel)
  have h89 := lt_s h88 (show plainName (kY 88).cls = true by decide +kernel)
  have h90 := lt_s h89 (show plainName (kY 89).cls = true by decide +kernel)
  have h91 := lt_s h90 (show plainName (kY 90).cls = true by decide +kernel)
  have h92 := lt_s h91 (show plainName (kY 91).cls = true by decide +kernel)
  have h93 := lt_s h92 (show plainName (kY 92).cls = true by decide +kernel)
  have h94 := lt_s h93 (show plainName (kY 93).cls = true by decide +kernel)
  have h95 := lt_s h94 (show plainName (kY 94).cls = true by decide +kernel)
  have h96 := lt_s h95 (show plainName (kY 95).cls = true by decide +kernel)
  have h97 := lt_s h96 (show plainName (kY 96).cls = true by decide +kernel)
  have h98 := lt_s h97 (show plainName (kY 97).cls = true by decide +kernel)
  have h99 := lt_s h98 (show plainName (kY 98).cls = true by decide +kernel)
  have h100 := lt_s h99 (show plainName (kY 99).cls = true by decide +kernel)
  have h101 := lt_s h100 (show plainName (kY 100).cls = true by decide +kernel)
  have h102 := lt_s h101 (show plainName (kY 101).cls = true by decide +kernel)
  have h103 := lt_s h102 (show plainName (kY 102).cls = true by decide +kernel)
  have h104 := lt_s h103 (show plainName (kY 103).cls = true by decide +kernel)
  have h105 := lt_s h104 (show plainName (kY 104).cls = true by decide +kernel)
  have h106 := lt_s h105 (show plainName (kY 105).cls = true by decide +kernel)
  have h107 := lt_s h106 (show plainName (kY 106).cls = true by decide +kernel)
  have h108 := lt_s h107 (show plainName (kY 107).cls = true by decide +kernel)
  have h109 := lt_s h108 (show plainName (kY 108).cls = true by decide +kernel)
  have h110 := lt_s h109 (show plainName (kY 109).cls = true by decide +kernel)
  have h111 := lt_s h110 (show plainName (kY 110).cls = true by decide +kernel)
  have h112 := lt_s h111 (show plainName (kY 111).cls = true by decide +kernel)
  have h113 := lt_s h112 (show plainName (kY 112).cls = true by decide +kernel)
  have h114 := lt_s h113 (show plainName (kY 113).cls = true by decide +kernel)
  by_cases h : mi < 114
  · exact h114 mi h
  · have hb : ∀ k, k ≤ 112 → Nat.ble mi k = false := fun k hk => by
      cases h9 : Nat.ble mi k with
      | false => rfl
      | true => exact absurd (Nat.le_of_ble_eq_true h9) (by omega)
    have e : kY mi = yL_isMap := by
      unfold kY
      rw [hb 56 (by decide), hb 84 (by decide), hb 98 (by decide), hb 105 (by decide), hb 109 (by decide), hb 111 (by decide), hb 112 (by decide)]; rfl
    rw [e]; decide +kernel
theorem kmach_ok {E : kE} {σ : List Nat} {l : Launch} {tb : List (List Int32)} {F : Nat} (hE : kcl E = kCl) (hn : kn E = 6) (htb : ktb E = tb) (hst : kStab (kb E) (kXX (kb E))) (hfl : l.stackTraces = false) (d : Nat) : kSnd E (kXX (kb E)) σ kZs l kY kWS d (kcall (kM tb) kML F d) := kcall_ok (CC := kCC) (RT := kRT) (G := kG) hst hfl kY_plain (fun _ => rfl) (kM_ok hE hn htb) d
def mi_X5_at : Nat := 0
def mi_X5_at_ : Nat := 1
def mi_X5_put : Nat := 2
def mi_X5_put_ : Nat := 3
def mi_X3_isPath : Nat := 4
def mi_X3_isUp : Nat := 5
def mi_X3_rise : Nat := 6
def mi_X3_part : Nat := 7
def mi_X3_pairsOfFirst : Nat := 8
def mi_X3_pairsOfLast : Nat := 9
def mi_X3_graft : Nat := 10
def mi_X3_backward : Nat := 11
def mi_X3_roll : Nat := 12
def mi_X3_valueOf : Nat := 13
def mi_X3_peaks : Nat := 14
def mi_X3_returns : Nat := 15
def mi_X3_greatestHeight : Nat := 16
def mi_X3_area : Nat := 17
def mi_X2_at : Nat := 18
def mi_X2_ofRank : Nat := 19
def mi_X2_freeNumber : Nat := 20
def mi_X2_shape : Nat := 21
def mi_X2_invert : Nat := 22
def mi_X2_turn : Nat := 23
def mi_X2_sort : Nat := 24
def mi_X2_valueOf : Nat := 25
def mi_X2_drops : Nat := 26
def mi_X2_inversions : Nat := 27
def mi_X2_records : Nat := 28
def mi_X2_unmoved : Nat := 29
def mi_X7_node : Nat := 30
def mi_X7_leftOf : Nat := 31
def mi_X7_rightOf : Nat := 32
def mi_X7_mirror : Nat := 33
def mi_X7_label : Nat := 34
def mi_X7_valueOf : Nat := 35
def mi_X4_init : Nat := 36
def mi_X4_of : Nat := 37
def mi_X4_listPaths : Nat := 38
def mi_X4_listOrders : Nat := 39
def mi_X4_listImages : Nat := 40
def mi_X4_listValues : Nat := 41
def mi_X4_imageCode : Nat := 42
def mi_X4_valueByCode : Nat := 43
def mi_X4_codes : Nat := 44
def mi_X4_count : Nat := 45
def mi_X4_codeOf : Nat := 46
def mi_X4_rankOf : Nat := 47
def mi_X4_through : Nat := 48
def mi_X4_valueOf : Nat := 49
def mi_X4_countOf : Nat := 50
def mi_X4_isInOrderBehind : Nat := 51
def mi_X0_init : Nat := 52
def mi_X0_append : Nat := 53
def mi_X0_stepAt : Nat := 54
def mi_X0_isMove : Nat := 55
def mi_X6_init : Nat := 56
def mi_X6_take : Nat := 57
def mi_X6_countDistinct : Nat := 58
def mi_X6_countUnmoved : Nat := 59
def mi_X6_followRounds : Nat := 60
def mi_X6_roundLength : Nat := 61
def mi_X6_commonMultiple : Nat := 62
def mi_X6_forget : Nat := 63
def mi_X6_meet : Nat := 64
def mi_X8_init : Nat := 65
def mi_X8_go : Nat := 66
def mi_X1_init : Nat := 67
def mi_X1_note : Nat := 68
def mi_X9_init : Nat := 69
def mi_X9_size : Nat := 70
def mi_X9_map : Nat := 71
def mi_X9_then : Nat := 72
def mi_X9_walker : Nat := 73
def mi_X9_claim : Nat := 74
def mi_X9_send : Nat := 75
def mi_X9_trial : Nat := 76
def mi_X9_objects : Nat := 77
def mi_X9_unrank : Nat := 78
def mi_X9_rank : Nat := 79
def mi_X9_statistic : Nat := 80
def mi_X9_signs : Nat := 81
def mi_X9_alike : Nat := 82
def mi_X9_sorted : Nat := 83
def mi_X9_ofMap : Nat := 84
def mi_X9_image : Nat := 85
def mi_X9_source : Nat := 86
def mi_X9_rounds : Nat := 87
def mi_X9_period : Nat := 88
def mi_X9_against : Nat := 89
def mi_X9_cancels : Nat := 90
def mi_X9_ofWalker : Nat := 91
def mi_X9_ofClaim : Nat := 92
def mi_X9_many : Nat := 93
def mi_X9_digest : Nat := 94
def mi_X9_digestOfObjects : Nat := 95
def mi_X9_digestOfMap : Nat := 96
def mi_X9_needStep : Nat := 97
def mi_X9_needFamily : Nat := 98
def mi_X9_needStatistic : Nat := 99
def mi_X9_needRank : Nat := 100
def mi_X9_chartAt : Nat := 101
def mi_X9_walkerAt : Nat := 102
def mi_X9_claimAt : Nat := 103
def mi_X9_signOf : Nat := 104
def mi_X9_tryClaim : Nat := 105
def mi_X9_firstAgainst : Nat := 106
def mi_X9_isPairedOff : Nat := 107
def mi_X9_refutedClaims : Nat := 108
def mi_L_below : Nat := 109
def mi_L_cell : Nat := 110
def mi_L_law : Nat := 111
def mi_L_isSent : Nat := 112
def mi_L_isMap : Nat := 113
