/-- BijectoryModel.fill(II[I)V -/
def bl_X12_fill (tb : List (List Int32)) (cl : kCall) : List (List kOp) := [
  [oLoadI 2, oS (gPush (.int 1)), oLoadR 0, oGet 20 11 1, oBin (fun x y => x <<< (y &&& 31)), oS (gPush (.int 1)), oBin (fun x y => x - y), tCmp (fun x y => !decide (x = y)) 2 1],
  [oLoadR 0, oGet 20 11 2, oS (gPush (.int 2)), oAald 20, oLoadR 3, oS (gPush (.int 0)), oS gDup2, oIald tb, oS gDupX2, oS (gPush (.int 1)), oBin (fun x y => x + y), oIast 20, oLoadI 1, oIast 20, tVret],
  [oS (gPush (.int 0)), oStoreI 4, tGo 3],
  [oLoadI 4, oLoadR 0, oGet 20 11 1, tCmp (fun x y => decide (y ≤ x)) 7 4],
  [oLoadI 2, oLoadI 4, oBin (fun x y => x >>> (y &&& 31)), oS (gPush (.int 1)), oBin (fun x y => x &&& y), tIf (fun x => !decide (x = 0)) 6 5],
  [oLoadR 0, oS (gPush (.int 10)), oLoadI 1, oBin (fun x y => x * y), oLoadI 4, oBin (fun x y => x + y), oS (gPush (.int 1)), oBin (fun x y => x + y), oLoadI 2, oS (gPush (.int 1)), oLoadI 4, oBin (fun x y => x <<< (y &&& 31)), oBin (fun x y => x ||| y), oLoadR 3, oCallV cl 129 3 11 20, tGo 6],
  [oIinc 4 1, tGo 3],
  [tVret]]
set_option maxRecDepth 100000 in
set_option maxHeartbeats 4000000 in
theorem mok_X12_fill {E : kE} {σ : List Nat} {l : Launch} {tb : List (List Int32)} (hE : kcl E = kCl) (hn : kn E = 20) (htb : ktb E = tb) : kMOK E (kXX (kb E) σ) σ kZs l kY kWS yX12_fill (kws yX12_fill cX12_fill 5 none) cX12_fill 5 none (fun cl => bl_X12_fill tb cl) := by
  intro d cl hS p e R s m args below meth c α0 nc0 ns0 res C hf hlo hr hnm hout
  have hXX : kXX (kb E) σ s := C.2.2.2.2.2.2.1.2.2.2.2
  refine ⟨fun b => [0, 12, 29, 32, 41, 50, 70, 76].getD b 0, rfl, kAllB_get (bl := bl_X12_fill tb cl) ⟨?_, ?_, ?_, ?_, ?_, ?_, ?_, ?_, trivial⟩⟩
  · exact (ch_cons (pc := 0) (pc' := 1) (ok_iloadn C dX12_fill_0 rfl) <| ch_cons (pc := 1) (pc' := 2) (ok_iconst C dX12_fill_1 (by decide)) <| ch_cons (pc := 2) (pc' := 3) (ok_aloadRn C dX12_fill_2 rfl) <| ch_cons (pc := 3) (pc' := 6) (ok_get C hn (fun w h => kG_in (inG_X12 w h)) (kcl_at hE 11 rfl) (by decide) (kG_in gw_515) (fun _ h => h) dX12_fill_3) <| ch_cons (pc := 6) (pc' := 7) (ok_ishl C dX12_fill_6) <| ch_cons (pc := 7) (pc' := 8) (ok_iconst C dX12_fill_7 (by decide)) <| ch_cons (pc := 8) (pc' := 9) (ok_isub C dX12_fill_8) <| ch_last (pc := 9) (ok_icmp_ne (tgt := 29) C dX12_fill_9 (by decide) rfl rfl))
  · exact (ch_cons (pc := 12) (pc' := 13) (ok_aloadRn C dX12_fill_12 rfl) <| ch_cons (pc := 13) (pc' := 16) (ok_get C hn (fun w h => kG_in (inG_X12 w h)) (kcl_at hE 11 rfl) (by decide) (kG_in gw_489) (fun _ h => h) dX12_fill_13) <| ch_cons (pc := 16) (pc' := 17) (ok_iconst C dX12_fill_16 (by decide)) <| ch_cons (pc := 17) (pc' := 18) (ok_aaload C hn dX12_fill_17) <| ch_cons (pc := 18) (pc' := 19) (ok_aloadRn C dX12_fill_18 rfl) <| ch_cons (pc := 19) (pc' := 20) (ok_iconst C dX12_fill_19 (by decide)) <| ch_cons (pc := 20) (pc' := 21) (ok_dup2 C dX12_fill_20) <| ch_cons (pc := 21) (pc' := 22) (ok_iaload C htb dX12_fill_21) <| ch_cons (pc := 22) (pc' := 23) (ok_dupx2 C dX12_fill_22) <| ch_cons (pc := 23) (pc' := 24) (ok_iconst C dX12_fill_23 (by decide)) <| ch_cons (pc := 24) (pc' := 25) (ok_iadd C dX12_fill_24) <| ch_cons (pc := 25) (pc' := 26) (ok_iastore C hn dX12_fill_25) <| ch_cons (pc := 26) (pc' := 27) (ok_iloadn C dX12_fill_26 rfl) <| ch_cons (pc := 27) (pc' := 28) (ok_iastore C hn dX12_fill_27) <| ch_last (pc := 28) (ok_return C hr dX12_fill_28))
  · exact (ch_cons (pc := 29) (pc' := 30) (ok_iconst C dX12_fill_29 (by decide)) <| ch_cons (pc := 30) (pc' := 32) (ok_istore C dX12_fill_30 (by decide)) <| ch_last (pc := 32) (ok_fall rfl))
  · exact (ch_cons (pc := 32) (pc' := 34) (ok_iload C dX12_fill_32) <| ch_cons (pc := 34) (pc' := 35) (ok_aloadRn C dX12_fill_34 rfl) <| ch_cons (pc := 35) (pc' := 38) (ok_get C hn (fun w h => kG_in (inG_X12 w h)) (kcl_at hE 11 rfl) (by decide) (kG_in gw_515) (fun _ h => h) dX12_fill_35) <| ch_last (pc := 38) (ok_icmp_ge (tgt := 76) C dX12_fill_38 (by decide) rfl rfl))
  · exact (ch_cons (pc := 41) (pc' := 42) (ok_iloadn C dX12_fill_41 rfl) <| ch_cons (pc := 42) (pc' := 44) (ok_iload C dX12_fill_42) <| ch_cons (pc := 44) (pc' := 45) (ok_ishr C dX12_fill_44) <| ch_cons (pc := 45) (pc' := 46) (ok_iconst C dX12_fill_45 (by decide)) <| ch_cons (pc := 46) (pc' := 47) (ok_iand C dX12_fill_46) <| ch_last (pc := 47) (ok_if_ne (tgt := 70) C dX12_fill_47 (by decide) rfl rfl))
  · exact (ch_cons (pc := 50) (pc' := 51) (ok_aloadRn C dX12_fill_50 rfl) <| ch_cons (pc := 51) (pc' := 53) (ok_bipush C dX12_fill_51 (by decide)) <| ch_cons (pc := 53) (pc' := 54) (ok_iloadn C dX12_fill_53 rfl) <| ch_cons (pc := 54) (pc' := 55) (ok_imul C dX12_fill_54) <| ch_cons (pc := 55) (pc' := 57) (ok_iload C dX12_fill_55) <| ch_cons (pc := 57) (pc' := 58) (ok_iadd C dX12_fill_57) <| ch_cons (pc := 58) (pc' := 59) (ok_iconst C dX12_fill_58 (by decide)) <| ch_cons (pc := 59) (pc' := 60) (ok_iadd C dX12_fill_59) <| ch_cons (pc := 60) (pc' := 61) (ok_iloadn C dX12_fill_60 rfl) <| ch_cons (pc := 61) (pc' := 62) (ok_iconst C dX12_fill_61 (by decide)) <| ch_cons (pc := 62) (pc' := 64) (ok_iload C dX12_fill_62) <| ch_cons (pc := 64) (pc' := 65) (ok_ishl C dX12_fill_64) <| ch_cons (pc := 65) (pc' := 66) (ok_ior C dX12_fill_65) <| ch_cons (pc := 66) (pc' := 67) (ok_aloadRn C dX12_fill_66 rfl) <| ch_cons (pc := 67) (pc' := 70) (ok_callV (d := d) (maxL := 5) C hn hout hf hlo (sn_129 hS) rfl (kcl_at hE 11 rfl) (kG_v gw_523 gw_524 gw_525 gw_526 gw_506) (by decide) (by decide +kernel) dX12_fill_67) <| ch_last (pc := 70) (ok_fall rfl))
  · exact (ch_cons (pc := 70) (pc' := 73) (ok_iinc C dX12_fill_70 (by decide) (by decide)) <| ch_last (pc := 73) (ok_goto (tgt := 32) C dX12_fill_73 (by decide) rfl))
  · exact (ch_last (pc := 76) (ok_return C hr dX12_fill_76))
/-- BijectoryModel.index(II)I -/
def bl_X12_index (tb : List (List Int32)) (cl : kCall) : List (List kOp) := [
  [oS (gPush (.int 0)), oStoreI 3, oLoadR 0, oGet 20 11 2, oLoadI 1, oAald 20, oAlen tb, oS (gPush (.int 1)), oBin (fun x y => x - y), oStoreI 4, tGo 1],
  [oLoadI 3, oLoadI 4, tCmp (fun x y => decide (y < x)) 8 2],
  [oLoadI 3, oLoadI 4, oBin (fun x y => x + y), oS (gPush (.int 2)), oBin0 (fun x y => x / y), oStoreI 5, oLoadR 0, oGet 20 11 2, oLoadI 1, oAald 20, oLoadI 5, oIald tb, oLoadI 2, tCmp (fun x y => !decide (x = y)) 4 3],
  [oLoadI 5, tIret],
  [oLoadR 0, oGet 20 11 2, oLoadI 1, oAald 20, oLoadI 5, oIald tb, oLoadI 2, tCmp (fun x y => decide (y ≤ x)) 6 5],
  [oLoadI 5, oS (gPush (.int 1)), oBin (fun x y => x + y), oStoreI 3, tGo 7],
  [oLoadI 5, oS (gPush (.int 1)), oBin (fun x y => x - y), oStoreI 4, tGo 7],
  [tGo 1],
  [oS (gPush (.int (-1))), tIret]]
set_option maxRecDepth 100000 in
set_option maxHeartbeats 4000000 in
theorem mok_X12_index {E : kE} {σ : List Nat} {l : Launch} {tb : List (List Int32)} (hE : kcl E = kCl) (hn : kn E = 20) (htb : ktb E = tb) : kMOK E (kXX (kb E) σ) σ kZs l kY kWS yX12_index (kws yX12_index cX12_index 6 (some .int)) cX12_index 6 (some .int) (fun cl => bl_X12_index tb cl) := by
  intro d cl hS p e R s m args below meth c α0 nc0 ns0 res C hf hlo hr hnm hout
  have hXX : kXX (kb E) σ s := C.2.2.2.2.2.2.1.2.2.2.2
  refine ⟨fun b => [0, 13, 19, 40, 43, 56, 64, 70, 73].getD b 0, rfl, kAllB_get (bl := bl_X12_index tb cl) ⟨?_, ?_, ?_, ?_, ?_, ?_, ?_, ?_, ?_, trivial⟩⟩
  · exact (ch_cons (pc := 0) (pc' := 1) (ok_iconst C dX12_index_0 (by decide)) <| ch_cons (pc := 1) (pc' := 2) (ok_istoren C dX12_index_1 rfl (by decide)) <| ch_cons (pc := 2) (pc' := 3) (ok_aloadRn C dX12_index_2 rfl) <| ch_cons (pc := 3) (pc' := 6) (ok_get C hn (fun w h => kG_in (inG_X12 w h)) (kcl_at hE 11 rfl) (by decide) (kG_in gw_489) (fun _ h => h) dX12_index_3) <| ch_cons (pc := 6) (pc' := 7) (ok_iloadn C dX12_index_6 rfl) <| ch_cons (pc := 7) (pc' := 8) (ok_aaload C hn dX12_index_7) <| ch_cons (pc := 8) (pc' := 9) (ok_alen C htb dX12_index_8) <| ch_cons (pc := 9) (pc' := 10) (ok_iconst C dX12_index_9 (by decide)) <| ch_cons (pc := 10) (pc' := 11) (ok_isub C dX12_index_10) <| ch_cons (pc := 11) (pc' := 13) (ok_istore C dX12_index_11 (by decide)) <| ch_last (pc := 13) (ok_fall rfl))
  · exact (ch_cons (pc := 13) (pc' := 14) (ok_iloadn C dX12_index_13 rfl) <| ch_cons (pc := 14) (pc' := 16) (ok_iload C dX12_index_14) <| ch_last (pc := 16) (ok_icmp_gt (tgt := 73) C dX12_index_16 (by decide) rfl rfl))
  · exact (ch_cons (pc := 19) (pc' := 20) (ok_iloadn C dX12_index_19 rfl) <| ch_cons (pc := 20) (pc' := 22) (ok_iload C dX12_index_20) <| ch_cons (pc := 22) (pc' := 23) (ok_iadd C dX12_index_22) <| ch_cons (pc := 23) (pc' := 24) (ok_iconst C dX12_index_23 (by decide)) <| ch_cons (pc := 24) (pc' := 25) (ok_idiv C dX12_index_24) <| ch_cons (pc := 25) (pc' := 27) (ok_istore C dX12_index_25 (by decide)) <| ch_cons (pc := 27) (pc' := 28) (ok_aloadRn C dX12_index_27 rfl) <| ch_cons (pc := 28) (pc' := 31) (ok_get C hn (fun w h => kG_in (inG_X12 w h)) (kcl_at hE 11 rfl) (by decide) (kG_in gw_489) (fun _ h => h) dX12_index_28) <| ch_cons (pc := 31) (pc' := 32) (ok_iloadn C dX12_index_31 rfl) <| ch_cons (pc := 32) (pc' := 33) (ok_aaload C hn dX12_index_32) <| ch_cons (pc := 33) (pc' := 35) (ok_iload C dX12_index_33) <| ch_cons (pc := 35) (pc' := 36) (ok_iaload C htb dX12_index_35) <| ch_cons (pc := 36) (pc' := 37) (ok_iloadn C dX12_index_36 rfl) <| ch_last (pc := 37) (ok_icmp_ne (tgt := 43) C dX12_index_37 (by decide) rfl rfl))
  · exact (ch_cons (pc := 40) (pc' := 42) (ok_iload C dX12_index_40) <| ch_last (pc := 42) (ok_ireturn C hr dX12_index_42))
  · exact (ch_cons (pc := 43) (pc' := 44) (ok_aloadRn C dX12_index_43 rfl) <| ch_cons (pc := 44) (pc' := 47) (ok_get C hn (fun w h => kG_in (inG_X12 w h)) (kcl_at hE 11 rfl) (by decide) (kG_in gw_489) (fun _ h => h) dX12_index_44) <| ch_cons (pc := 47) (pc' := 48) (ok_iloadn C dX12_index_47 rfl) <| ch_cons (pc := 48) (pc' := 49) (ok_aaload C hn dX12_index_48) <| ch_cons (pc := 49) (pc' := 51) (ok_iload C dX12_index_49) <| ch_cons (pc := 51) (pc' := 52) (ok_iaload C htb dX12_index_51) <| ch_cons (pc := 52) (pc' := 53) (ok_iloadn C dX12_index_52 rfl) <| ch_last (pc := 53) (ok_icmp_ge (tgt := 64) C dX12_index_53 (by decide) rfl rfl))
  · exact (ch_cons (pc := 56) (pc' := 58) (ok_iload C dX12_index_56) <| ch_cons (pc := 58) (pc' := 59) (ok_iconst C dX12_index_58 (by decide)) <| ch_cons (pc := 59) (pc' := 60) (ok_iadd C dX12_index_59) <| ch_cons (pc := 60) (pc' := 61) (ok_istoren C dX12_index_60 rfl (by decide)) <| ch_last (pc := 61) (ok_goto (tgt := 70) C dX12_index_61 (by decide) rfl))
  · exact (ch_cons (pc := 64) (pc' := 66) (ok_iload C dX12_index_64) <| ch_cons (pc := 66) (pc' := 67) (ok_iconst C dX12_index_66 (by decide)) <| ch_cons (pc := 67) (pc' := 68) (ok_isub C dX12_index_67) <| ch_cons (pc := 68) (pc' := 70) (ok_istore C dX12_index_68 (by decide)) <| ch_last (pc := 70) (ok_fall rfl))
  · exact (ch_last (pc := 70) (ok_goto (tgt := 13) C dX12_index_70 (by decide) rfl))
  · exact (ch_cons (pc := 73) (pc' := 74) (ok_iconst C dX12_index_73 (by decide)) <| ch_last (pc := 74) (ok_ireturn C hr dX12_index_74))
/-- BijectoryModel.first(II)I -/
def bl_X12_first (tb : List (List Int32)) (cl : kCall) : List (List kOp) := [
  [oS (gPush (.int 0)), oStoreI 2, oLoadI 1, oS (gPush (.int 1)), oBin (fun x y => x - y), oStoreI 3, tGo 1],
  [oLoadI 3, tIf (fun x => decide (x < 0)) 8 2],
  [oLoadI 2, oLoadI 0, oLoadI 3, oBin (fun x y => x >>> (y &&& 31)), oS (gPush (.int 1)), oBin (fun x y => x &&& y), oS (gPush (.int 1)), tCmp (fun x y => !decide (x = y)) 4 3],
  [oS (gPush (.int 1)), tGo 5],
  [oS (gPush (.int (-1))), tGo 5],
  [oBin (fun x y => x + y), oStoreI 2, oLoadI 2, tIf (fun x => !decide (x = 0)) 7 6],
  [oLoadI 1, oLoadI 3, oBin (fun x y => x - y), tIret],
  [oIinc 3 (-1), tGo 1],
  [oLoadI 1, tIret]]
set_option maxRecDepth 100000 in
set_option maxHeartbeats 4000000 in
theorem mok_X12_first {E : kE} {σ : List Nat} {l : Launch} {tb : List (List Int32)} (hE : kcl E = kCl) (hn : kn E = 20) (htb : ktb E = tb) : kMOK E (kXX (kb E) σ) σ kZs l kY kWS yX12_first (kws yX12_first cX12_first 4 (some .int)) cX12_first 4 (some .int) (fun cl => bl_X12_first tb cl) := by
  intro d cl hS p e R s m args below meth c α0 nc0 ns0 res C hf hlo hr hnm hout
  have hXX : kXX (kb E) σ s := C.2.2.2.2.2.2.1.2.2.2.2
  refine ⟨fun b => [0, 6, 10, 20, 24, 25, 31, 35, 41].getD b 0, rfl, kAllB_get (bl := bl_X12_first tb cl) ⟨?_, ?_, ?_, ?_, ?_, ?_, ?_, ?_, ?_, trivial⟩⟩
  · exact (ch_cons (pc := 0) (pc' := 1) (ok_iconst C dX12_first_0 (by decide)) <| ch_cons (pc := 1) (pc' := 2) (ok_istoren C dX12_first_1 rfl (by decide)) <| ch_cons (pc := 2) (pc' := 3) (ok_iloadn C dX12_first_2 rfl) <| ch_cons (pc := 3) (pc' := 4) (ok_iconst C dX12_first_3 (by decide)) <| ch_cons (pc := 4) (pc' := 5) (ok_isub C dX12_first_4) <| ch_cons (pc := 5) (pc' := 6) (ok_istoren C dX12_first_5 rfl (by decide)) <| ch_last (pc := 6) (ok_fall rfl))
  · exact (ch_cons (pc := 6) (pc' := 7) (ok_iloadn C dX12_first_6 rfl) <| ch_last (pc := 7) (ok_if_lt (tgt := 41) C dX12_first_7 (by decide) rfl rfl))
  · exact (ch_cons (pc := 10) (pc' := 11) (ok_iloadn C dX12_first_10 rfl) <| ch_cons (pc := 11) (pc' := 12) (ok_iloadn C dX12_first_11 rfl) <| ch_cons (pc := 12) (pc' := 13) (ok_iloadn C dX12_first_12 rfl) <| ch_cons (pc := 13) (pc' := 14) (ok_ishr C dX12_first_13) <| ch_cons (pc := 14) (pc' := 15) (ok_iconst C dX12_first_14 (by decide)) <| ch_cons (pc := 15) (pc' := 16) (ok_iand C dX12_first_15) <| ch_cons (pc := 16) (pc' := 17) (ok_iconst C dX12_first_16 (by decide)) <| ch_last (pc := 17) (ok_icmp_ne (tgt := 24) C dX12_first_17 (by decide) rfl rfl))
  · exact (ch_cons (pc := 20) (pc' := 21) (ok_iconst C dX12_first_20 (by decide)) <| ch_last (pc := 21) (ok_goto (tgt := 25) C dX12_first_21 (by decide) rfl))
  · exact (ch_cons (pc := 24) (pc' := 25) (ok_iconst C dX12_first_24 (by decide)) <| ch_last (pc := 25) (ok_fall rfl))
  · exact (ch_cons (pc := 25) (pc' := 26) (ok_iadd C dX12_first_25) <| ch_cons (pc := 26) (pc' := 27) (ok_istoren C dX12_first_26 rfl (by decide)) <| ch_cons (pc := 27) (pc' := 28) (ok_iloadn C dX12_first_27 rfl) <| ch_last (pc := 28) (ok_if_ne (tgt := 35) C dX12_first_28 (by decide) rfl rfl))
  · exact (ch_cons (pc := 31) (pc' := 32) (ok_iloadn C dX12_first_31 rfl) <| ch_cons (pc := 32) (pc' := 33) (ok_iloadn C dX12_first_32 rfl) <| ch_cons (pc := 33) (pc' := 34) (ok_isub C dX12_first_33) <| ch_last (pc := 34) (ok_ireturn C hr dX12_first_34))
  · exact (ch_cons (pc := 35) (pc' := 38) (ok_iinc C dX12_first_35 (by decide) (by decide)) <| ch_last (pc := 38) (ok_goto (tgt := 6) C dX12_first_38 (by decide) rfl))
  · exact (ch_cons (pc := 41) (pc' := 42) (ok_iloadn C dX12_first_41 rfl) <| ch_last (pc := 42) (ok_ireturn C hr dX12_first_42))
/-- BijectoryModel.part(IIII)I -/
def bl_X12_part (tb : List (List Int32)) (cl : kCall) : List (List kOp) := [
  [oLoadI 0, oLoadI 1, oLoadI 2, oBin (fun x y => x - y), oLoadI 3, oBin (fun x y => x - y), oBin (fun x y => x >>> (y &&& 31)), oS (gPush (.int 1)), oLoadI 3, oBin (fun x y => x <<< (y &&& 31)), oS (gPush (.int 1)), oBin (fun x y => x - y), oBin (fun x y => x &&& y), tIret]]
set_option maxRecDepth 100000 in
set_option maxHeartbeats 4000000 in
theorem mok_X12_part {E : kE} {σ : List Nat} {l : Launch} {tb : List (List Int32)} (hE : kcl E = kCl) (hn : kn E = 20) (htb : ktb E = tb) : kMOK E (kXX (kb E) σ) σ kZs l kY kWS yX12_part (kws yX12_part cX12_part 4 (some .int)) cX12_part 4 (some .int) (fun cl => bl_X12_part tb cl) := by
  intro d cl hS p e R s m args below meth c α0 nc0 ns0 res C hf hlo hr hnm hout
  have hXX : kXX (kb E) σ s := C.2.2.2.2.2.2.1.2.2.2.2
  refine ⟨fun b => [0].getD b 0, rfl, kAllB_get (bl := bl_X12_part tb cl) ⟨?_, trivial⟩⟩
  · exact (ch_cons (pc := 0) (pc' := 1) (ok_iloadn C dX12_part_0 rfl) <| ch_cons (pc := 1) (pc' := 2) (ok_iloadn C dX12_part_1 rfl) <| ch_cons (pc := 2) (pc' := 3) (ok_iloadn C dX12_part_2 rfl) <| ch_cons (pc := 3) (pc' := 4) (ok_isub C dX12_part_3) <| ch_cons (pc := 4) (pc' := 5) (ok_iloadn C dX12_part_4 rfl) <| ch_cons (pc := 5) (pc' := 6) (ok_isub C dX12_part_5) <| ch_cons (pc := 6) (pc' := 7) (ok_ishr C dX12_part_6) <| ch_cons (pc := 7) (pc' := 8) (ok_iconst C dX12_part_7 (by decide)) <| ch_cons (pc := 8) (pc' := 9) (ok_iloadn C dX12_part_8 rfl) <| ch_cons (pc := 9) (pc' := 10) (ok_ishl C dX12_part_9) <| ch_cons (pc := 10) (pc' := 11) (ok_iconst C dX12_part_10 (by decide)) <| ch_cons (pc := 11) (pc' := 12) (ok_isub C dX12_part_11) <| ch_cons (pc := 12) (pc' := 13) (ok_iand C dX12_part_12) <| ch_last (pc := 13) (ok_ireturn C hr dX12_part_13))
/-- BijectoryModel.read(I)V -/
def bl_X12_read (tb : List (List Int32)) (cl : kCall) : List (List kOp) := [
  [oLoadI 1, oStoreI 2, oLoadR 0, oGet 20 11 1, oS (gPush (.int 1)), oBin (fun x y => x - y), oStoreI 3, tGo 1],
  [oLoadI 3, tIf (fun x => decide (x < 0)) 3 2],
  [oLoadR 0, oGet 20 11 8, oLoadI 3, oLoadI 2, oS (gPush (.int 10)), oBin0 (fun x y => x - x / y * y), oIast 20, oLoadI 2, oS (gPush (.int 10)), oBin0 (fun x y => x / y), oStoreI 2, oIinc 3 (-1), tGo 1],
  [tVret]]
set_option maxRecDepth 100000 in
set_option maxHeartbeats 4000000 in
theorem mok_X12_read {E : kE} {σ : List Nat} {l : Launch} {tb : List (List Int32)} (hE : kcl E = kCl) (hn : kn E = 20) (htb : ktb E = tb) : kMOK E (kXX (kb E) σ) σ kZs l kY kWS yX12_read (kws yX12_read cX12_read 4 none) cX12_read 4 none (fun cl => bl_X12_read tb cl) := by
  intro d cl hS p e R s m args below meth c α0 nc0 ns0 res C hf hlo hr hnm hout
  have hXX : kXX (kb E) σ s := C.2.2.2.2.2.2.1.2.2.2.2
  refine ⟨fun b => [0, 9, 13, 34].getD b 0, rfl, kAllB_get (bl := bl_X12_read tb cl) ⟨?_, ?_, ?_, ?_, trivial⟩⟩
  · exact (ch_cons (pc := 0) (pc' := 1) (ok_iloadn C dX12_read_0 rfl) <| ch_cons (pc := 1) (pc' := 2) (ok_istoren C dX12_read_1 rfl (by decide)) <| ch_cons (pc := 2) (pc' := 3) (ok_aloadRn C dX12_read_2 rfl) <| ch_cons (pc := 3) (pc' := 6) (ok_get C hn (fun w h => kG_in (inG_X12 w h)) (kcl_at hE 11 rfl) (by decide) (kG_in gw_515) (fun _ h => h) dX12_read_3) <| ch_cons (pc := 6) (pc' := 7) (ok_iconst C dX12_read_6 (by decide)) <| ch_cons (pc := 7) (pc' := 8) (ok_isub C dX12_read_7) <| ch_cons (pc := 8) (pc' := 9) (ok_istoren C dX12_read_8 rfl (by decide)) <| ch_last (pc := 9) (ok_fall rfl))
  · exact (ch_cons (pc := 9) (pc' := 10) (ok_iloadn C dX12_read_9 rfl) <| ch_last (pc := 10) (ok_if_lt (tgt := 34) C dX12_read_10 (by decide) rfl rfl))
  · exact (ch_cons (pc := 13) (pc' := 14) (ok_aloadRn C dX12_read_13 rfl) <| ch_cons (pc := 14) (pc' := 17) (ok_get C hn (fun w h => kG_in (inG_X12 w h)) (kcl_at hE 11 rfl) (by decide) (kG_in gw_499) (fun _ h => h) dX12_read_14) <| ch_cons (pc := 17) (pc' := 18) (ok_iloadn C dX12_read_17 rfl) <| ch_cons (pc := 18) (pc' := 19) (ok_iloadn C dX12_read_18 rfl) <| ch_cons (pc := 19) (pc' := 21) (ok_bipush C dX12_read_19 (by decide)) <| ch_cons (pc := 21) (pc' := 22) (ok_irem C dX12_read_21) <| ch_cons (pc := 22) (pc' := 23) (ok_iastore C hn dX12_read_22) <| ch_cons (pc := 23) (pc' := 24) (ok_iloadn C dX12_read_23 rfl) <| ch_cons (pc := 24) (pc' := 26) (ok_bipush C dX12_read_24 (by decide)) <| ch_cons (pc := 26) (pc' := 27) (ok_idiv C dX12_read_26) <| ch_cons (pc := 27) (pc' := 28) (ok_istoren C dX12_read_27 rfl (by decide)) <| ch_cons (pc := 28) (pc' := 31) (ok_iinc C dX12_read_28 (by decide) (by decide)) <| ch_last (pc := 31) (ok_goto (tgt := 9) C dX12_read_31 (by decide) rfl))
  · exact (ch_last (pc := 34) (ok_return C hr dX12_read_34))
/-- BijectoryModel.written()I -/
def bl_X12_written (tb : List (List Int32)) (cl : kCall) : List (List kOp) := [
  [oS (gPush (.int 0)), oStoreI 1, oS (gPush (.int 0)), oStoreI 2, tGo 1],
  [oLoadI 2, oLoadR 0, oGet 20 11 1, tCmp (fun x y => decide (y ≤ x)) 3 2],
  [oS (gPush (.int 10)), oLoadI 1, oBin (fun x y => x * y), oLoadR 0, oGet 20 11 9, oLoadI 2, oIald tb, oBin (fun x y => x + y), oStoreI 1, oIinc 2 1, tGo 1],
  [oLoadI 1, tIret]]
set_option maxRecDepth 100000 in
set_option maxHeartbeats 4000000 in
theorem mok_X12_written {E : kE} {σ : List Nat} {l : Launch} {tb : List (List Int32)} (hE : kcl E = kCl) (hn : kn E = 20) (htb : ktb E = tb) : kMOK E (kXX (kb E) σ) σ kZs l kY kWS yX12_written (kws yX12_written cX12_written 3 (some .int)) cX12_written 3 (some .int) (fun cl => bl_X12_written tb cl) := by
  intro d cl hS p e R s m args below meth c α0 nc0 ns0 res C hf hlo hr hnm hout
  have hXX : kXX (kb E) σ s := C.2.2.2.2.2.2.1.2.2.2.2
  refine ⟨fun b => [0, 4, 12, 30].getD b 0, rfl, kAllB_get (bl := bl_X12_written tb cl) ⟨?_, ?_, ?_, ?_, trivial⟩⟩
  · exact (ch_cons (pc := 0) (pc' := 1) (ok_iconst C dX12_written_0 (by decide)) <| ch_cons (pc := 1) (pc' := 2) (ok_istoren C dX12_written_1 rfl (by decide)) <| ch_cons (pc := 2) (pc' := 3) (ok_iconst C dX12_written_2 (by decide)) <| ch_cons (pc := 3) (pc' := 4) (ok_istoren C dX12_written_3 rfl (by decide)) <| ch_last (pc := 4) (ok_fall rfl))
  · exact (ch_cons (pc := 4) (pc' := 5) (ok_iloadn C dX12_written_4 rfl) <| ch_cons (pc := 5) (pc' := 6) (ok_aloadRn C dX12_written_5 rfl) <| ch_cons (pc := 6) (pc' := 9) (ok_get C hn (fun w h => kG_in (inG_X12 w h)) (kcl_at hE 11 rfl) (by decide) (kG_in gw_515) (fun _ h => h) dX12_written_6) <| ch_last (pc := 9) (ok_icmp_ge (tgt := 30) C dX12_written_9 (by decide) rfl rfl))
  · exact (ch_cons (pc := 12) (pc' := 14) (ok_bipush C dX12_written_12 (by decide)) <| ch_cons (pc := 14) (pc' := 15) (ok_iloadn C dX12_written_14 rfl) <| ch_cons (pc := 15) (pc' := 16) (ok_imul C dX12_written_15) <| ch_cons (pc := 16) (pc' := 17) (ok_aloadRn C dX12_written_16 rfl) <| ch_cons (pc := 17) (pc' := 20) (ok_get C hn (fun w h => kG_in (inG_X12 w h)) (kcl_at hE 11 rfl) (by decide) (kG_in gw_500) (fun _ h => h) dX12_written_17) <| ch_cons (pc := 20) (pc' := 21) (ok_iloadn C dX12_written_20 rfl) <| ch_cons (pc := 21) (pc' := 22) (ok_iaload C htb dX12_written_21) <| ch_cons (pc := 22) (pc' := 23) (ok_iadd C dX12_written_22) <| ch_cons (pc := 23) (pc' := 24) (ok_istoren C dX12_written_23 rfl (by decide)) <| ch_cons (pc := 24) (pc' := 27) (ok_iinc C dX12_written_24 (by decide) (by decide)) <| ch_last (pc := 27) (ok_goto (tgt := 4) C dX12_written_27 (by decide) rfl))
  · exact (ch_cons (pc := 30) (pc' := 31) (ok_iloadn C dX12_written_30 rfl) <| ch_last (pc := 31) (ok_ireturn C hr dX12_written_31))
/-- BijectoryModel.sort(I)I -/
def bl_X12_sort (tb : List (List Int32)) (cl : kCall) : List (List kOp) := [
  [oLoadR 0, oLoadI 1, oCallV cl 133 1 11 20, oS (gPush (.int 0)), oStoreI 2, oS (gPush (.int 0)), oStoreI 3, oS (gPush (.int 0)), oStoreI 4, tGo 1],
  [oLoadI 4, oLoadR 0, oGet 20 11 1, tCmp (fun x y => decide (y ≤ x)) 6 2],
  [oLoadI 2, tIf (fun x => decide (x ≤ 0)) 5 3],
  [oLoadR 0, oGet 20 11 10, oLoadI 2, oS (gPush (.int 1)), oBin (fun x y => x - y), oIald tb, oLoadR 0, oGet 20 11 8, oLoadI 4, oIald tb, tCmp (fun x y => decide (y ≤ x)) 5 4],
  [oLoadR 0, oGet 20 11 9, oLoadI 3, oIinc 3 1, oLoadR 0, oGet 20 11 10, oIinc 2 (-1), oLoadI 2, oIald tb, oIast 20, tGo 2],
  [oLoadR 0, oGet 20 11 10, oLoadI 2, oIinc 2 1, oLoadR 0, oGet 20 11 8, oLoadI 4, oIald tb, oIast 20, oIinc 4 1, tGo 1],
  [oLoadI 2, tIf (fun x => decide (x ≤ 0)) 8 7],
  [oLoadR 0, oGet 20 11 9, oLoadI 3, oIinc 3 1, oLoadR 0, oGet 20 11 10, oIinc 2 (-1), oLoadI 2, oIald tb, oIast 20, tGo 6],
  [oLoadR 0, oCallV cl 134 0 11 20, tIret]]
set_option maxRecDepth 100000 in
set_option maxHeartbeats 4000000 in
theorem mok_X12_sort {E : kE} {σ : List Nat} {l : Launch} {tb : List (List Int32)} (hE : kcl E = kCl) (hn : kn E = 20) (htb : ktb E = tb) : kMOK E (kXX (kb E) σ) σ kZs l kY kWS yX12_sort (kws yX12_sort cX12_sort 5 (some .int)) cX12_sort 5 (some .int) (fun cl => bl_X12_sort tb cl) := by
  intro d cl hS p e R s m args below meth c α0 nc0 ns0 res C hf hlo hr hnm hout
  have hXX : kXX (kb E) σ s := C.2.2.2.2.2.2.1.2.2.2.2
  refine ⟨fun b => [0, 12, 21, 25, 43, 64, 86, 90, 111].getD b 0, rfl, kAllB_get (bl := bl_X12_sort tb cl) ⟨?_, ?_, ?_, ?_, ?_, ?_, ?_, ?_, ?_, trivial⟩⟩
  · exact (ch_cons (pc := 0) (pc' := 1) (ok_aloadRn C dX12_sort_0 rfl) <| ch_cons (pc := 1) (pc' := 2) (ok_iloadn C dX12_sort_1 rfl) <| ch_cons (pc := 2) (pc' := 5) (ok_callV (d := d) (maxL := 4) C hn hout hf hlo (sn_133 hS) rfl (kcl_at hE 11 rfl) (kG_v gw_527 gw_528 gw_529 gw_530 gw_506) (by decide) (by decide +kernel) dX12_sort_2) <| ch_cons (pc := 5) (pc' := 6) (ok_iconst C dX12_sort_5 (by decide)) <| ch_cons (pc := 6) (pc' := 7) (ok_istoren C dX12_sort_6 rfl (by decide)) <| ch_cons (pc := 7) (pc' := 8) (ok_iconst C dX12_sort_7 (by decide)) <| ch_cons (pc := 8) (pc' := 9) (ok_istoren C dX12_sort_8 rfl (by decide)) <| ch_cons (pc := 9) (pc' := 10) (ok_iconst C dX12_sort_9 (by decide)) <| ch_cons (pc := 10) (pc' := 12) (ok_istore C dX12_sort_10 (by decide)) <| ch_last (pc := 12) (ok_fall rfl))
  · exact (ch_cons (pc := 12) (pc' := 14) (ok_iload C dX12_sort_12) <| ch_cons (pc := 14) (pc' := 15) (ok_aloadRn C dX12_sort_14 rfl) <| ch_cons (pc := 15) (pc' := 18) (ok_get C hn (fun w h => kG_in (inG_X12 w h)) (kcl_at hE 11 rfl) (by decide) (kG_in gw_515) (fun _ h => h) dX12_sort_15) <| ch_last (pc := 18) (ok_icmp_ge (tgt := 86) C dX12_sort_18 (by decide) rfl rfl))
  · exact (ch_cons (pc := 21) (pc' := 22) (ok_iloadn C dX12_sort_21 rfl) <| ch_last (pc := 22) (ok_if_le (tgt := 64) C dX12_sort_22 (by decide) rfl rfl))
  · exact (ch_cons (pc := 25) (pc' := 26) (ok_aloadRn C dX12_sort_25 rfl) <| ch_cons (pc := 26) (pc' := 29) (ok_get C hn (fun w h => kG_in (inG_X12 w h)) (kcl_at hE 11 rfl) (by decide) (kG_in gw_501) (fun _ h => h) dX12_sort_26) <| ch_cons (pc := 29) (pc' := 30) (ok_iloadn C dX12_sort_29 rfl) <| ch_cons (pc := 30) (pc' := 31) (ok_iconst C dX12_sort_30 (by decide)) <| ch_cons (pc := 31) (pc' := 32) (ok_isub C dX12_sort_31) <| ch_cons (pc := 32) (pc' := 33) (ok_iaload C htb dX12_sort_32) <| ch_cons (pc := 33) (pc' := 34) (ok_aloadRn C dX12_sort_33 rfl) <| ch_cons (pc := 34) (pc' := 37) (ok_get C hn (fun w h => kG_in (inG_X12 w h)) (kcl_at hE 11 rfl) (by decide) (kG_in gw_499) (fun _ h => h) dX12_sort_34) <| ch_cons (pc := 37) (pc' := 39) (ok_iload C dX12_sort_37) <| ch_cons (pc := 39) (pc' := 40) (ok_iaload C htb dX12_sort_39) <| ch_last (pc := 40) (ok_icmp_ge (tgt := 64) C dX12_sort_40 (by decide) rfl rfl))
  · exact (ch_cons (pc := 43) (pc' := 44) (ok_aloadRn C dX12_sort_43 rfl) <| ch_cons (pc := 44) (pc' := 47) (ok_get C hn (fun w h => kG_in (inG_X12 w h)) (kcl_at hE 11 rfl) (by decide) (kG_in gw_500) (fun _ h => h) dX12_sort_44) <| ch_cons (pc := 47) (pc' := 48) (ok_iloadn C dX12_sort_47 rfl) <| ch_cons (pc := 48) (pc' := 51) (ok_iinc C dX12_sort_48 (by decide) (by decide)) <| ch_cons (pc := 51) (pc' := 52) (ok_aloadRn C dX12_sort_51 rfl) <| ch_cons (pc := 52) (pc' := 55) (ok_get C hn (fun w h => kG_in (inG_X12 w h)) (kcl_at hE 11 rfl) (by decide) (kG_in gw_501) (fun _ h => h) dX12_sort_52) <| ch_cons (pc := 55) (pc' := 58) (ok_iinc C dX12_sort_55 (by decide) (by decide)) <| ch_cons (pc := 58) (pc' := 59) (ok_iloadn C dX12_sort_58 rfl) <| ch_cons (pc := 59) (pc' := 60) (ok_iaload C htb dX12_sort_59) <| ch_cons (pc := 60) (pc' := 61) (ok_iastore C hn dX12_sort_60) <| ch_last (pc := 61) (ok_goto (tgt := 21) C dX12_sort_61 (by decide) rfl))
  · exact (ch_cons (pc := 64) (pc' := 65) (ok_aloadRn C dX12_sort_64 rfl) <| ch_cons (pc := 65) (pc' := 68) (ok_get C hn (fun w h => kG_in (inG_X12 w h)) (kcl_at hE 11 rfl) (by decide) (kG_in gw_501) (fun _ h => h) dX12_sort_65) <| ch_cons (pc := 68) (pc' := 69) (ok_iloadn C dX12_sort_68 rfl) <| ch_cons (pc := 69) (pc' := 72) (ok_iinc C dX12_sort_69 (by decide) (by decide)) <| ch_cons (pc := 72) (pc' := 73) (ok_aloadRn C dX12_sort_72 rfl) <| ch_cons (pc := 73) (pc' := 76) (ok_get C hn (fun w h => kG_in (inG_X12 w h)) (kcl_at hE 11 rfl) (by decide) (kG_in gw_499) (fun _ h => h) dX12_sort_73) <| ch_cons (pc := 76) (pc' := 78) (ok_iload C dX12_sort_76) <| ch_cons (pc := 78) (pc' := 79) (ok_iaload C htb dX12_sort_78) <| ch_cons (pc := 79) (pc' := 80) (ok_iastore C hn dX12_sort_79) <| ch_cons (pc := 80) (pc' := 83) (ok_iinc C dX12_sort_80 (by decide) (by decide)) <| ch_last (pc := 83) (ok_goto (tgt := 12) C dX12_sort_83 (by decide) rfl))
  · exact (ch_cons (pc := 86) (pc' := 87) (ok_iloadn C dX12_sort_86 rfl) <| ch_last (pc := 87) (ok_if_le (tgt := 111) C dX12_sort_87 (by decide) rfl rfl))
  · exact (ch_cons (pc := 90) (pc' := 91) (ok_aloadRn C dX12_sort_90 rfl) <| ch_cons (pc := 91) (pc' := 94) (ok_get C hn (fun w h => kG_in (inG_X12 w h)) (kcl_at hE 11 rfl) (by decide) (kG_in gw_500) (fun _ h => h) dX12_sort_91) <| ch_cons (pc := 94) (pc' := 95) (ok_iloadn C dX12_sort_94 rfl) <| ch_cons (pc := 95) (pc' := 98) (ok_iinc C dX12_sort_95 (by decide) (by decide)) <| ch_cons (pc := 98) (pc' := 99) (ok_aloadRn C dX12_sort_98 rfl) <| ch_cons (pc := 99) (pc' := 102) (ok_get C hn (fun w h => kG_in (inG_X12 w h)) (kcl_at hE 11 rfl) (by decide) (kG_in gw_501) (fun _ h => h) dX12_sort_99) <| ch_cons (pc := 102) (pc' := 105) (ok_iinc C dX12_sort_102 (by decide) (by decide)) <| ch_cons (pc := 105) (pc' := 106) (ok_iloadn C dX12_sort_105 rfl) <| ch_cons (pc := 106) (pc' := 107) (ok_iaload C htb dX12_sort_106) <| ch_cons (pc := 107) (pc' := 108) (ok_iastore C hn dX12_sort_107) <| ch_last (pc := 108) (ok_goto (tgt := 86) C dX12_sort_108 (by decide) rfl))
  · exact (ch_cons (pc := 111) (pc' := 112) (ok_aloadRn C dX12_sort_111 rfl) <| ch_cons (pc := 112) (pc' := 115) (ok_callV (d := d) (maxL := 3) C hn hout hf hlo (sn_134 hS) rfl (kcl_at hE 11 rfl) (kG_v gw_531 gw_532 gw_533 gw_534 gw_506) (by decide) (by decide +kernel) dX12_sort_112) <| ch_last (pc := 115) (ok_ireturn C hr dX12_sort_115))
/-- BijectoryModel.ofPath(II)I -/
def bl_X12_ofPath (tb : List (List Int32)) (cl : kCall) : List (List kOp) := [
  [oS (gPush (.int 4)), oNewa 20 100, oStoreR 3, oS (gPush (.int 0)), oStoreI 4, oS (gPush (.int 2)), oLoadR 0, oGet 20 11 1, oBin (fun x y => x * y), oS (gPush (.int 1)), oBin (fun x y => x - y), oStoreI 5, tGo 1],
  [oLoadI 5, tIf (fun x => decide (x < 0)) 16 2],
  [oLoadI 2, oLoadI 5, oBin (fun x y => x >>> (y &&& 31)), oS (gPush (.int 1)), oBin (fun x y => x &&& y), oS (gPush (.int 1)), tCmp (fun x y => !decide (x = y)) 4 3],
  [oS (gPush (.int 1)), tGo 5],
  [oS (gPush (.int 0)), tGo 5],
  [oStoreI 6, oLoadI 4, oLoadI 6, tIf (fun x => decide (x = 0)) 7 6],
  [oS (gPush (.int 1)), tGo 8],
  [oS (gPush (.int (-1))), tGo 8],
  [oBin (fun x y => x + y), oStoreI 4, oLoadR 3, oS (gPush (.int 0)), oS gDup2, oIald tb, oLoadI 6, tIf (fun x => decide (x = 0)) 11 9],
  [oLoadI 2, oLoadI 5, oS (gPush (.int 1)), oBin (fun x y => x - y), oBin (fun x y => x >>> (y &&& 31)), oS (gPush (.int 1)), oBin (fun x y => x &&& y), tIf (fun x => !decide (x = 0)) 11 10],
  [oS (gPush (.int 1)), tGo 12],
  [oS (gPush (.int 0)), tGo 12],
  [oBin (fun x y => x + y), oIast 20, oLoadR 3, oS (gPush (.int 1)), oS gDup2, oIald tb, oLoadI 4, tIf (fun x => !decide (x = 0)) 14 13],
  [oS (gPush (.int 1)), tGo 15],
  [oS (gPush (.int 0)), tGo 15],
  [oBin (fun x y => x + y), oIast 20, oLoadR 3, oS (gPush (.int 2)), oLoadR 3, oS (gPush (.int 2)), oIald tb, oLoadI 4, oMax true, oIast 20, oLoadR 3, oS (gPush (.int 3)), oS gDup2, oIald tb, oLoadI 4, oBin (fun x y => x + y), oIast 20, oIinc 5 (-1), tGo 1],
  [oLoadR 3, oLoadI 1, oIald tb, tIret]]
set_option maxRecDepth 100000 in
set_option maxHeartbeats 4000000 in
theorem mok_X12_ofPath {E : kE} {σ : List Nat} {l : Launch} {tb : List (List Int32)} (hE : kcl E = kCl) (hn : kn E = 20) (htb : ktb E = tb) : kMOK E (kXX (kb E) σ) σ kZs l kY kWS yX12_ofPath (kws yX12_ofPath cX12_ofPath 7 (some .int)) cX12_ofPath 7 (some .int) (fun cl => bl_X12_ofPath tb cl) := by
  intro d cl hS p e R s m args below meth c α0 nc0 ns0 res C hf hlo hr hnm hout
  have hXX : kXX (kb E) σ s := C.2.2.2.2.2.2.1.2.2.2.2
  refine ⟨fun b => [0, 17, 22, 32, 36, 37, 46, 50, 51, 63, 74, 78, 79, 90, 94, 95, 122].getD b 0, rfl, kAllB_get (bl := bl_X12_ofPath tb cl) ⟨?_, ?_, ?_, ?_, ?_, ?_, ?_, ?_, ?_, ?_, ?_, ?_, ?_, ?_, ?_, ?_, ?_, trivial⟩⟩
  · exact (ch_cons (pc := 0) (pc' := 1) (ok_iconst C dX12_ofPath_0 (by decide)) <| ch_cons (pc := 1) (pc' := 3) (ok_newa C hn (by decide) rfl rfl (by decide) (fun _ h => by cases h) (kG_in gw_109) dX12_ofPath_1) <| ch_cons (pc := 3) (pc' := 4) (ok_astoreRn C dX12_ofPath_3 rfl (by decide)) <| ch_cons (pc := 4) (pc' := 5) (ok_iconst C dX12_ofPath_4 (by decide)) <| ch_cons (pc := 5) (pc' := 7) (ok_istore C dX12_ofPath_5 (by decide)) <| ch_cons (pc := 7) (pc' := 8) (ok_iconst C dX12_ofPath_7 (by decide)) <| ch_cons (pc := 8) (pc' := 9) (ok_aloadRn C dX12_ofPath_8 rfl) <| ch_cons (pc := 9) (pc' := 12) (ok_get C hn (fun w h => kG_in (inG_X12 w h)) (kcl_at hE 11 rfl) (by decide) (kG_in gw_515) (fun _ h => h) dX12_ofPath_9) <| ch_cons (pc := 12) (pc' := 13) (ok_imul C dX12_ofPath_12) <| ch_cons (pc := 13) (pc' := 14) (ok_iconst C dX12_ofPath_13 (by decide)) <| ch_cons (pc := 14) (pc' := 15) (ok_isub C dX12_ofPath_14) <| ch_cons (pc := 15) (pc' := 17) (ok_istore C dX12_ofPath_15 (by decide)) <| ch_last (pc := 17) (ok_fall rfl))
  · exact (ch_cons (pc := 17) (pc' := 19) (ok_iload C dX12_ofPath_17) <| ch_last (pc := 19) (ok_if_lt (tgt := 122) C dX12_ofPath_19 (by decide) rfl rfl))
  · exact (ch_cons (pc := 22) (pc' := 23) (ok_iloadn C dX12_ofPath_22 rfl) <| ch_cons (pc := 23) (pc' := 25) (ok_iload C dX12_ofPath_23) <| ch_cons (pc := 25) (pc' := 26) (ok_ishr C dX12_ofPath_25) <| ch_cons (pc := 26) (pc' := 27) (ok_iconst C dX12_ofPath_26 (by decide)) <| ch_cons (pc := 27) (pc' := 28) (ok_iand C dX12_ofPath_27) <| ch_cons (pc := 28) (pc' := 29) (ok_iconst C dX12_ofPath_28 (by decide)) <| ch_last (pc := 29) (ok_icmp_ne (tgt := 36) C dX12_ofPath_29 (by decide) rfl rfl))
  · exact (ch_cons (pc := 32) (pc' := 33) (ok_iconst C dX12_ofPath_32 (by decide)) <| ch_last (pc := 33) (ok_goto (tgt := 37) C dX12_ofPath_33 (by decide) rfl))
  · exact (ch_cons (pc := 36) (pc' := 37) (ok_iconst C dX12_ofPath_36 (by decide)) <| ch_last (pc := 37) (ok_fall rfl))
  · exact (ch_cons (pc := 37) (pc' := 39) (ok_istore C dX12_ofPath_37 (by decide)) <| ch_cons (pc := 39) (pc' := 41) (ok_iload C dX12_ofPath_39) <| ch_cons (pc := 41) (pc' := 43) (ok_iload C dX12_ofPath_41) <| ch_last (pc := 43) (ok_if_eq (tgt := 50) C dX12_ofPath_43 (by decide) rfl rfl))
  · exact (ch_cons (pc := 46) (pc' := 47) (ok_iconst C dX12_ofPath_46 (by decide)) <| ch_last (pc := 47) (ok_goto (tgt := 51) C dX12_ofPath_47 (by decide) rfl))
  · exact (ch_cons (pc := 50) (pc' := 51) (ok_iconst C dX12_ofPath_50 (by decide)) <| ch_last (pc := 51) (ok_fall rfl))
  · exact (ch_cons (pc := 51) (pc' := 52) (ok_iadd C dX12_ofPath_51) <| ch_cons (pc := 52) (pc' := 54) (ok_istore C dX12_ofPath_52 (by decide)) <| ch_cons (pc := 54) (pc' := 55) (ok_aloadRn C dX12_ofPath_54 rfl) <| ch_cons (pc := 55) (pc' := 56) (ok_iconst C dX12_ofPath_55 (by decide)) <| ch_cons (pc := 56) (pc' := 57) (ok_dup2 C dX12_ofPath_56) <| ch_cons (pc := 57) (pc' := 58) (ok_iaload C htb dX12_ofPath_57) <| ch_cons (pc := 58) (pc' := 60) (ok_iload C dX12_ofPath_58) <| ch_last (pc := 60) (ok_if_eq (tgt := 78) C dX12_ofPath_60 (by decide) rfl rfl))
  · exact (ch_cons (pc := 63) (pc' := 64) (ok_iloadn C dX12_ofPath_63 rfl) <| ch_cons (pc := 64) (pc' := 66) (ok_iload C dX12_ofPath_64) <| ch_cons (pc := 66) (pc' := 67) (ok_iconst C dX12_ofPath_66 (by decide)) <| ch_cons (pc := 67) (pc' := 68) (ok_isub C dX12_ofPath_67) <| ch_cons (pc := 68) (pc' := 69) (ok_ishr C dX12_ofPath_68) <| ch_cons (pc := 69) (pc' := 70) (ok_iconst C dX12_ofPath_69 (by decide)) <| ch_cons (pc := 70) (pc' := 71) (ok_iand C dX12_ofPath_70) <| ch_last (pc := 71) (ok_if_ne (tgt := 78) C dX12_ofPath_71 (by decide) rfl rfl))
  · exact (ch_cons (pc := 74) (pc' := 75) (ok_iconst C dX12_ofPath_74 (by decide)) <| ch_last (pc := 75) (ok_goto (tgt := 79) C dX12_ofPath_75 (by decide) rfl))
  · exact (ch_cons (pc := 78) (pc' := 79) (ok_iconst C dX12_ofPath_78 (by decide)) <| ch_last (pc := 79) (ok_fall rfl))
  · exact (ch_cons (pc := 79) (pc' := 80) (ok_iadd C dX12_ofPath_79) <| ch_cons (pc := 80) (pc' := 81) (ok_iastore C hn dX12_ofPath_80) <| ch_cons (pc := 81) (pc' := 82) (ok_aloadRn C dX12_ofPath_81 rfl) <| ch_cons (pc := 82) (pc' := 83) (ok_iconst C dX12_ofPath_82 (by decide)) <| ch_cons (pc := 83) (pc' := 84) (ok_dup2 C dX12_ofPath_83) <| ch_cons (pc := 84) (pc' := 85) (ok_iaload C htb dX12_ofPath_84) <| ch_cons (pc := 85) (pc' := 87) (ok_iload C dX12_ofPath_85) <| ch_last (pc := 87) (ok_if_ne (tgt := 94) C dX12_ofPath_87 (by decide) rfl rfl))
  · exact (ch_cons (pc := 90) (pc' := 91) (ok_iconst C dX12_ofPath_90 (by decide)) <| ch_last (pc := 91) (ok_goto (tgt := 95) C dX12_ofPath_91 (by decide) rfl))
  · exact (ch_cons (pc := 94) (pc' := 95) (ok_iconst C dX12_ofPath_94 (by decide)) <| ch_last (pc := 95) (ok_fall rfl))
  · exact (ch_cons (pc := 95) (pc' := 96) (ok_iadd C dX12_ofPath_95) <| ch_cons (pc := 96) (pc' := 97) (ok_iastore C hn dX12_ofPath_96) <| ch_cons (pc := 97) (pc' := 98) (ok_aloadRn C dX12_ofPath_97 rfl) <| ch_cons (pc := 98) (pc' := 99) (ok_iconst C dX12_ofPath_98 (by decide)) <| ch_cons (pc := 99) (pc' := 100) (ok_aloadRn C dX12_ofPath_99 rfl) <| ch_cons (pc := 100) (pc' := 101) (ok_iconst C dX12_ofPath_100 (by decide)) <| ch_cons (pc := 101) (pc' := 102) (ok_iaload C htb dX12_ofPath_101) <| ch_cons (pc := 102) (pc' := 104) (ok_iload C dX12_ofPath_102) <| ch_cons (pc := 104) (pc' := 107) (ok_max C (kG_in gw_535) (kG_in gw_36) (kG_in gw_37) (kG_in gw_38) dX12_ofPath_104) <| ch_cons (pc := 107) (pc' := 108) (ok_iastore C hn dX12_ofPath_107) <| ch_cons (pc := 108) (pc' := 109) (ok_aloadRn C dX12_ofPath_108 rfl) <| ch_cons (pc := 109) (pc' := 110) (ok_iconst C dX12_ofPath_109 (by decide)) <| ch_cons (pc := 110) (pc' := 111) (ok_dup2 C dX12_ofPath_110) <| ch_cons (pc := 111) (pc' := 112) (ok_iaload C htb dX12_ofPath_111) <| ch_cons (pc := 112) (pc' := 114) (ok_iload C dX12_ofPath_112) <| ch_cons (pc := 114) (pc' := 115) (ok_iadd C dX12_ofPath_114) <| ch_cons (pc := 115) (pc' := 116) (ok_iastore C hn dX12_ofPath_115) <| ch_cons (pc := 116) (pc' := 119) (ok_iinc C dX12_ofPath_116 (by decide) (by decide)) <| ch_last (pc := 119) (ok_goto (tgt := 17) C dX12_ofPath_119 (by decide) rfl))
  · exact (ch_cons (pc := 122) (pc' := 123) (ok_aloadRn C dX12_ofPath_122 rfl) <| ch_cons (pc := 123) (pc' := 124) (ok_iloadn C dX12_ofPath_123 rfl) <| ch_cons (pc := 124) (pc' := 125) (ok_iaload C htb dX12_ofPath_124) <| ch_last (pc := 125) (ok_ireturn C hr dX12_ofPath_125))
/-- BijectoryModel.tree(III)I -/
def bl_X12_tree (tb : List (List Int32)) (cl : kCall) : List (List kOp) := [
  [oLoadI 2, tIf (fun x => !decide (x = 0)) 2 1],
  [oS (gPush (.int 0)), tIret],
  [oLoadI 1, oLoadI 2, oCall cl 131 2, oS (gPush (.int 2)), oBin (fun x y => x - y), oStoreI 3, oLoadI 2, oLoadI 3, oBin (fun x y => x - y), oS (gPush (.int 2)), oBin (fun x y => x - y), oStoreI 4, oLoadI 0, oLoadI 1, oLoadI 2, oS (gPush (.int 1)), oLoadI 3, oCall cl 132 4, oLoadI 3, oCall cl 137 3, oStoreI 5, oLoadI 0, oLoadI 1, oLoadI 2, oLoadI 3, oS (gPush (.int 2)), oBin (fun x y => x + y), oLoadI 4, oCall cl 132 4, oLoadI 4, oCall cl 137 3, oStoreI 6, oLoadI 0, tTab 0 [3, 7, 8] 9],
  [oLoadI 2, oS (gPush (.int 2)), tCmp (fun x y => !decide (x = y)) 5 4],
  [oS (gPush (.int 1)), tGo 6],
  [oLoadI 5, oLoadI 6, oBin (fun x y => x + y), tGo 6],
  [tIret],
  [oS (gPush (.int 1)), oLoadI 5, oBin (fun x y => x + y), tIret],
  [oS (gPush (.int 1)), oLoadI 5, oLoadI 6, oMax true, oBin (fun x y => x + y), tIret],
  [oLoadI 5, oLoadI 6, oBin (fun x y => x + y), oLoadI 4, tIf (fun x => decide (x ≤ 0)) 11 10],
  [oS (gPush (.int 1)), tGo 12],
  [oS (gPush (.int 0)), tGo 12],
  [oBin (fun x y => x + y), tIret]]
set_option maxRecDepth 100000 in
set_option maxHeartbeats 4000000 in
theorem mok_X12_tree {E : kE} {σ : List Nat} {l : Launch} {tb : List (List Int32)} (hE : kcl E = kCl) (hn : kn E = 20) (htb : ktb E = tb) : kMOK E (kXX (kb E) σ) σ kZs l kY kWS yX12_tree (kws yX12_tree cX12_tree 7 (some .int)) cX12_tree 7 (some .int) (fun cl => bl_X12_tree tb cl) := by
  intro d cl hS p e R s m args below meth c α0 nc0 ns0 res C hf hlo hr hnm hout
  have hXX : kXX (kb E) σ s := C.2.2.2.2.2.2.1.2.2.2.2
  refine ⟨fun b => [0, 4, 6, 80, 85, 89, 94, 95, 100, 110, 120, 124, 125].getD b 0, rfl, kAllB_get (bl := bl_X12_tree tb cl) ⟨?_, ?_, ?_, ?_, ?_, ?_, ?_, ?_, ?_, ?_, ?_, ?_, ?_, trivial⟩⟩
  · exact (ch_cons (pc := 0) (pc' := 1) (ok_iloadn C dX12_tree_0 rfl) <| ch_last (pc := 1) (ok_if_ne (tgt := 6) C dX12_tree_1 (by decide) rfl rfl))
  · exact (ch_cons (pc := 4) (pc' := 5) (ok_iconst C dX12_tree_4 (by decide)) <| ch_last (pc := 5) (ok_ireturn C hr dX12_tree_5))
  · exact (ch_cons (pc := 6) (pc' := 7) (ok_iloadn C dX12_tree_6 rfl) <| ch_cons (pc := 7) (pc' := 8) (ok_iloadn C dX12_tree_7 rfl) <| ch_cons (pc := 8) (pc' := 11) (ok_callS (d := d) C hout hf hlo (sn_131 hS) rfl (kG_s gw_536 gw_537 gw_538 gw_506) (by decide) (by decide +kernel) dX12_tree_8) <| ch_cons (pc := 11) (pc' := 12) (ok_iconst C dX12_tree_11 (by decide)) <| ch_cons (pc := 12) (pc' := 13) (ok_isub C dX12_tree_12) <| ch_cons (pc := 13) (pc' := 14) (ok_istoren C dX12_tree_13 rfl (by decide)) <| ch_cons (pc := 14) (pc' := 15) (ok_iloadn C dX12_tree_14 rfl) <| ch_cons (pc := 15) (pc' := 16) (ok_iloadn C dX12_tree_15 rfl) <| ch_cons (pc := 16) (pc' := 17) (ok_isub C dX12_tree_16) <| ch_cons (pc := 17) (pc' := 18) (ok_iconst C dX12_tree_17 (by decide)) <| ch_cons (pc := 18) (pc' := 19) (ok_isub C dX12_tree_18) <| ch_cons (pc := 19) (pc' := 21) (ok_istore C dX12_tree_19 (by decide)) <| ch_cons (pc := 21) (pc' := 22) (ok_iloadn C dX12_tree_21 rfl) <| ch_cons (pc := 22) (pc' := 23) (ok_iloadn C dX12_tree_22 rfl) <| ch_cons (pc := 23) (pc' := 24) (ok_iloadn C dX12_tree_23 rfl) <| ch_cons (pc := 24) (pc' := 25) (ok_iconst C dX12_tree_24 (by decide)) <| ch_cons (pc := 25) (pc' := 26) (ok_iloadn C dX12_tree_25 rfl) <| ch_cons (pc := 26) (pc' := 29) (ok_callS (d := d) C hout hf hlo (sn_132 hS) rfl (kG_s gw_539 gw_540 gw_541 gw_506) (by decide) (by decide +kernel) dX12_tree_26) <| ch_cons (pc := 29) (pc' := 30) (ok_iloadn C dX12_tree_29 rfl) <| ch_cons (pc := 30) (pc' := 33) (ok_callS (d := d) C hout hf hlo (sn_137 hS) rfl (kG_s gw_542 gw_543 gw_544 gw_506) (by decide) (by decide +kernel) dX12_tree_30) <| ch_cons (pc := 33) (pc' := 35) (ok_istore C dX12_tree_33 (by decide)) <| ch_cons (pc := 35) (pc' := 36) (ok_iloadn C dX12_tree_35 rfl) <| ch_cons (pc := 36) (pc' := 37) (ok_iloadn C dX12_tree_36 rfl) <| ch_cons (pc := 37) (pc' := 38) (ok_iloadn C dX12_tree_37 rfl) <| ch_cons (pc := 38) (pc' := 39) (ok_iloadn C dX12_tree_38 rfl) <| ch_cons (pc := 39) (pc' := 40) (ok_iconst C dX12_tree_39 (by decide)) <| ch_cons (pc := 40) (pc' := 41) (ok_iadd C dX12_tree_40) <| ch_cons (pc := 41) (pc' := 43) (ok_iload C dX12_tree_41) <| ch_cons (pc := 43) (pc' := 46) (ok_callS (d := d) C hout hf hlo (sn_132 hS) rfl (kG_s gw_539 gw_540 gw_541 gw_506) (by decide) (by decide +kernel) dX12_tree_43) <| ch_cons (pc := 46) (pc' := 48) (ok_iload C dX12_tree_46) <| ch_cons (pc := 48) (pc' := 51) (ok_callS (d := d) C hout hf hlo (sn_137 hS) rfl (kG_s gw_542 gw_543 gw_544 gw_506) (by decide) (by decide +kernel) dX12_tree_48) <| ch_cons (pc := 51) (pc' := 53) (ok_istore C dX12_tree_51 (by decide)) <| ch_cons (pc := 53) (pc' := 54) (ok_iloadn C dX12_tree_53 rfl) <| ch_last (pc := 54) (ok_table (td := 110) C dX12_tree_54 (by decide) (by decide) (by decide) rfl))
  · exact (ch_cons (pc := 80) (pc' := 81) (ok_iloadn C dX12_tree_80 rfl) <| ch_cons (pc := 81) (pc' := 82) (ok_iconst C dX12_tree_81 (by decide)) <| ch_last (pc := 82) (ok_icmp_ne (tgt := 89) C dX12_tree_82 (by decide) rfl rfl))
  · exact (ch_cons (pc := 85) (pc' := 86) (ok_iconst C dX12_tree_85 (by decide)) <| ch_last (pc := 86) (ok_goto (tgt := 94) C dX12_tree_86 (by decide) rfl))
  · exact (ch_cons (pc := 89) (pc' := 91) (ok_iload C dX12_tree_89) <| ch_cons (pc := 91) (pc' := 93) (ok_iload C dX12_tree_91) <| ch_cons (pc := 93) (pc' := 94) (ok_iadd C dX12_tree_93) <| ch_last (pc := 94) (ok_fall rfl))
  · exact (ch_last (pc := 94) (ok_ireturn C hr dX12_tree_94))
  · exact (ch_cons (pc := 95) (pc' := 96) (ok_iconst C dX12_tree_95 (by decide)) <| ch_cons (pc := 96) (pc' := 98) (ok_iload C dX12_tree_96) <| ch_cons (pc := 98) (pc' := 99) (ok_iadd C dX12_tree_98) <| ch_last (pc := 99) (ok_ireturn C hr dX12_tree_99))
  · exact (ch_cons (pc := 100) (pc' := 101) (ok_iconst C dX12_tree_100 (by decide)) <| ch_cons (pc := 101) (pc' := 103) (ok_iload C dX12_tree_101) <| ch_cons (pc := 103) (pc' := 105) (ok_iload C dX12_tree_103) <| ch_cons (pc := 105) (pc' := 108) (ok_max C (kG_in gw_535) (kG_in gw_36) (kG_in gw_37) (kG_in gw_38) dX12_tree_105) <| ch_cons (pc := 108) (pc' := 109) (ok_iadd C dX12_tree_108) <| ch_last (pc := 109) (ok_ireturn C hr dX12_tree_109))
  · exact (ch_cons (pc := 110) (pc' := 112) (ok_iload C dX12_tree_110) <| ch_cons (pc := 112) (pc' := 114) (ok_iload C dX12_tree_112) <| ch_cons (pc := 114) (pc' := 115) (ok_iadd C dX12_tree_114) <| ch_cons (pc := 115) (pc' := 117) (ok_iload C dX12_tree_115) <| ch_last (pc := 117) (ok_if_le (tgt := 124) C dX12_tree_117 (by decide) rfl rfl))
  · exact (ch_cons (pc := 120) (pc' := 121) (ok_iconst C dX12_tree_120 (by decide)) <| ch_last (pc := 121) (ok_goto (tgt := 125) C dX12_tree_121 (by decide) rfl))
  · exact (ch_cons (pc := 124) (pc' := 125) (ok_iconst C dX12_tree_124 (by decide)) <| ch_last (pc := 125) (ok_fall rfl))
  · exact (ch_cons (pc := 125) (pc' := 126) (ok_iadd C dX12_tree_125) <| ch_last (pc := 126) (ok_ireturn C hr dX12_tree_126))
/-- BijectoryModel.ofOrder(II)I -/
def bl_X12_ofOrder (tb : List (List Int32)) (cl : kCall) : List (List kOp) := [
  [oLoadR 0, oLoadI 2, oCallV cl 133 1 11 20, oS (gPush (.int 0)), oStoreI 3, oS (gPush (.int 0)), oStoreI 4, oS (gPush (.int 0)), oStoreI 5, tGo 1],
  [oLoadI 5, oLoadR 0, oGet 20 11 1, tCmp (fun x y => decide (y ≤ x)) 29 2],
  [oLoadR 0, oGet 20 11 8, oLoadI 5, oIald tb, oLoadI 4, tCmp (fun x y => decide (x ≤ y)) 4 3],
  [oS (gPush (.int 1)), tGo 5],
  [oS (gPush (.int 0)), tGo 5],
  [oStoreI 6, oLoadI 4, oLoadR 0, oGet 20 11 8, oLoadI 5, oIald tb, oMax true, oStoreI 4, oLoadI 1, tIf (fun x => !decide (x = 0)) 11 6],
  [oLoadI 3, oLoadI 5, tIf (fun x => decide (x ≤ 0)) 9 7],
  [oLoadR 0, oGet 20 11 8, oLoadI 5, oS (gPush (.int 1)), oBin (fun x y => x - y), oIald tb, oLoadR 0, oGet 20 11 8, oLoadI 5, oIald tb, tCmp (fun x y => decide (x ≤ y)) 9 8],
  [oS (gPush (.int 1)), tGo 10],
  [oS (gPush (.int 0)), tGo 10],
  [oBin (fun x y => x + y), oStoreI 3, tGo 11],
  [oLoadI 1, oS (gPush (.int 2)), tCmp (fun x y => !decide (x = y)) 16 12],
  [oLoadI 3, oLoadI 6, tIf (fun x => decide (x = 0)) 14 13],
  [oS (gPush (.int 1)), tGo 15],
  [oS (gPush (.int 0)), tGo 15],
  [oBin (fun x y => x + y), oStoreI 3, tGo 16],
  [oLoadI 1, oS (gPush (.int 3)), tCmp (fun x y => !decide (x = y)) 21 17],
  [oLoadI 3, oLoadR 0, oGet 20 11 8, oLoadI 5, oIald tb, oLoadI 5, oS (gPush (.int 1)), oBin (fun x y => x + y), tCmp (fun x y => !decide (x = y)) 19 18],
  [oS (gPush (.int 1)), tGo 20],
  [oS (gPush (.int 0)), tGo 20],
  [oBin (fun x y => x + y), oStoreI 3, tGo 21],
  [oS (gPush (.int 0)), oStoreI 7, tGo 22],
  [oLoadI 7, oLoadI 5, tCmp (fun x y => decide (y ≤ x)) 28 23],
  [oLoadI 1, oS (gPush (.int 1)), tCmp (fun x y => !decide (x = y)) 28 24],
  [oLoadI 3, oLoadR 0, oGet 20 11 8, oLoadI 7, oIald tb, oLoadR 0, oGet 20 11 8, oLoadI 5, oIald tb, tCmp (fun x y => decide (x ≤ y)) 26 25],
  [oS (gPush (.int 1)), tGo 27],
  [oS (gPush (.int 0)), tGo 27],
  [oBin (fun x y => x + y), oStoreI 3, oIinc 7 1, tGo 22],
  [oIinc 5 1, tGo 1],
  [oLoadI 3, tIret]]
set_option maxRecDepth 100000 in
set_option maxHeartbeats 4000000 in
theorem mok_X12_ofOrder {E : kE} {σ : List Nat} {l : Launch} {tb : List (List Int32)} (hE : kcl E = kCl) (hn : kn E = 20) (htb : ktb E = tb) : kMOK E (kXX (kb E) σ) σ kZs l kY kWS yX12_ofOrder (kws yX12_ofOrder cX12_ofOrder 8 (some .int)) cX12_ofOrder 8 (some .int) (fun cl => bl_X12_ofOrder tb cl) := by
  intro d cl hS p e R s m args below meth c α0 nc0 ns0 res C hf hlo hr hnm hout
  have hXX : kXX (kb E) σ s := C.2.2.2.2.2.2.1.2.2.2.2
  refine ⟨fun b => [0, 13, 22, 34, 38, 39, 59, 65, 84, 88, 89, 91, 96, 102, 106, 107, 109, 114, 129, 133, 134, 136, 139, 146, 151, 169, 173, 174, 182, 188].getD b 0, rfl, kAllB_get (bl := bl_X12_ofOrder tb cl) ⟨?_, ?_, ?_, ?_, ?_, ?_, ?_, ?_, ?_, ?_, ?_, ?_, ?_, ?_, ?_, ?_, ?_, ?_, ?_, ?_, ?_, ?_, ?_, ?_, ?_, ?_, ?_, ?_, ?_, ?_, trivial⟩⟩
  · exact (ch_cons (pc := 0) (pc' := 1) (ok_aloadRn C dX12_ofOrder_0 rfl) <| ch_cons (pc := 1) (pc' := 2) (ok_iloadn C dX12_ofOrder_1 rfl) <| ch_cons (pc := 2) (pc' := 5) (ok_callV (d := d) (maxL := 4) C hn hout hf hlo (sn_133 hS) rfl (kcl_at hE 11 rfl) (kG_v gw_527 gw_528 gw_529 gw_530 gw_506) (by decide) (by decide +kernel) dX12_ofOrder_2) <| ch_cons (pc := 5) (pc' := 6) (ok_iconst C dX12_ofOrder_5 (by decide)) <| ch_cons (pc := 6) (pc' := 7) (ok_istoren C dX12_ofOrder_6 rfl (by decide)) <| ch_cons (pc := 7) (pc' := 8) (ok_iconst C dX12_ofOrder_7 (by decide)) <| ch_cons (pc := 8) (pc' := 10) (ok_istore C dX12_ofOrder_8 (by decide)) <| ch_cons (pc := 10) (pc' := 11) (ok_iconst C dX12_ofOrder_10 (by decide)) <| ch_cons (pc := 11) (pc' := 13) (ok_istore C dX12_ofOrder_11 (by decide)) <| ch_last (pc := 13) (ok_fall rfl))
  · exact (ch_cons (pc := 13) (pc' := 15) (ok_iload C dX12_ofOrder_13) <| ch_cons (pc := 15) (pc' := 16) (ok_aloadRn C dX12_ofOrder_15 rfl) <| ch_cons (pc := 16) (pc' := 19) (ok_get C hn (fun w h => kG_in (inG_X12 w h)) (kcl_at hE 11 rfl) (by decide) (kG_in gw_515) (fun _ h => h) dX12_ofOrder_16) <| ch_last (pc := 19) (ok_icmp_ge (tgt := 188) C dX12_ofOrder_19 (by decide) rfl rfl))
  · exact (ch_cons (pc := 22) (pc' := 23) (ok_aloadRn C dX12_ofOrder_22 rfl) <| ch_cons (pc := 23) (pc' := 26) (ok_get C hn (fun w h => kG_in (inG_X12 w h)) (kcl_at hE 11 rfl) (by decide) (kG_in gw_499) (fun _ h => h) dX12_ofOrder_23) <| ch_cons (pc := 26) (pc' := 28) (ok_iload C dX12_ofOrder_26) <| ch_cons (pc := 28) (pc' := 29) (ok_iaload C htb dX12_ofOrder_28) <| ch_cons (pc := 29) (pc' := 31) (ok_iload C dX12_ofOrder_29) <| ch_last (pc := 31) (ok_icmp_le (tgt := 38) C dX12_ofOrder_31 (by decide) rfl rfl))
  · exact (ch_cons (pc := 34) (pc' := 35) (ok_iconst C dX12_ofOrder_34 (by decide)) <| ch_last (pc := 35) (ok_goto (tgt := 39) C dX12_ofOrder_35 (by decide) rfl))
  · exact (ch_cons (pc := 38) (pc' := 39) (ok_iconst C dX12_ofOrder_38 (by decide)) <| ch_last (pc := 39) (ok_fall rfl))
  · exact (ch_cons (pc := 39) (pc' := 41) (ok_istore C dX12_ofOrder_39 (by decide)) <| ch_cons (pc := 41) (pc' := 43) (ok_iload C dX12_ofOrder_41) <| ch_cons (pc := 43) (pc' := 44) (ok_aloadRn C dX12_ofOrder_43 rfl) <| ch_cons (pc := 44) (pc' := 47) (ok_get C hn (fun w h => kG_in (inG_X12 w h)) (kcl_at hE 11 rfl) (by decide) (kG_in gw_499) (fun _ h => h) dX12_ofOrder_44) <| ch_cons (pc := 47) (pc' := 49) (ok_iload C dX12_ofOrder_47) <| ch_cons (pc := 49) (pc' := 50) (ok_iaload C htb dX12_ofOrder_49) <| ch_cons (pc := 50) (pc' := 53) (ok_max C (kG_in gw_535) (kG_in gw_36) (kG_in gw_37) (kG_in gw_38) dX12_ofOrder_50) <| ch_cons (pc := 53) (pc' := 55) (ok_istore C dX12_ofOrder_53 (by decide)) <| ch_cons (pc := 55) (pc' := 56) (ok_iloadn C dX12_ofOrder_55 rfl) <| ch_last (pc := 56) (ok_if_ne (tgt := 91) C dX12_ofOrder_56 (by decide) rfl rfl))
  · exact (ch_cons (pc := 59) (pc' := 60) (ok_iloadn C dX12_ofOrder_59 rfl) <| ch_cons (pc := 60) (pc' := 62) (ok_iload C dX12_ofOrder_60) <| ch_last (pc := 62) (ok_if_le (tgt := 88) C dX12_ofOrder_62 (by decide) rfl rfl))
  · exact (ch_cons (pc := 65) (pc' := 66) (ok_aloadRn C dX12_ofOrder_65 rfl) <| ch_cons (pc := 66) (pc' := 69) (ok_get C hn (fun w h => kG_in (inG_X12 w h)) (kcl_at hE 11 rfl) (by decide) (kG_in gw_499) (fun _ h => h) dX12_ofOrder_66) <| ch_cons (pc := 69) (pc' := 71) (ok_iload C dX12_ofOrder_69) <| ch_cons (pc := 71) (pc' := 72) (ok_iconst C dX12_ofOrder_71 (by decide)) <| ch_cons (pc := 72) (pc' := 73) (ok_isub C dX12_ofOrder_72) <| ch_cons (pc := 73) (pc' := 74) (ok_iaload C htb dX12_ofOrder_73) <| ch_cons (pc := 74) (pc' := 75) (ok_aloadRn C dX12_ofOrder_74 rfl) <| ch_cons (pc := 75) (pc' := 78) (ok_get C hn (fun w h => kG_in (inG_X12 w h)) (kcl_at hE 11 rfl) (by decide) (kG_in gw_499) (fun _ h => h) dX12_ofOrder_75) <| ch_cons (pc := 78) (pc' := 80) (ok_iload C dX12_ofOrder_78) <| ch_cons (pc := 80) (pc' := 81) (ok_iaload C htb dX12_ofOrder_80) <| ch_last (pc := 81) (ok_icmp_le (tgt := 88) C dX12_ofOrder_81 (by decide) rfl rfl))
  · exact (ch_cons (pc := 84) (pc' := 85) (ok_iconst C dX12_ofOrder_84 (by decide)) <| ch_last (pc := 85) (ok_goto (tgt := 89) C dX12_ofOrder_85 (by decide) rfl))
  · exact (ch_cons (pc := 88) (pc' := 89) (ok_iconst C dX12_ofOrder_88 (by decide)) <| ch_last (pc := 89) (ok_fall rfl))
  · exact (ch_cons (pc := 89) (pc' := 90) (ok_iadd C dX12_ofOrder_89) <| ch_cons (pc := 90) (pc' := 91) (ok_istoren C dX12_ofOrder_90 rfl (by decide)) <| ch_last (pc := 91) (ok_fall rfl))
  · exact (ch_cons (pc := 91) (pc' := 92) (ok_iloadn C dX12_ofOrder_91 rfl) <| ch_cons (pc := 92) (pc' := 93) (ok_iconst C dX12_ofOrder_92 (by decide)) <| ch_last (pc := 93) (ok_icmp_ne (tgt := 109) C dX12_ofOrder_93 (by decide) rfl rfl))
  · exact (ch_cons (pc := 96) (pc' := 97) (ok_iloadn C dX12_ofOrder_96 rfl) <| ch_cons (pc := 97) (pc' := 99) (ok_iload C dX12_ofOrder_97) <| ch_last (pc := 99) (ok_if_eq (tgt := 106) C dX12_ofOrder_99 (by decide) rfl rfl))
  · exact (ch_cons (pc := 102) (pc' := 103) (ok_iconst C dX12_ofOrder_102 (by decide)) <| ch_last (pc := 103) (ok_goto (tgt := 107) C dX12_ofOrder_103 (by decide) rfl))
  · exact (ch_cons (pc := 106) (pc' := 107) (ok_iconst C dX12_ofOrder_106 (by decide)) <| ch_last (pc := 107) (ok_fall rfl))
  · exact (ch_cons (pc := 107) (pc' := 108) (ok_iadd C dX12_ofOrder_107) <| ch_cons (pc := 108) (pc' := 109) (ok_istoren C dX12_ofOrder_108 rfl (by decide)) <| ch_last (pc := 109) (ok_fall rfl))
  · exact (ch_cons (pc := 109) (pc' := 110) (ok_iloadn C dX12_ofOrder_109 rfl) <| ch_cons (pc := 110) (pc' := 111) (ok_iconst C dX12_ofOrder_110 (by decide)) <| ch_last (pc := 111) (ok_icmp_ne (tgt := 136) C dX12_ofOrder_111 (by decide) rfl rfl))
  · exact (ch_cons (pc := 114) (pc' := 115) (ok_iloadn C dX12_ofOrder_114 rfl) <| ch_cons (pc := 115) (pc' := 116) (ok_aloadRn C dX12_ofOrder_115 rfl) <| ch_cons (pc := 116) (pc' := 119) (ok_get C hn (fun w h => kG_in (inG_X12 w h)) (kcl_at hE 11 rfl) (by decide) (kG_in gw_499) (fun _ h => h) dX12_ofOrder_116) <| ch_cons (pc := 119) (pc' := 121) (ok_iload C dX12_ofOrder_119) <| ch_cons (pc := 121) (pc' := 122) (ok_iaload C htb dX12_ofOrder_121) <| ch_cons (pc := 122) (pc' := 124) (ok_iload C dX12_ofOrder_122) <| ch_cons (pc := 124) (pc' := 125) (ok_iconst C dX12_ofOrder_124 (by decide)) <| ch_cons (pc := 125) (pc' := 126) (ok_iadd C dX12_ofOrder_125) <| ch_last (pc := 126) (ok_icmp_ne (tgt := 133) C dX12_ofOrder_126 (by decide) rfl rfl))
  · exact (ch_cons (pc := 129) (pc' := 130) (ok_iconst C dX12_ofOrder_129 (by decide)) <| ch_last (pc := 130) (ok_goto (tgt := 134) C dX12_ofOrder_130 (by decide) rfl))
  · exact (ch_cons (pc := 133) (pc' := 134) (ok_iconst C dX12_ofOrder_133 (by decide)) <| ch_last (pc := 134) (ok_fall rfl))
  · exact (ch_cons (pc := 134) (pc' := 135) (ok_iadd C dX12_ofOrder_134) <| ch_cons (pc := 135) (pc' := 136) (ok_istoren C dX12_ofOrder_135 rfl (by decide)) <| ch_last (pc := 136) (ok_fall rfl))
  · exact (ch_cons (pc := 136) (pc' := 137) (ok_iconst C dX12_ofOrder_136 (by decide)) <| ch_cons (pc := 137) (pc' := 139) (ok_istore C dX12_ofOrder_137 (by decide)) <| ch_last (pc := 139) (ok_fall rfl))
  · exact (ch_cons (pc := 139) (pc' := 141) (ok_iload C dX12_ofOrder_139) <| ch_cons (pc := 141) (pc' := 143) (ok_iload C dX12_ofOrder_141) <| ch_last (pc := 143) (ok_icmp_ge (tgt := 182) C dX12_ofOrder_143 (by decide) rfl rfl))
  · exact (ch_cons (pc := 146) (pc' := 147) (ok_iloadn C dX12_ofOrder_146 rfl) <| ch_cons (pc := 147) (pc' := 148) (ok_iconst C dX12_ofOrder_147 (by decide)) <| ch_last (pc := 148) (ok_icmp_ne (tgt := 182) C dX12_ofOrder_148 (by decide) rfl rfl))
  · exact (ch_cons (pc := 151) (pc' := 152) (ok_iloadn C dX12_ofOrder_151 rfl) <| ch_cons (pc := 152) (pc' := 153) (ok_aloadRn C dX12_ofOrder_152 rfl) <| ch_cons (pc := 153) (pc' := 156) (ok_get C hn (fun w h => kG_in (inG_X12 w h)) (kcl_at hE 11 rfl) (by decide) (kG_in gw_499) (fun _ h => h) dX12_ofOrder_153) <| ch_cons (pc := 156) (pc' := 158) (ok_iload C dX12_ofOrder_156) <| ch_cons (pc := 158) (pc' := 159) (ok_iaload C htb dX12_ofOrder_158) <| ch_cons (pc := 159) (pc' := 160) (ok_aloadRn C dX12_ofOrder_159 rfl) <| ch_cons (pc := 160) (pc' := 163) (ok_get C hn (fun w h => kG_in (inG_X12 w h)) (kcl_at hE 11 rfl) (by decide) (kG_in gw_499) (fun _ h => h) dX12_ofOrder_160) <| ch_cons (pc := 163) (pc' := 165) (ok_iload C dX12_ofOrder_163) <| ch_cons (pc := 165) (pc' := 166) (ok_iaload C htb dX12_ofOrder_165) <| ch_last (pc := 166) (ok_icmp_le (tgt := 173) C dX12_ofOrder_166 (by decide) rfl rfl))
  · exact (ch_cons (pc := 169) (pc' := 170) (ok_iconst C dX12_ofOrder_169 (by decide)) <| ch_last (pc := 170) (ok_goto (tgt := 174) C dX12_ofOrder_170 (by decide) rfl))
  · exact (ch_cons (pc := 173) (pc' := 174) (ok_iconst C dX12_ofOrder_173 (by decide)) <| ch_last (pc := 174) (ok_fall rfl))
  · exact (ch_cons (pc := 174) (pc' := 175) (ok_iadd C dX12_ofOrder_174) <| ch_cons (pc := 175) (pc' := 176) (ok_istoren C dX12_ofOrder_175 rfl (by decide)) <| ch_cons (pc := 176) (pc' := 179) (ok_iinc C dX12_ofOrder_176 (by decide) (by decide)) <| ch_last (pc := 179) (ok_goto (tgt := 139) C dX12_ofOrder_179 (by decide) rfl))
  · exact (ch_cons (pc := 182) (pc' := 185) (ok_iinc C dX12_ofOrder_182 (by decide) (by decide)) <| ch_last (pc := 185) (ok_goto (tgt := 13) C dX12_ofOrder_185 (by decide) rfl))
  · exact (ch_cons (pc := 188) (pc' := 189) (ok_iloadn C dX12_ofOrder_188 rfl) <| ch_last (pc := 189) (ok_ireturn C hr dX12_ofOrder_189))
/-- BijectoryModel.statisticOf(III)I -/
def bl_X12_statisticOf (tb : List (List Int32)) (cl : kCall) : List (List kOp) := [
  [oLoadI 1, tIf (fun x => !decide (x = 0)) 2 1],
  [oLoadR 0, oLoadI 2, oLoadI 3, oCallV cl 136 2 11 20, tGo 5],
  [oLoadI 1, oS (gPush (.int 1)), tCmp (fun x y => !decide (x = y)) 4 3],
  [oLoadI 2, oLoadI 3, oS (gPush (.int 2)), oLoadR 0, oGet 20 11 1, oBin (fun x y => x * y), oCall cl 137 3, tGo 5],
  [oLoadR 0, oLoadI 2, oLoadI 3, oCallV cl 138 2 11 20, tGo 5],
  [tIret]]
set_option maxRecDepth 100000 in
set_option maxHeartbeats 4000000 in
theorem mok_X12_statisticOf {E : kE} {σ : List Nat} {l : Launch} {tb : List (List Int32)} (hE : kcl E = kCl) (hn : kn E = 20) (htb : ktb E = tb) : kMOK E (kXX (kb E) σ) σ kZs l kY kWS yX12_statisticOf (kws yX12_statisticOf cX12_statisticOf 4 (some .int)) cX12_statisticOf 4 (some .int) (fun cl => bl_X12_statisticOf tb cl) := by
  intro d cl hS p e R s m args below meth c α0 nc0 ns0 res C hf hlo hr hnm hout
  have hXX : kXX (kb E) σ s := C.2.2.2.2.2.2.1.2.2.2.2
  refine ⟨fun b => [0, 4, 13, 18, 32, 38].getD b 0, rfl, kAllB_get (bl := bl_X12_statisticOf tb cl) ⟨?_, ?_, ?_, ?_, ?_, ?_, trivial⟩⟩
  · exact (ch_cons (pc := 0) (pc' := 1) (ok_iloadn C dX12_statisticOf_0 rfl) <| ch_last (pc := 1) (ok_if_ne (tgt := 13) C dX12_statisticOf_1 (by decide) rfl rfl))
  · exact (ch_cons (pc := 4) (pc' := 5) (ok_aloadRn C dX12_statisticOf_4 rfl) <| ch_cons (pc := 5) (pc' := 6) (ok_iloadn C dX12_statisticOf_5 rfl) <| ch_cons (pc := 6) (pc' := 7) (ok_iloadn C dX12_statisticOf_6 rfl) <| ch_cons (pc := 7) (pc' := 10) (ok_callV (d := d) (maxL := 7) C hn hout hf hlo (sn_136 hS) rfl (kcl_at hE 11 rfl) (kG_v gw_545 gw_546 gw_547 gw_548 gw_506) (by decide) (by decide +kernel) dX12_statisticOf_7) <| ch_last (pc := 10) (ok_goto (tgt := 38) C dX12_statisticOf_10 (by decide) rfl))
  · exact (ch_cons (pc := 13) (pc' := 14) (ok_iloadn C dX12_statisticOf_13 rfl) <| ch_cons (pc := 14) (pc' := 15) (ok_iconst C dX12_statisticOf_14 (by decide)) <| ch_last (pc := 15) (ok_icmp_ne (tgt := 32) C dX12_statisticOf_15 (by decide) rfl rfl))
  · exact (ch_cons (pc := 18) (pc' := 19) (ok_iloadn C dX12_statisticOf_18 rfl) <| ch_cons (pc := 19) (pc' := 20) (ok_iloadn C dX12_statisticOf_19 rfl) <| ch_cons (pc := 20) (pc' := 21) (ok_iconst C dX12_statisticOf_20 (by decide)) <| ch_cons (pc := 21) (pc' := 22) (ok_aloadRn C dX12_statisticOf_21 rfl) <| ch_cons (pc := 22) (pc' := 25) (ok_get C hn (fun w h => kG_in (inG_X12 w h)) (kcl_at hE 11 rfl) (by decide) (kG_in gw_515) (fun _ h => h) dX12_statisticOf_22) <| ch_cons (pc := 25) (pc' := 26) (ok_imul C dX12_statisticOf_25) <| ch_cons (pc := 26) (pc' := 29) (ok_callS (d := d) C hout hf hlo (sn_137 hS) rfl (kG_s gw_542 gw_543 gw_544 gw_506) (by decide) (by decide +kernel) dX12_statisticOf_26) <| ch_last (pc := 29) (ok_goto (tgt := 38) C dX12_statisticOf_29 (by decide) rfl))
  · exact (ch_cons (pc := 32) (pc' := 33) (ok_aloadRn C dX12_statisticOf_32 rfl) <| ch_cons (pc := 33) (pc' := 34) (ok_iloadn C dX12_statisticOf_33 rfl) <| ch_cons (pc := 34) (pc' := 35) (ok_iloadn C dX12_statisticOf_34 rfl) <| ch_cons (pc := 35) (pc' := 38) (ok_callV (d := d) (maxL := 8) C hn hout hf hlo (sn_138 hS) rfl (kcl_at hE 11 rfl) (kG_v gw_549 gw_550 gw_551 gw_552 gw_506) (by decide) (by decide +kernel) dX12_statisticOf_35) <| ch_last (pc := 38) (ok_fall rfl))
  · exact (ch_last (pc := 38) (ok_ireturn C hr dX12_statisticOf_38))
/-- BijectoryModel.statistics(II)[I -/
def bl_X12_statistics (tb : List (List Int32)) (cl : kCall) : List (List kOp) := [
  [oLoadR 0, oGet 20 11 2, oLoadI 1, oAald 20, oAlen tb, oNewa 20 100, oStoreR 3, oS (gPush (.int 0)), oStoreI 4, tGo 1],
  [oLoadI 4, oLoadR 3, oAlen tb, tCmp (fun x y => decide (y ≤ x)) 3 2],
  [oLoadR 3, oLoadI 4, oLoadR 0, oLoadI 1, oLoadI 2, oLoadR 0, oGet 20 11 2, oLoadI 1, oAald 20, oLoadI 4, oIald tb, oCallV cl 139 3 11 20, oIast 20, oIinc 4 1, tGo 1],
  [oLoadR 3, tAret]]
set_option maxRecDepth 100000 in
set_option maxHeartbeats 4000000 in
theorem mok_X12_statistics {E : kE} {σ : List Nat} {l : Launch} {tb : List (List Int32)} (hE : kcl E = kCl) (hn : kn E = 20) (htb : ktb E = tb) : kMOK E (kXX (kb E) σ) σ kZs l kY kWS yX12_statistics (kws yX12_statistics cX12_statistics 5 (some (.array .int))) cX12_statistics 5 (some (.array .int)) (fun cl => bl_X12_statistics tb cl) := by
  intro d cl hS p e R s m args below meth c α0 nc0 ns0 res C hf hlo hr hnm hout
  have hXX : kXX (kb E) σ s := C.2.2.2.2.2.2.1.2.2.2.2
  refine ⟨fun b => [0, 13, 20, 45].getD b 0, rfl, kAllB_get (bl := bl_X12_statistics tb cl) ⟨?_, ?_, ?_, ?_, trivial⟩⟩
  · exact (ch_cons (pc := 0) (pc' := 1) (ok_aloadRn C dX12_statistics_0 rfl) <| ch_cons (pc := 1) (pc' := 4) (ok_get C hn (fun w h => kG_in (inG_X12 w h)) (kcl_at hE 11 rfl) (by decide) (kG_in gw_489) (fun _ h => h) dX12_statistics_1) <| ch_cons (pc := 4) (pc' := 5) (ok_iloadn C dX12_statistics_4 rfl) <| ch_cons (pc := 5) (pc' := 6) (ok_aaload C hn dX12_statistics_5) <| ch_cons (pc := 6) (pc' := 7) (ok_alen C htb dX12_statistics_6) <| ch_cons (pc := 7) (pc' := 9) (ok_newa C hn (by decide) rfl rfl (by decide) (fun _ h => by cases h) (kG_in gw_109) dX12_statistics_7) <| ch_cons (pc := 9) (pc' := 10) (ok_astoreRn C dX12_statistics_9 rfl (by decide)) <| ch_cons (pc := 10) (pc' := 11) (ok_iconst C dX12_statistics_10 (by decide)) <| ch_cons (pc := 11) (pc' := 13) (ok_istore C dX12_statistics_11 (by decide)) <| ch_last (pc := 13) (ok_fall rfl))
  · exact (ch_cons (pc := 13) (pc' := 15) (ok_iload C dX12_statistics_13) <| ch_cons (pc := 15) (pc' := 16) (ok_aloadRn C dX12_statistics_15 rfl) <| ch_cons (pc := 16) (pc' := 17) (ok_alen C htb dX12_statistics_16) <| ch_last (pc := 17) (ok_icmp_ge (tgt := 45) C dX12_statistics_17 (by decide) rfl rfl))
  · exact (ch_cons (pc := 20) (pc' := 21) (ok_aloadRn C dX12_statistics_20 rfl) <| ch_cons (pc := 21) (pc' := 23) (ok_iload C dX12_statistics_21) <| ch_cons (pc := 23) (pc' := 24) (ok_aloadRn C dX12_statistics_23 rfl) <| ch_cons (pc := 24) (pc' := 25) (ok_iloadn C dX12_statistics_24 rfl) <| ch_cons (pc := 25) (pc' := 26) (ok_iloadn C dX12_statistics_25 rfl) <| ch_cons (pc := 26) (pc' := 27) (ok_aloadRn C dX12_statistics_26 rfl) <| ch_cons (pc := 27) (pc' := 30) (ok_get C hn (fun w h => kG_in (inG_X12 w h)) (kcl_at hE 11 rfl) (by decide) (kG_in gw_489) (fun _ h => h) dX12_statistics_27) <| ch_cons (pc := 30) (pc' := 31) (ok_iloadn C dX12_statistics_30 rfl) <| ch_cons (pc := 31) (pc' := 32) (ok_aaload C hn dX12_statistics_31) <| ch_cons (pc := 32) (pc' := 34) (ok_iload C dX12_statistics_32) <| ch_cons (pc := 34) (pc' := 35) (ok_iaload C htb dX12_statistics_34) <| ch_cons (pc := 35) (pc' := 38) (ok_callV (d := d) (maxL := 4) C hn hout hf hlo (sn_139 hS) rfl (kcl_at hE 11 rfl) (kG_v gw_553 gw_554 gw_555 gw_556 gw_506) (by decide) (by decide +kernel) dX12_statistics_35) <| ch_cons (pc := 38) (pc' := 39) (ok_iastore C hn dX12_statistics_38) <| ch_cons (pc := 39) (pc' := 42) (ok_iinc C dX12_statistics_39 (by decide) (by decide)) <| ch_last (pc := 42) (ok_goto (tgt := 13) C dX12_statistics_42 (by decide) rfl))
  · exact (ch_cons (pc := 45) (pc' := 46) (ok_aloadRn C dX12_statistics_45 rfl) <| ch_last (pc := 46) (ok_areturn C hr (Or.inr ⟨_, rfl⟩) dX12_statistics_46))
/-- BijectoryModel.sign(I)I -/
def bl_X12_sign (tb : List (List Int32)) (cl : kCall) : List (List kOp) := [
  [oLoadI 0, oS (gPush (.int 2)), oBin0 (fun x y => x - x / y * y), tIf (fun x => !decide (x = 0)) 2 1],
  [oS (gPush (.int 1)), tGo 3],
  [oS (gPush (.int (-1))), tGo 3],
  [tIret]]
set_option maxRecDepth 100000 in
set_option maxHeartbeats 4000000 in
theorem mok_X12_sign {E : kE} {σ : List Nat} {l : Launch} {tb : List (List Int32)} (hE : kcl E = kCl) (hn : kn E = 20) (htb : ktb E = tb) : kMOK E (kXX (kb E) σ) σ kZs l kY kWS yX12_sign (kws yX12_sign cX12_sign 1 (some .int)) cX12_sign 1 (some .int) (fun cl => bl_X12_sign tb cl) := by
  intro d cl hS p e R s m args below meth c α0 nc0 ns0 res C hf hlo hr hnm hout
  have hXX : kXX (kb E) σ s := C.2.2.2.2.2.2.1.2.2.2.2
  refine ⟨fun b => [0, 6, 10, 11].getD b 0, rfl, kAllB_get (bl := bl_X12_sign tb cl) ⟨?_, ?_, ?_, ?_, trivial⟩⟩
  · exact (ch_cons (pc := 0) (pc' := 1) (ok_iloadn C dX12_sign_0 rfl) <| ch_cons (pc := 1) (pc' := 2) (ok_iconst C dX12_sign_1 (by decide)) <| ch_cons (pc := 2) (pc' := 3) (ok_irem C dX12_sign_2) <| ch_last (pc := 3) (ok_if_ne (tgt := 10) C dX12_sign_3 (by decide) rfl rfl))
  · exact (ch_cons (pc := 6) (pc' := 7) (ok_iconst C dX12_sign_6 (by decide)) <| ch_last (pc := 7) (ok_goto (tgt := 11) C dX12_sign_7 (by decide) rfl))
  · exact (ch_cons (pc := 10) (pc' := 11) (ok_iconst C dX12_sign_10 (by decide)) <| ch_last (pc := 11) (ok_fall rfl))
  · exact (ch_last (pc := 11) (ok_ireturn C hr dX12_sign_11))
/-- BijectoryModel.size(I)I -/
def bl_X12_size (tb : List (List Int32)) (cl : kCall) : List (List kOp) := [
  [oLoadR 0, oLoadI 1, oS (gPush (.int 1)), oS (gPush (.int 6)), oCall cl 120 3, tIf (fun x => !decide (x = 0)) 2 1],
  [oS (gPush (.int 1)), tGo 3],
  [oS (gPush (.int 0)), tGo 3],
  [oS (gPush (.int 1)), oCallV cl 124 2 11 20, tIf (fun x => decide (x = 0)) 5 4],
  [oS (gPush (.int 0)), tIret],
  [oLoadR 0, oGet 20 11 4, oCallV cl 188 0 2 20, oStoreI 2, oLoadR 0, oGet 20 11 4, oCallV cl 191 0 2 20, oLoadR 0, oLoadI 1, oCallV cl 128 1 11 20, oLoadI 2, tIret]]
set_option maxRecDepth 100000 in
set_option maxHeartbeats 4000000 in
theorem mok_X12_size {E : kE} {σ : List Nat} {l : Launch} {tb : List (List Int32)} (hE : kcl E = kCl) (hn : kn E = 20) (htb : ktb E = tb) : kMOK E (kXX (kb E) σ) σ kZs l kY kWS yX12_size (kws yX12_size cX12_size 3 (some .int)) cX12_size 3 (some .int) (fun cl => bl_X12_size tb cl) := by
  intro d cl hS p e R s m args below meth c α0 nc0 ns0 res C hf hlo hr hnm hout
  have hXX : kXX (kb E) σ s := C.2.2.2.2.2.2.1.2.2.2.2
  refine ⟨fun b => [0, 11, 15, 16, 23, 25].getD b 0, rfl, kAllB_get (bl := bl_X12_size tb cl) ⟨?_, ?_, ?_, ?_, ?_, ?_, trivial⟩⟩
  · exact (ch_cons (pc := 0) (pc' := 1) (ok_aloadRn C dX12_size_0 rfl) <| ch_cons (pc := 1) (pc' := 2) (ok_iloadn C dX12_size_1 rfl) <| ch_cons (pc := 2) (pc' := 3) (ok_iconst C dX12_size_2 (by decide)) <| ch_cons (pc := 3) (pc' := 5) (ok_bipush C dX12_size_3 (by decide)) <| ch_cons (pc := 5) (pc' := 8) (ok_callS (d := d) C hout hf hlo (sn_120 hS) rfl (kG_s gw_557 gw_558 gw_559 gw_506) (by decide) (by decide +kernel) dX12_size_5) <| ch_last (pc := 8) (ok_if_ne (tgt := 15) C dX12_size_8 (by decide) rfl rfl))
  · exact (ch_cons (pc := 11) (pc' := 12) (ok_iconst C dX12_size_11 (by decide)) <| ch_last (pc := 12) (ok_goto (tgt := 16) C dX12_size_12 (by decide) rfl))
  · exact (ch_cons (pc := 15) (pc' := 16) (ok_iconst C dX12_size_15 (by decide)) <| ch_last (pc := 16) (ok_fall rfl))
  · exact (ch_cons (pc := 16) (pc' := 17) (ok_iconst C dX12_size_16 (by decide)) <| ch_cons (pc := 17) (pc' := 20) (ok_callV (d := d) (maxL := 3) C hn hout hf hlo (sn_124 hS) rfl (kcl_at hE 11 rfl) (kG_v gw_560 gw_561 gw_562 gw_563 gw_506) (by decide) (by decide +kernel) dX12_size_17) <| ch_last (pc := 20) (ok_if_eq (tgt := 25) C dX12_size_20 (by decide) rfl rfl))
  · exact (ch_cons (pc := 23) (pc' := 24) (ok_iconst C dX12_size_23 (by decide)) <| ch_last (pc := 24) (ok_ireturn C hr dX12_size_24))
  · exact (ch_cons (pc := 25) (pc' := 26) (ok_aloadRn C dX12_size_25 rfl) <| ch_cons (pc := 26) (pc' := 29) (ok_get C hn (fun w h => kG_in (inG_X12 w h)) (kcl_at hE 11 rfl) (by decide) (kG_in gw_497) (fun _ h => h) dX12_size_26) <| ch_cons (pc := 29) (pc' := 32) (ok_callV (d := d) (maxL := 1) C hn hout hf hlo (sn_188 hS) rfl (kcl_at hE 2 rfl) (kG_v gw_564 gw_565 gw_566 gw_567 gw_492) (by decide) (by decide +kernel) dX12_size_29) <| ch_cons (pc := 32) (pc' := 33) (ok_istoren C dX12_size_32 rfl (by decide)) <| ch_cons (pc := 33) (pc' := 34) (ok_aloadRn C dX12_size_33 rfl) <| ch_cons (pc := 34) (pc' := 37) (ok_get C hn (fun w h => kG_in (inG_X12 w h)) (kcl_at hE 11 rfl) (by decide) (kG_in gw_497) (fun _ h => h) dX12_size_34) <| ch_cons (pc := 37) (pc' := 40) (ok_callV (d := d) (maxL := 4) C hn hout hf hlo (sn_191 hS) rfl (kcl_at hE 2 rfl) (kG_v gw_568 gw_569 gw_570 gw_571 gw_492) (by decide) (by decide +kernel) dX12_size_37) <| ch_cons (pc := 40) (pc' := 41) (ok_aloadRn C dX12_size_40 rfl) <| ch_cons (pc := 41) (pc' := 42) (ok_iloadn C dX12_size_41 rfl) <| ch_cons (pc := 42) (pc' := 45) (ok_callV (d := d) (maxL := 6) C hn hout hf hlo (sn_128 hS) rfl (kcl_at hE 11 rfl) (kG_v gw_502 gw_503 gw_504 gw_505 gw_506) (by decide) (by decide +kernel) dX12_size_42) <| ch_cons (pc := 45) (pc' := 46) (ok_iloadn C dX12_size_45 rfl) <| ch_last (pc := 46) (ok_ireturn C hr dX12_size_46))
/-- BijectoryModel.map(I)I -/
def bl_X12_map (tb : List (List Int32)) (cl : kCall) : List (List kOp) := [
  [oLoadR 0, oLoadI 1, oS (gPush (.int 0)), oS (gPush (.int 10)), oCall cl 120 3, tIf (fun x => !decide (x = 0)) 2 1],
  [oS (gPush (.int 1)), tGo 3],
  [oS (gPush (.int 0)), tGo 3],
  [oS (gPush (.int 1)), oCallV cl 124 2 11 20, tIf (fun x => !decide (x = 0)) 8 4],
  [oLoadR 0, oLoadR 0, oGet 20 11 3, oCallV cl 188 0 2 20, oS (gPush (.int 8)), tCmp (fun x y => !decide (x = y)) 6 5],
  [oS (gPush (.int 1)), tGo 7],
  [oS (gPush (.int 0)), tGo 7],
  [oS (gPush (.int 2)), oCallV cl 123 2 11 20, tIf (fun x => decide (x = 0)) 9 8],
  [oS (gPush (.int 0)), tIret],
  [oNew 20 2 3 [.int 0, .null, .int 0], oS gDup, oCallI cl 185 0, oStoreR 2, oLoadR 2, oLoadI 1, oCall cl 40 1, oCallV cl 190 1 2 20, oS gPop, oLoadR 0, oGet 20 11 3, oLoadR 2, oCallV cl 190 1 2 20, oS gPop, oLoadR 0, oGet 20 11 3, oCallV cl 188 0 2 20, oS (gPush (.int 1)), oBin (fun x y => x - y), tIret]]
set_option maxRecDepth 100000 in
set_option maxHeartbeats 4000000 in
theorem mok_X12_map {E : kE} {σ : List Nat} {l : Launch} {tb : List (List Int32)} (hE : kcl E = kCl) (hn : kn E = 20) (htb : ktb E = tb) : kMOK E (kXX (kb E) σ) σ kZs l kY kWS yX12_map (kws yX12_map cX12_map 3 (some .int)) cX12_map 3 (some .int) (fun cl => bl_X12_map tb cl) := by
  intro d cl hS p e R s m args below meth c α0 nc0 ns0 res C hf hlo hr hnm hout
  have hXX : kXX (kb E) σ s := C.2.2.2.2.2.2.1.2.2.2.2
  refine ⟨fun b => [0, 11, 15, 16, 23, 36, 40, 41, 48, 50].getD b 0, rfl, kAllB_get (bl := bl_X12_map tb cl) ⟨?_, ?_, ?_, ?_, ?_, ?_, ?_, ?_, ?_, ?_, trivial⟩⟩
  · exact (ch_cons (pc := 0) (pc' := 1) (ok_aloadRn C dX12_map_0 rfl) <| ch_cons (pc := 1) (pc' := 2) (ok_iloadn C dX12_map_1 rfl) <| ch_cons (pc := 2) (pc' := 3) (ok_iconst C dX12_map_2 (by decide)) <| ch_cons (pc := 3) (pc' := 5) (ok_bipush C dX12_map_3 (by decide)) <| ch_cons (pc := 5) (pc' := 8) (ok_callS (d := d) C hout hf hlo (sn_120 hS) rfl (kG_s gw_557 gw_558 gw_559 gw_506) (by decide) (by decide +kernel) dX12_map_5) <| ch_last (pc := 8) (ok_if_ne (tgt := 15) C dX12_map_8 (by decide) rfl rfl))
  · exact (ch_cons (pc := 11) (pc' := 12) (ok_iconst C dX12_map_11 (by decide)) <| ch_last (pc := 12) (ok_goto (tgt := 16) C dX12_map_12 (by decide) rfl))
  · exact (ch_cons (pc := 15) (pc' := 16) (ok_iconst C dX12_map_15 (by decide)) <| ch_last (pc := 16) (ok_fall rfl))
  · exact (ch_cons (pc := 16) (pc' := 17) (ok_iconst C dX12_map_16 (by decide)) <| ch_cons (pc := 17) (pc' := 20) (ok_callV (d := d) (maxL := 3) C hn hout hf hlo (sn_124 hS) rfl (kcl_at hE 11 rfl) (kG_v gw_560 gw_561 gw_562 gw_563 gw_506) (by decide) (by decide +kernel) dX12_map_17) <| ch_last (pc := 20) (ok_if_ne (tgt := 48) C dX12_map_20 (by decide) rfl rfl))
  · exact (ch_cons (pc := 23) (pc' := 24) (ok_aloadRn C dX12_map_23 rfl) <| ch_cons (pc := 24) (pc' := 25) (ok_aloadRn C dX12_map_24 rfl) <| ch_cons (pc := 25) (pc' := 28) (ok_get C hn (fun w h => kG_in (inG_X12 w h)) (kcl_at hE 11 rfl) (by decide) (kG_in gw_496) (fun _ h => h) dX12_map_25) <| ch_cons (pc := 28) (pc' := 31) (ok_callV (d := d) (maxL := 1) C hn hout hf hlo (sn_188 hS) rfl (kcl_at hE 2 rfl) (kG_v gw_564 gw_565 gw_566 gw_567 gw_492) (by decide) (by decide +kernel) dX12_map_28) <| ch_cons (pc := 31) (pc' := 33) (ok_bipush C dX12_map_31 (by decide)) <| ch_last (pc := 33) (ok_icmp_ne (tgt := 40) C dX12_map_33 (by decide) rfl rfl))
  · exact (ch_cons (pc := 36) (pc' := 37) (ok_iconst C dX12_map_36 (by decide)) <| ch_last (pc := 37) (ok_goto (tgt := 41) C dX12_map_37 (by decide) rfl))
  · exact (ch_cons (pc := 40) (pc' := 41) (ok_iconst C dX12_map_40 (by decide)) <| ch_last (pc := 41) (ok_fall rfl))
  · exact (ch_cons (pc := 41) (pc' := 42) (ok_iconst C dX12_map_41 (by decide)) <| ch_cons (pc := 42) (pc' := 45) (ok_callV (d := d) (maxL := 3) C hn hout hf hlo (sn_123 hS) rfl (kcl_at hE 11 rfl) (kG_v gw_508 gw_509 gw_510 gw_511 gw_506) (by decide) (by decide +kernel) dX12_map_42) <| ch_last (pc := 45) (ok_if_eq (tgt := 50) C dX12_map_45 (by decide) rfl rfl))
  · exact (ch_cons (pc := 48) (pc' := 49) (ok_iconst C dX12_map_48 (by decide)) <| ch_last (pc := 49) (ok_ireturn C hr dX12_map_49))
  · exact (ch_cons (pc := 50) (pc' := 53) (ok_new C hn (fun w h => kG_in (inG_Jx4a65c w h)) tyJx4a65c tyJx4a65c_ok (kcl_at hE 2 rfl) (kG_in gw_490) (kG_in gw_491) (kG_in gw_492) rfl dX12_map_50) <| ch_cons (pc := 53) (pc' := 54) (ok_dup C dX12_map_53) <| ch_cons (pc := 54) (pc' := 57) (ok_callI (d := d) C hout hf hlo (sn_185 hS) rfl (kG_ws gw_493) (kG_in gw_492) (kG_in gw_494) (kG_in gw_495) rfl (by decide) (by decide +kernel) dX12_map_54) <| ch_cons (pc := 57) (pc' := 58) (ok_astoreRn C dX12_map_57 rfl (by decide)) <| ch_cons (pc := 58) (pc' := 59) (ok_aloadRn C dX12_map_58 rfl) <| ch_cons (pc := 59) (pc' := 60) (ok_iloadn C dX12_map_59 rfl) <| ch_cons (pc := 60) (pc' := 63) (ok_callS (d := d) C hout hf hlo (sn_40 hS) rfl (kG_s gw_572 gw_573 gw_574 gw_69) (by decide) (by decide +kernel) dX12_map_60) <| ch_cons (pc := 63) (pc' := 66) (ok_callV (d := d) (maxL := 2) C hn hout hf hlo (sn_190 hS) rfl (kcl_at hE 2 rfl) (kG_v gw_575 gw_576 gw_577 gw_578 gw_492) (by decide) (by decide +kernel) dX12_map_63) <| ch_cons (pc := 66) (pc' := 67) (ok_pop C dX12_map_66) <| ch_cons (pc := 67) (pc' := 68) (ok_aloadRn C dX12_map_67 rfl) <| ch_cons (pc := 68) (pc' := 71) (ok_get C hn (fun w h => kG_in (inG_X12 w h)) (kcl_at hE 11 rfl) (by decide) (kG_in gw_496) (fun _ h => h) dX12_map_68) <| ch_cons (pc := 71) (pc' := 72) (ok_aloadRn C dX12_map_71 rfl) <| ch_cons (pc := 72) (pc' := 75) (ok_callV (d := d) (maxL := 2) C hn hout hf hlo (sn_190 hS) rfl (kcl_at hE 2 rfl) (kG_v gw_575 gw_576 gw_577 gw_578 gw_492) (by decide) (by decide +kernel) dX12_map_72) <| ch_cons (pc := 75) (pc' := 76) (ok_pop C dX12_map_75) <| ch_cons (pc := 76) (pc' := 77) (ok_aloadRn C dX12_map_76 rfl) <| ch_cons (pc := 77) (pc' := 80) (ok_get C hn (fun w h => kG_in (inG_X12 w h)) (kcl_at hE 11 rfl) (by decide) (kG_in gw_496) (fun _ h => h) dX12_map_77) <| ch_cons (pc := 80) (pc' := 83) (ok_callV (d := d) (maxL := 1) C hn hout hf hlo (sn_188 hS) rfl (kcl_at hE 2 rfl) (kG_v gw_564 gw_565 gw_566 gw_567 gw_492) (by decide) (by decide +kernel) dX12_map_80) <| ch_cons (pc := 83) (pc' := 84) (ok_iconst C dX12_map_83 (by decide)) <| ch_cons (pc := 84) (pc' := 85) (ok_isub C dX12_map_84) <| ch_last (pc := 85) (ok_ireturn C hr dX12_map_85))
/-- BijectoryModel.isNoMap(I)Z -/
def bl_X12_isNoMap (tb : List (List Int32)) (cl : kCall) : List (List kOp) := [
  [oLoadI 1, oS (gPush (.int 0)), oLoadR 0, oGet 20 11 3, oCallV cl 188 0 2 20, oS (gPush (.int 1)), oBin (fun x y => x - y), oCall cl 120 3, tIf (fun x => !decide (x = 0)) 2 1],
  [oS (gPush (.int 1)), tGo 3],
  [oS (gPush (.int 0)), tGo 3],
  [tZret]]
set_option maxRecDepth 100000 in
set_option maxHeartbeats 4000000 in
theorem mok_X12_isNoMap {E : kE} {σ : List Nat} {l : Launch} {tb : List (List Int32)} (hE : kcl E = kCl) (hn : kn E = 20) (htb : ktb E = tb) : kMOK E (kXX (kb E) σ) σ kZs l kY kWS yX12_isNoMap (kws yX12_isNoMap cX12_isNoMap 2 (some .boolean)) cX12_isNoMap 2 (some .boolean) (fun cl => bl_X12_isNoMap tb cl) := by
  intro d cl hS p e R s m args below meth c α0 nc0 ns0 res C hf hlo hr hnm hout
  have hXX : kXX (kb E) σ s := C.2.2.2.2.2.2.1.2.2.2.2
  refine ⟨fun b => [0, 17, 21, 22].getD b 0, rfl, kAllB_get (bl := bl_X12_isNoMap tb cl) ⟨?_, ?_, ?_, ?_, trivial⟩⟩
  · exact (ch_cons (pc := 0) (pc' := 1) (ok_iloadn C dX12_isNoMap_0 rfl) <| ch_cons (pc := 1) (pc' := 2) (ok_iconst C dX12_isNoMap_1 (by decide)) <| ch_cons (pc := 2) (pc' := 3) (ok_aloadRn C dX12_isNoMap_2 rfl) <| ch_cons (pc := 3) (pc' := 6) (ok_get C hn (fun w h => kG_in (inG_X12 w h)) (kcl_at hE 11 rfl) (by decide) (kG_in gw_496) (fun _ h => h) dX12_isNoMap_3) <| ch_cons (pc := 6) (pc' := 9) (ok_callV (d := d) (maxL := 1) C hn hout hf hlo (sn_188 hS) rfl (kcl_at hE 2 rfl) (kG_v gw_564 gw_565 gw_566 gw_567 gw_492) (by decide) (by decide +kernel) dX12_isNoMap_6) <| ch_cons (pc := 9) (pc' := 10) (ok_iconst C dX12_isNoMap_9 (by decide)) <| ch_cons (pc := 10) (pc' := 11) (ok_isub C dX12_isNoMap_10) <| ch_cons (pc := 11) (pc' := 14) (ok_callS (d := d) C hout hf hlo (sn_120 hS) rfl (kG_s gw_557 gw_558 gw_559 gw_506) (by decide) (by decide +kernel) dX12_isNoMap_11) <| ch_last (pc := 14) (ok_if_ne (tgt := 21) C dX12_isNoMap_14 (by decide) rfl rfl))
  · exact (ch_cons (pc := 17) (pc' := 18) (ok_iconst C dX12_isNoMap_17 (by decide)) <| ch_last (pc := 18) (ok_goto (tgt := 22) C dX12_isNoMap_18 (by decide) rfl))
  · exact (ch_cons (pc := 21) (pc' := 22) (ok_iconst C dX12_isNoMap_21 (by decide)) <| ch_last (pc := 22) (ok_fall rfl))
  · exact (ch_last (pc := 22) (ok_zreturn C hr dX12_isNoMap_22))
/-- BijectoryModel.then(II)I -/
def bl_X12_then (tb : List (List Int32)) (cl : kCall) : List (List kOp) := [
  [oLoadR 0, oLoadR 0, oLoadI 1, oCallV cl 144 1 11 20, oS (gPush (.int 1)), oCallV cl 124 2 11 20, tIf (fun x => !decide (x = 0)) 5 1],
  [oLoadR 0, oLoadI 2, oS (gPush (.int 0)), oS (gPush (.int 10)), oCall cl 120 3, tIf (fun x => !decide (x = 0)) 3 2],
  [oS (gPush (.int 1)), tGo 4],
  [oS (gPush (.int 0)), tGo 4],
  [oS (gPush (.int 2)), oCallV cl 123 2 11 20, tIf (fun x => decide (x = 0)) 6 5],
  [oS (gPush (.int 0)), tIret],
  [oLoadR 0, oGet 20 11 3, oLoadI 1, oStuck],
  [oLoadR 0, oLoadI 1, oStuck],
  [oGetS 5, oLoadI 2, oIald tb, oLoadR 0, oLoadI 1, oStuck],
  [oS (gPush (.int 1)), tGo 11],
  [oS (gPush (.int 0)), tGo 11],
  [oS (gPush (.int 3)), oCallV cl 123 2 11 20, tIf (fun x => decide (x = 0)) 13 12],
  [oS (gPush (.int 0)), tIret],
  [oLoadR 3, oLoadI 2, oCall cl 40 1, oCallV cl 190 1 2 20, oS gPop, oLoadR 3, oCallV cl 188 0 2 20, tIret]]
set_option maxRecDepth 100000 in
set_option maxHeartbeats 4000000 in
theorem mok_X12_then {E : kE} {σ : List Nat} {l : Launch} {tb : List (List Int32)} (hE : kcl E = kCl) (hn : kn E = 20) (htb : ktb E = tb) : kMOK E (kXX (kb E) σ) σ kZs l kY kWS yX12_then (kws yX12_then cX12_then 4 (some .int)) cX12_then 4 (some .int) (fun cl => bl_X12_then tb cl) := by
  intro d cl hS p e R s m args below meth c α0 nc0 ns0 res C hf hlo hr hnm hout
  have hXX : kXX (kb E) σ s := C.2.2.2.2.2.2.1.2.2.2.2
  refine ⟨fun b => [0, 13, 24, 28, 29, 36, 38, 60, 68, 81, 85, 86, 93, 95].getD b 0, rfl, kAllB_get (bl := bl_X12_then tb cl) ⟨?_, ?_, ?_, ?_, ?_, ?_, ?_, ?_, ?_, ?_, ?_, ?_, ?_, ?_, trivial⟩⟩
  · exact (ch_cons (pc := 0) (pc' := 1) (ok_aloadRn C dX12_then_0 rfl) <| ch_cons (pc := 1) (pc' := 2) (ok_aloadRn C dX12_then_1 rfl) <| ch_cons (pc := 2) (pc' := 3) (ok_iloadn C dX12_then_2 rfl) <| ch_cons (pc := 3) (pc' := 6) (ok_callV (d := d) (maxL := 2) C hn hout hf hlo (sn_144 hS) rfl (kcl_at hE 11 rfl) (kG_v gw_579 gw_580 gw_581 gw_582 gw_506) (by decide) (by decide +kernel) dX12_then_3) <| ch_cons (pc := 6) (pc' := 7) (ok_iconst C dX12_then_6 (by decide)) <| ch_cons (pc := 7) (pc' := 10) (ok_callV (d := d) (maxL := 3) C hn hout hf hlo (sn_124 hS) rfl (kcl_at hE 11 rfl) (kG_v gw_560 gw_561 gw_562 gw_563 gw_506) (by decide) (by decide +kernel) dX12_then_7) <| ch_last (pc := 10) (ok_if_ne (tgt := 36) C dX12_then_10 (by decide) rfl rfl))
  · exact (ch_cons (pc := 13) (pc' := 14) (ok_aloadRn C dX12_then_13 rfl) <| ch_cons (pc := 14) (pc' := 15) (ok_iloadn C dX12_then_14 rfl) <| ch_cons (pc := 15) (pc' := 16) (ok_iconst C dX12_then_15 (by decide)) <| ch_cons (pc := 16) (pc' := 18) (ok_bipush C dX12_then_16 (by decide)) <| ch_cons (pc := 18) (pc' := 21) (ok_callS (d := d) C hout hf hlo (sn_120 hS) rfl (kG_s gw_557 gw_558 gw_559 gw_506) (by decide) (by decide +kernel) dX12_then_18) <| ch_last (pc := 21) (ok_if_ne (tgt := 28) C dX12_then_21 (by decide) rfl rfl))
  · exact (ch_cons (pc := 24) (pc' := 25) (ok_iconst C dX12_then_24 (by decide)) <| ch_last (pc := 25) (ok_goto (tgt := 29) C dX12_then_25 (by decide) rfl))
  · exact (ch_cons (pc := 28) (pc' := 29) (ok_iconst C dX12_then_28 (by decide)) <| ch_last (pc := 29) (ok_fall rfl))
  · exact (ch_cons (pc := 29) (pc' := 30) (ok_iconst C dX12_then_29 (by decide)) <| ch_cons (pc := 30) (pc' := 33) (ok_callV (d := d) (maxL := 3) C hn hout hf hlo (sn_123 hS) rfl (kcl_at hE 11 rfl) (kG_v gw_508 gw_509 gw_510 gw_511 gw_506) (by decide) (by decide +kernel) dX12_then_30) <| ch_last (pc := 33) (ok_if_eq (tgt := 38) C dX12_then_33 (by decide) rfl rfl))
  · exact (ch_cons (pc := 36) (pc' := 37) (ok_iconst C dX12_then_36 (by decide)) <| ch_last (pc := 37) (ok_ireturn C hr dX12_then_37))
  · exact (ch_cons (pc := 38) (pc' := 39) (ok_aloadRn C dX12_then_38 rfl) <| ch_cons (pc := 39) (pc' := 42) (ok_get C hn (fun w h => kG_in (inG_X12 w h)) (kcl_at hE 11 rfl) (by decide) (kG_in gw_496) (fun _ h => h) dX12_then_39) <| ch_cons (pc := 42) (pc' := 43) (ok_iloadn C dX12_then_42 rfl) <| ch_last (pc := 43) (ok_stuck))
  · exact (ch_cons (pc := 60) (pc' := 61) (ok_aloadRn C dX12_then_60 rfl) <| ch_cons (pc := 61) (pc' := 62) (ok_iloadn C dX12_then_61 rfl) <| ch_last (pc := 62) (ok_stuck))
  · exact (ch_cons (pc := 68) (pc' := 71) (ok_gets C zin_5 (kG_in gw_583) dX12_then_68) <| ch_cons (pc := 71) (pc' := 72) (ok_iloadn C dX12_then_71 rfl) <| ch_cons (pc := 72) (pc' := 73) (ok_iaload C htb dX12_then_72) <| ch_cons (pc := 73) (pc' := 74) (ok_aloadRn C dX12_then_73 rfl) <| ch_cons (pc := 74) (pc' := 75) (ok_iloadn C dX12_then_74 rfl) <| ch_last (pc := 75) (ok_stuck))
  · exact (ch_cons (pc := 81) (pc' := 82) (ok_iconst C dX12_then_81 (by decide)) <| ch_last (pc := 82) (ok_goto (tgt := 86) C dX12_then_82 (by decide) rfl))
  · exact (ch_cons (pc := 85) (pc' := 86) (ok_iconst C dX12_then_85 (by decide)) <| ch_last (pc := 86) (ok_fall rfl))
  · exact (ch_cons (pc := 86) (pc' := 87) (ok_iconst C dX12_then_86 (by decide)) <| ch_cons (pc := 87) (pc' := 90) (ok_callV (d := d) (maxL := 3) C hn hout hf hlo (sn_123 hS) rfl (kcl_at hE 11 rfl) (kG_v gw_508 gw_509 gw_510 gw_511 gw_506) (by decide) (by decide +kernel) dX12_then_87) <| ch_last (pc := 90) (ok_if_eq (tgt := 95) C dX12_then_90 (by decide) rfl rfl))
  · exact (ch_cons (pc := 93) (pc' := 94) (ok_iconst C dX12_then_93 (by decide)) <| ch_last (pc := 94) (ok_ireturn C hr dX12_then_94))
  · exact (ch_cons (pc := 95) (pc' := 96) (ok_aloadRn C dX12_then_95 rfl) <| ch_cons (pc := 96) (pc' := 97) (ok_iloadn C dX12_then_96 rfl) <| ch_cons (pc := 97) (pc' := 100) (ok_callS (d := d) C hout hf hlo (sn_40 hS) rfl (kG_s gw_572 gw_573 gw_574 gw_69) (by decide) (by decide +kernel) dX12_then_97) <| ch_cons (pc := 100) (pc' := 103) (ok_callV (d := d) (maxL := 2) C hn hout hf hlo (sn_190 hS) rfl (kcl_at hE 2 rfl) (kG_v gw_575 gw_576 gw_577 gw_578 gw_492) (by decide) (by decide +kernel) dX12_then_100) <| ch_cons (pc := 103) (pc' := 104) (ok_pop C dX12_then_103) <| ch_cons (pc := 104) (pc' := 105) (ok_aloadRn C dX12_then_104 rfl) <| ch_cons (pc := 105) (pc' := 108) (ok_callV (d := d) (maxL := 1) C hn hout hf hlo (sn_188 hS) rfl (kcl_at hE 2 rfl) (kG_v gw_564 gw_565 gw_566 gw_567 gw_492) (by decide) (by decide +kernel) dX12_then_105) <| ch_last (pc := 108) (ok_ireturn C hr dX12_then_108))
/-- BijectoryModel.isNoFamily(I)Z -/
def bl_X12_isNoFamily (tb : List (List Int32)) (cl : kCall) : List (List kOp) := [
  [oLoadI 0, oS (gPush (.int 0)), oS (gPush (.int 2)), oCall cl 120 3, tIf (fun x => !decide (x = 0)) 2 1],
  [oS (gPush (.int 1)), tGo 3],
  [oS (gPush (.int 0)), tGo 3],
  [tZret]]
set_option maxRecDepth 100000 in
set_option maxHeartbeats 4000000 in
theorem mok_X12_isNoFamily {E : kE} {σ : List Nat} {l : Launch} {tb : List (List Int32)} (hE : kcl E = kCl) (hn : kn E = 20) (htb : ktb E = tb) : kMOK E (kXX (kb E) σ) σ kZs l kY kWS yX12_isNoFamily (kws yX12_isNoFamily cX12_isNoFamily 1 (some .boolean)) cX12_isNoFamily 1 (some .boolean) (fun cl => bl_X12_isNoFamily tb cl) := by
  intro d cl hS p e R s m args below meth c α0 nc0 ns0 res C hf hlo hr hnm hout
  have hXX : kXX (kb E) σ s := C.2.2.2.2.2.2.1.2.2.2.2
  refine ⟨fun b => [0, 9, 13, 14].getD b 0, rfl, kAllB_get (bl := bl_X12_isNoFamily tb cl) ⟨?_, ?_, ?_, ?_, trivial⟩⟩
  · exact (ch_cons (pc := 0) (pc' := 1) (ok_iloadn C dX12_isNoFamily_0 rfl) <| ch_cons (pc := 1) (pc' := 2) (ok_iconst C dX12_isNoFamily_1 (by decide)) <| ch_cons (pc := 2) (pc' := 3) (ok_iconst C dX12_isNoFamily_2 (by decide)) <| ch_cons (pc := 3) (pc' := 6) (ok_callS (d := d) C hout hf hlo (sn_120 hS) rfl (kG_s gw_557 gw_558 gw_559 gw_506) (by decide) (by decide +kernel) dX12_isNoFamily_3) <| ch_last (pc := 6) (ok_if_ne (tgt := 13) C dX12_isNoFamily_6 (by decide) rfl rfl))
  · exact (ch_cons (pc := 9) (pc' := 10) (ok_iconst C dX12_isNoFamily_9 (by decide)) <| ch_last (pc := 10) (ok_goto (tgt := 14) C dX12_isNoFamily_10 (by decide) rfl))
  · exact (ch_cons (pc := 13) (pc' := 14) (ok_iconst C dX12_isNoFamily_13 (by decide)) <| ch_last (pc := 14) (ok_fall rfl))
  · exact (ch_last (pc := 14) (ok_zreturn C hr dX12_isNoFamily_14))
/-- BijectoryModel.isNoStatistic(I)Z -/
def bl_X12_isNoStatistic (tb : List (List Int32)) (cl : kCall) : List (List kOp) := [
  [oLoadI 0, oS (gPush (.int 0)), oS (gPush (.int 3)), oCall cl 120 3, tIf (fun x => !decide (x = 0)) 2 1],
  [oS (gPush (.int 1)), tGo 3],
  [oS (gPush (.int 0)), tGo 3],
  [tZret]]
set_option maxRecDepth 100000 in
set_option maxHeartbeats 4000000 in
theorem mok_X12_isNoStatistic {E : kE} {σ : List Nat} {l : Launch} {tb : List (List Int32)} (hE : kcl E = kCl) (hn : kn E = 20) (htb : ktb E = tb) : kMOK E (kXX (kb E) σ) σ kZs l kY kWS yX12_isNoStatistic (kws yX12_isNoStatistic cX12_isNoStatistic 1 (some .boolean)) cX12_isNoStatistic 1 (some .boolean) (fun cl => bl_X12_isNoStatistic tb cl) := by
  intro d cl hS p e R s m args below meth c α0 nc0 ns0 res C hf hlo hr hnm hout
  have hXX : kXX (kb E) σ s := C.2.2.2.2.2.2.1.2.2.2.2
  refine ⟨fun b => [0, 9, 13, 14].getD b 0, rfl, kAllB_get (bl := bl_X12_isNoStatistic tb cl) ⟨?_, ?_, ?_, ?_, trivial⟩⟩
  · exact (ch_cons (pc := 0) (pc' := 1) (ok_iloadn C dX12_isNoStatistic_0 rfl) <| ch_cons (pc := 1) (pc' := 2) (ok_iconst C dX12_isNoStatistic_1 (by decide)) <| ch_cons (pc := 2) (pc' := 3) (ok_iconst C dX12_isNoStatistic_2 (by decide)) <| ch_cons (pc := 3) (pc' := 6) (ok_callS (d := d) C hout hf hlo (sn_120 hS) rfl (kG_s gw_557 gw_558 gw_559 gw_506) (by decide) (by decide +kernel) dX12_isNoStatistic_3) <| ch_last (pc := 6) (ok_if_ne (tgt := 13) C dX12_isNoStatistic_6 (by decide) rfl rfl))
  · exact (ch_cons (pc := 9) (pc' := 10) (ok_iconst C dX12_isNoStatistic_9 (by decide)) <| ch_last (pc := 10) (ok_goto (tgt := 14) C dX12_isNoStatistic_10 (by decide) rfl))
  · exact (ch_cons (pc := 13) (pc' := 14) (ok_iconst C dX12_isNoStatistic_13 (by decide)) <| ch_last (pc := 14) (ok_fall rfl))
  · exact (ch_last (pc := 14) (ok_zreturn C hr dX12_isNoStatistic_14))
/-- BijectoryModel.walker(II)I -/
def bl_X12_walker (tb : List (List Int32)) (cl : kCall) : List (List kOp) := [
  [oLoadR 0, oLoadI 1, oCall cl 146 1, oS (gPush (.int 1)), oCallV cl 124 2 11 20, tIf (fun x => !decide (x = 0)) 9 1],
  [oLoadR 0, oLoadR 0, oLoadI 1, oLoadI 2, oCallV cl 130 2 11 20, oS (gPush (.int (-1))), tCmp (fun x y => !decide (x = y)) 3 2],
  [oS (gPush (.int 1)), tGo 4],
  [oS (gPush (.int 0)), tGo 4],
  [oS (gPush (.int 2)), oCallV cl 123 2 11 20, tIf (fun x => !decide (x = 0)) 9 5],
  [oLoadR 0, oLoadR 0, oGet 20 11 4, oCallV cl 188 0 2 20, oS (gPush (.int 4)), tCmp (fun x y => !decide (x = y)) 7 6],
  [oS (gPush (.int 1)), tGo 8],
  [oS (gPush (.int 0)), tGo 8],
  [oS (gPush (.int 3)), oCallV cl 123 2 11 20, tIf (fun x => decide (x = 0)) 10 9],
  [oS (gPush (.int 0)), tIret],
  [oLoadR 0, oGet 20 11 4, oNew 20 10 6 [.int 0, .int 0, .int 0, .int 0, .int 0, .int 0], oS gDup, oLoadI 1, oLoadI 2, oCallI cl 119 2, oCallV cl 190 1 2 20, oS gPop, oLoadR 0, oGet 20 11 4, oCallV cl 188 0 2 20, oS (gPush (.int 1)), oBin (fun x y => x - y), tIret]]
set_option maxRecDepth 100000 in
set_option maxHeartbeats 4000000 in
theorem mok_X12_walker {E : kE} {σ : List Nat} {l : Launch} {tb : List (List Int32)} (hE : kcl E = kCl) (hn : kn E = 20) (htb : ktb E = tb) : kMOK E (kXX (kb E) σ) σ kZs l kY kWS yX12_walker (kws yX12_walker cX12_walker 3 (some .int)) cX12_walker 3 (some .int) (fun cl => bl_X12_walker tb cl) := by
  intro d cl hS p e R s m args below meth c α0 nc0 ns0 res C hf hlo hr hnm hout
  have hXX : kXX (kb E) σ s := C.2.2.2.2.2.2.1.2.2.2.2
  refine ⟨fun b => [0, 12, 23, 27, 28, 35, 47, 51, 52, 59, 61].getD b 0, rfl, kAllB_get (bl := bl_X12_walker tb cl) ⟨?_, ?_, ?_, ?_, ?_, ?_, ?_, ?_, ?_, ?_, ?_, trivial⟩⟩
  · exact (ch_cons (pc := 0) (pc' := 1) (ok_aloadRn C dX12_walker_0 rfl) <| ch_cons (pc := 1) (pc' := 2) (ok_iloadn C dX12_walker_1 rfl) <| ch_cons (pc := 2) (pc' := 5) (ok_callS (d := d) C hout hf hlo (sn_146 hS) rfl (kG_s gw_584 gw_585 gw_586 gw_506) (by decide) (by decide +kernel) dX12_walker_2) <| ch_cons (pc := 5) (pc' := 6) (ok_iconst C dX12_walker_5 (by decide)) <| ch_cons (pc := 6) (pc' := 9) (ok_callV (d := d) (maxL := 3) C hn hout hf hlo (sn_124 hS) rfl (kcl_at hE 11 rfl) (kG_v gw_560 gw_561 gw_562 gw_563 gw_506) (by decide) (by decide +kernel) dX12_walker_6) <| ch_last (pc := 9) (ok_if_ne (tgt := 59) C dX12_walker_9 (by decide) rfl rfl))
  · exact (ch_cons (pc := 12) (pc' := 13) (ok_aloadRn C dX12_walker_12 rfl) <| ch_cons (pc := 13) (pc' := 14) (ok_aloadRn C dX12_walker_13 rfl) <| ch_cons (pc := 14) (pc' := 15) (ok_iloadn C dX12_walker_14 rfl) <| ch_cons (pc := 15) (pc' := 16) (ok_iloadn C dX12_walker_15 rfl) <| ch_cons (pc := 16) (pc' := 19) (ok_callV (d := d) (maxL := 6) C hn hout hf hlo (sn_130 hS) rfl (kcl_at hE 11 rfl) (kG_v gw_587 gw_588 gw_589 gw_590 gw_506) (by decide) (by decide +kernel) dX12_walker_16) <| ch_cons (pc := 19) (pc' := 20) (ok_iconst C dX12_walker_19 (by decide)) <| ch_last (pc := 20) (ok_icmp_ne (tgt := 27) C dX12_walker_20 (by decide) rfl rfl))
  · exact (ch_cons (pc := 23) (pc' := 24) (ok_iconst C dX12_walker_23 (by decide)) <| ch_last (pc := 24) (ok_goto (tgt := 28) C dX12_walker_24 (by decide) rfl))
  · exact (ch_cons (pc := 27) (pc' := 28) (ok_iconst C dX12_walker_27 (by decide)) <| ch_last (pc := 28) (ok_fall rfl))
  · exact (ch_cons (pc := 28) (pc' := 29) (ok_iconst C dX12_walker_28 (by decide)) <| ch_cons (pc := 29) (pc' := 32) (ok_callV (d := d) (maxL := 3) C hn hout hf hlo (sn_123 hS) rfl (kcl_at hE 11 rfl) (kG_v gw_508 gw_509 gw_510 gw_511 gw_506) (by decide) (by decide +kernel) dX12_walker_29) <| ch_last (pc := 32) (ok_if_ne (tgt := 59) C dX12_walker_32 (by decide) rfl rfl))
  · exact (ch_cons (pc := 35) (pc' := 36) (ok_aloadRn C dX12_walker_35 rfl) <| ch_cons (pc := 36) (pc' := 37) (ok_aloadRn C dX12_walker_36 rfl) <| ch_cons (pc := 37) (pc' := 40) (ok_get C hn (fun w h => kG_in (inG_X12 w h)) (kcl_at hE 11 rfl) (by decide) (kG_in gw_497) (fun _ h => h) dX12_walker_37) <| ch_cons (pc := 40) (pc' := 43) (ok_callV (d := d) (maxL := 1) C hn hout hf hlo (sn_188 hS) rfl (kcl_at hE 2 rfl) (kG_v gw_564 gw_565 gw_566 gw_567 gw_492) (by decide) (by decide +kernel) dX12_walker_40) <| ch_cons (pc := 43) (pc' := 44) (ok_iconst C dX12_walker_43 (by decide)) <| ch_last (pc := 44) (ok_icmp_ne (tgt := 51) C dX12_walker_44 (by decide) rfl rfl))
  · exact (ch_cons (pc := 47) (pc' := 48) (ok_iconst C dX12_walker_47 (by decide)) <| ch_last (pc := 48) (ok_goto (tgt := 52) C dX12_walker_48 (by decide) rfl))
  · exact (ch_cons (pc := 51) (pc' := 52) (ok_iconst C dX12_walker_51 (by decide)) <| ch_last (pc := 52) (ok_fall rfl))
  · exact (ch_cons (pc := 52) (pc' := 53) (ok_iconst C dX12_walker_52 (by decide)) <| ch_cons (pc := 53) (pc' := 56) (ok_callV (d := d) (maxL := 3) C hn hout hf hlo (sn_123 hS) rfl (kcl_at hE 11 rfl) (kG_v gw_508 gw_509 gw_510 gw_511 gw_506) (by decide) (by decide +kernel) dX12_walker_53) <| ch_last (pc := 56) (ok_if_eq (tgt := 61) C dX12_walker_56 (by decide) rfl rfl))
  · exact (ch_cons (pc := 59) (pc' := 60) (ok_iconst C dX12_walker_59 (by decide)) <| ch_last (pc := 60) (ok_ireturn C hr dX12_walker_60))
  · exact (ch_cons (pc := 61) (pc' := 62) (ok_aloadRn C dX12_walker_61 rfl) <| ch_cons (pc := 62) (pc' := 65) (ok_get C hn (fun w h => kG_in (inG_X12 w h)) (kcl_at hE 11 rfl) (by decide) (kG_in gw_497) (fun _ h => h) dX12_walker_62) <| ch_cons (pc := 65) (pc' := 68) (ok_new C hn (fun w h => kG_in (inG_X11 w h)) tyX11 tyX11_ok (kcl_at hE 10 rfl) (kG_in gw_591) (kG_in gw_592) (kG_in gw_593) rfl dX12_walker_65) <| ch_cons (pc := 68) (pc' := 69) (ok_dup C dX12_walker_68) <| ch_cons (pc := 69) (pc' := 70) (ok_iloadn C dX12_walker_69 rfl) <| ch_cons (pc := 70) (pc' := 71) (ok_iloadn C dX12_walker_70 rfl) <| ch_cons (pc := 71) (pc' := 74) (ok_callI (d := d) C hout hf hlo (sn_119 hS) rfl (kG_ws gw_594) (kG_in gw_593) (kG_in gw_595) (kG_in gw_596) rfl (by decide) (by decide +kernel) dX12_walker_71) <| ch_cons (pc := 74) (pc' := 77) (ok_callV (d := d) (maxL := 2) C hn hout hf hlo (sn_190 hS) rfl (kcl_at hE 2 rfl) (kG_v gw_575 gw_576 gw_577 gw_578 gw_492) (by decide) (by decide +kernel) dX12_walker_74) <| ch_cons (pc := 77) (pc' := 78) (ok_pop C dX12_walker_77) <| ch_cons (pc := 78) (pc' := 79) (ok_aloadRn C dX12_walker_78 rfl) <| ch_cons (pc := 79) (pc' := 82) (ok_get C hn (fun w h => kG_in (inG_X12 w h)) (kcl_at hE 11 rfl) (by decide) (kG_in gw_497) (fun _ h => h) dX12_walker_79) <| ch_cons (pc := 82) (pc' := 85) (ok_callV (d := d) (maxL := 1) C hn hout hf hlo (sn_188 hS) rfl (kcl_at hE 2 rfl) (kG_v gw_564 gw_565 gw_566 gw_567 gw_492) (by decide) (by decide +kernel) dX12_walker_82) <| ch_cons (pc := 85) (pc' := 86) (ok_iconst C dX12_walker_85 (by decide)) <| ch_cons (pc := 86) (pc' := 87) (ok_isub C dX12_walker_86) <| ch_last (pc := 87) (ok_ireturn C hr dX12_walker_87))
