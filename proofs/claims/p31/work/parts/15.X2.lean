/-- Bijectory$Orders.at(III)I -/
def bl_X2_at (tb : List (List Int32)) (cl : kCall) : List (List kOp) := [
  [oLoadI 0, oStoreI 3, oLoadI 1, oStoreI 4, tGo 1],
  [oLoadI 4, oLoadI 2, tCmp (fun x y => decide (x ≤ y)) 3 2],
  [oLoadI 3, oS (gPush (.int 10)), oBin0 (fun x y => x / y), oStoreI 3, oIinc 4 (-1), tGo 1],
  [oLoadI 3, oS (gPush (.int 10)), oBin0 (fun x y => x - x / y * y), tIret]]
set_option maxRecDepth 100000 in
set_option maxHeartbeats 4000000 in
theorem mok_X2_at {E : kE} {σ : List Nat} {l : Launch} {tb : List (List Int32)} (hE : kcl E = kCl) (hn : kn E = 6) (htb : ktb E = tb) : kMOK E (kXX (kb E)) σ kZs l kY kWS yX2_at (kws yX2_at cX2_at 5 (some .int)) cX2_at 5 (some .int) (fun cl => bl_X2_at tb cl) := by
  intro d cl hS p e R s m args below meth c α0 nc0 ns0 res C hf hlo hr hnm hout
  have hXX : kXX (kb E) s := C.2.2.2.2.2.2.1.2.2.2.2
  refine ⟨fun b => [0, 5, 11, 22].getD b 0, rfl, kAllB_get (bl := bl_X2_at tb cl) ⟨?_, ?_, ?_, ?_, trivial⟩⟩
  · exact (ch_cons (pc := 0) (pc' := 1) (ok_iloadn C dX2_at_0 rfl) <| ch_cons (pc := 1) (pc' := 2) (ok_istoren C dX2_at_1 rfl (by decide)) <| ch_cons (pc := 2) (pc' := 3) (ok_iloadn C dX2_at_2 rfl) <| ch_cons (pc := 3) (pc' := 5) (ok_istore C dX2_at_3 (by decide)) <| ch_last (pc := 5) (ok_fall rfl))
  · exact (ch_cons (pc := 5) (pc' := 7) (ok_iload C dX2_at_5) <| ch_cons (pc := 7) (pc' := 8) (ok_iloadn C dX2_at_7 rfl) <| ch_last (pc := 8) (ok_icmp_le (tgt := 22) C dX2_at_8 (by decide) rfl rfl))
  · exact (ch_cons (pc := 11) (pc' := 12) (ok_iloadn C dX2_at_11 rfl) <| ch_cons (pc := 12) (pc' := 14) (ok_bipush C dX2_at_12 (by decide)) <| ch_cons (pc := 14) (pc' := 15) (ok_idiv C dX2_at_14) <| ch_cons (pc := 15) (pc' := 16) (ok_istoren C dX2_at_15 rfl (by decide)) <| ch_cons (pc := 16) (pc' := 19) (ok_iinc C dX2_at_16 (by decide) (by decide)) <| ch_last (pc := 19) (ok_goto (tgt := 5) C dX2_at_19 (by decide) rfl))
  · exact (ch_cons (pc := 22) (pc' := 23) (ok_iloadn C dX2_at_22 rfl) <| ch_cons (pc := 23) (pc' := 25) (ok_bipush C dX2_at_23 (by decide)) <| ch_cons (pc := 25) (pc' := 26) (ok_irem C dX2_at_25) <| ch_last (pc := 26) (ok_ireturn C hr dX2_at_26))
/-- Bijectory$Orders.ofRank(II)I -/
def bl_X2_ofRank (tb : List (List Int32)) (cl : kCall) : List (List kOp) := [
  [oS (gPush (.int 0)), oStoreI 2, oS (gPush (.int 0)), oStoreI 3, oLoadI 0, oStoreI 4, oLoadI 1, oS (gPush (.int 1)), oBin (fun x y => x - y), oStoreI 5, tGo 1],
  [oLoadI 5, tIf (fun x => decide (x < 0)) 9 2],
  [oGetS 3, oLoadI 5, oCall cl 0 2, oStoreI 6, oLoadI 6, tIf (fun x => decide (x ≤ 0)) 4 3],
  [oLoadI 3, oLoadI 4, oLoadI 6, oBin0 (fun x y => x / y), oCall cl 20 2, tGo 5],
  [oS (gPush (.int 0)), tGo 5],
  [oStoreI 7, oLoadI 6, tIf (fun x => decide (x ≤ 0)) 7 6],
  [oLoadI 4, oLoadI 6, oBin0 (fun x y => x - x / y * y), tGo 8],
  [oS (gPush (.int 0)), tGo 8],
  [oStoreI 4, oLoadI 3, oS (gPush (.int 1)), oLoadI 7, oBin (fun x y => x <<< (y &&& 31)), oBin (fun x y => x ||| y), oStoreI 3, oLoadI 2, oS (gPush (.int 10)), oBin (fun x y => x * y), oLoadI 7, oBin (fun x y => x + y), oStoreI 2, oIinc 5 (-1), tGo 1],
  [oLoadI 2, tIret]]
set_option maxRecDepth 100000 in
set_option maxHeartbeats 4000000 in
theorem mok_X2_ofRank {E : kE} {σ : List Nat} {l : Launch} {tb : List (List Int32)} (hE : kcl E = kCl) (hn : kn E = 6) (htb : ktb E = tb) : kMOK E (kXX (kb E)) σ kZs l kY kWS yX2_ofRank (kws yX2_ofRank cX2_ofRank 8 (some .int)) cX2_ofRank 8 (some .int) (fun cl => bl_X2_ofRank tb cl) := by
  intro d cl hS p e R s m args below meth c α0 nc0 ns0 res C hf hlo hr hnm hout
  have hXX : kXX (kb E) s := C.2.2.2.2.2.2.1.2.2.2.2
  refine ⟨fun b => [0, 12, 17, 32, 44, 45, 52, 60, 61, 84].getD b 0, rfl, kAllB_get (bl := bl_X2_ofRank tb cl) ⟨?_, ?_, ?_, ?_, ?_, ?_, ?_, ?_, ?_, ?_, trivial⟩⟩
  · exact (ch_cons (pc := 0) (pc' := 1) (ok_iconst C dX2_ofRank_0 (by decide)) <| ch_cons (pc := 1) (pc' := 2) (ok_istoren C dX2_ofRank_1 rfl (by decide)) <| ch_cons (pc := 2) (pc' := 3) (ok_iconst C dX2_ofRank_2 (by decide)) <| ch_cons (pc := 3) (pc' := 4) (ok_istoren C dX2_ofRank_3 rfl (by decide)) <| ch_cons (pc := 4) (pc' := 5) (ok_iloadn C dX2_ofRank_4 rfl) <| ch_cons (pc := 5) (pc' := 7) (ok_istore C dX2_ofRank_5 (by decide)) <| ch_cons (pc := 7) (pc' := 8) (ok_iloadn C dX2_ofRank_7 rfl) <| ch_cons (pc := 8) (pc' := 9) (ok_iconst C dX2_ofRank_8 (by decide)) <| ch_cons (pc := 9) (pc' := 10) (ok_isub C dX2_ofRank_9) <| ch_cons (pc := 10) (pc' := 12) (ok_istore C dX2_ofRank_10 (by decide)) <| ch_last (pc := 12) (ok_fall rfl))
  · exact (ch_cons (pc := 12) (pc' := 14) (ok_iload C dX2_ofRank_12) <| ch_last (pc := 14) (ok_if_lt (tgt := 84) C dX2_ofRank_14 (by decide) rfl rfl))
  · exact (ch_cons (pc := 17) (pc' := 20) (ok_getsN C zin_3 (xw_0 hXX) dX2_ofRank_17) <| ch_cons (pc := 20) (pc' := 22) (ok_iload C dX2_ofRank_20) <| ch_cons (pc := 22) (pc' := 25) (ok_callS (d := d) C hout hf hlo (sn_0 hS) rfl (kG_s gw_39 gw_40 gw_41 gw_42) (by decide) (by decide +kernel) dX2_ofRank_22) <| ch_cons (pc := 25) (pc' := 27) (ok_istore C dX2_ofRank_25 (by decide)) <| ch_cons (pc := 27) (pc' := 29) (ok_iload C dX2_ofRank_27) <| ch_last (pc := 29) (ok_if_le (tgt := 44) C dX2_ofRank_29 (by decide) rfl rfl))
  · exact (ch_cons (pc := 32) (pc' := 33) (ok_iloadn C dX2_ofRank_32 rfl) <| ch_cons (pc := 33) (pc' := 35) (ok_iload C dX2_ofRank_33) <| ch_cons (pc := 35) (pc' := 37) (ok_iload C dX2_ofRank_35) <| ch_cons (pc := 37) (pc' := 38) (ok_idiv C dX2_ofRank_37) <| ch_cons (pc := 38) (pc' := 41) (ok_callS (d := d) C hout hf hlo (sn_20 hS) rfl (kG_s gw_43 gw_44 gw_45 gw_46) (by decide) (by decide +kernel) dX2_ofRank_38) <| ch_last (pc := 41) (ok_goto (tgt := 45) C dX2_ofRank_41 (by decide) rfl))
  · exact (ch_cons (pc := 44) (pc' := 45) (ok_iconst C dX2_ofRank_44 (by decide)) <| ch_last (pc := 45) (ok_fall rfl))
  · exact (ch_cons (pc := 45) (pc' := 47) (ok_istore C dX2_ofRank_45 (by decide)) <| ch_cons (pc := 47) (pc' := 49) (ok_iload C dX2_ofRank_47) <| ch_last (pc := 49) (ok_if_le (tgt := 60) C dX2_ofRank_49 (by decide) rfl rfl))
  · exact (ch_cons (pc := 52) (pc' := 54) (ok_iload C dX2_ofRank_52) <| ch_cons (pc := 54) (pc' := 56) (ok_iload C dX2_ofRank_54) <| ch_cons (pc := 56) (pc' := 57) (ok_irem C dX2_ofRank_56) <| ch_last (pc := 57) (ok_goto (tgt := 61) C dX2_ofRank_57 (by decide) rfl))
  · exact (ch_cons (pc := 60) (pc' := 61) (ok_iconst C dX2_ofRank_60 (by decide)) <| ch_last (pc := 61) (ok_fall rfl))
  · exact (ch_cons (pc := 61) (pc' := 63) (ok_istore C dX2_ofRank_61 (by decide)) <| ch_cons (pc := 63) (pc' := 64) (ok_iloadn C dX2_ofRank_63 rfl) <| ch_cons (pc := 64) (pc' := 65) (ok_iconst C dX2_ofRank_64 (by decide)) <| ch_cons (pc := 65) (pc' := 67) (ok_iload C dX2_ofRank_65) <| ch_cons (pc := 67) (pc' := 68) (ok_ishl C dX2_ofRank_67) <| ch_cons (pc := 68) (pc' := 69) (ok_ior C dX2_ofRank_68) <| ch_cons (pc := 69) (pc' := 70) (ok_istoren C dX2_ofRank_69 rfl (by decide)) <| ch_cons (pc := 70) (pc' := 71) (ok_iloadn C dX2_ofRank_70 rfl) <| ch_cons (pc := 71) (pc' := 73) (ok_bipush C dX2_ofRank_71 (by decide)) <| ch_cons (pc := 73) (pc' := 74) (ok_imul C dX2_ofRank_73) <| ch_cons (pc := 74) (pc' := 76) (ok_iload C dX2_ofRank_74) <| ch_cons (pc := 76) (pc' := 77) (ok_iadd C dX2_ofRank_76) <| ch_cons (pc := 77) (pc' := 78) (ok_istoren C dX2_ofRank_77 rfl (by decide)) <| ch_cons (pc := 78) (pc' := 81) (ok_iinc C dX2_ofRank_78 (by decide) (by decide)) <| ch_last (pc := 81) (ok_goto (tgt := 12) C dX2_ofRank_81 (by decide) rfl))
  · exact (ch_cons (pc := 84) (pc' := 85) (ok_iloadn C dX2_ofRank_84 rfl) <| ch_last (pc := 85) (ok_ireturn C hr dX2_ofRank_85))
/-- Bijectory$Orders.freeNumber(II)I -/
def bl_X2_freeNumber (tb : List (List Int32)) (cl : kCall) : List (List kOp) := [
  [oLoadI 1, oStoreI 2, oS (gPush (.int 1)), oStoreI 3, tGo 1],
  [oLoadI 3, oS (gPush (.int 6)), tCmp (fun x y => decide (y < x)) 12 2],
  [oLoadI 0, oLoadI 3, oBin (fun x y => x >>> (y &&& 31)), oS (gPush (.int 1)), oBin (fun x y => x &&& y), tIf (fun x => !decide (x = 0)) 4 3],
  [oS (gPush (.int 1)), tGo 5],
  [oS (gPush (.int 0)), tGo 5],
  [oStoreI 4, oLoadI 4, tIf (fun x => decide (x = 0)) 8 6],
  [oLoadI 2, tIf (fun x => !decide (x = 0)) 8 7],
  [oLoadI 3, tIret],
  [oLoadI 2, oLoadI 4, tIf (fun x => decide (x = 0)) 10 9],
  [oS (gPush (.int 1)), tGo 11],
  [oS (gPush (.int 0)), tGo 11],
  [oBin (fun x y => x - y), oStoreI 2, oIinc 3 1, tGo 1],
  [oS (gPush (.int 0)), tIret]]
set_option maxRecDepth 100000 in
set_option maxHeartbeats 4000000 in
theorem mok_X2_freeNumber {E : kE} {σ : List Nat} {l : Launch} {tb : List (List Int32)} (hE : kcl E = kCl) (hn : kn E = 6) (htb : ktb E = tb) : kMOK E (kXX (kb E)) σ kZs l kY kWS yX2_freeNumber (kws yX2_freeNumber cX2_freeNumber 5 (some .int)) cX2_freeNumber 5 (some .int) (fun cl => bl_X2_freeNumber tb cl) := by
  intro d cl hS p e R s m args below meth c α0 nc0 ns0 res C hf hlo hr hnm hout
  have hXX : kXX (kb E) s := C.2.2.2.2.2.2.1.2.2.2.2
  refine ⟨fun b => [0, 4, 10, 18, 22, 23, 30, 34, 36, 42, 46, 47, 55].getD b 0, rfl, kAllB_get (bl := bl_X2_freeNumber tb cl) ⟨?_, ?_, ?_, ?_, ?_, ?_, ?_, ?_, ?_, ?_, ?_, ?_, ?_, trivial⟩⟩
  · exact (ch_cons (pc := 0) (pc' := 1) (ok_iloadn C dX2_freeNumber_0 rfl) <| ch_cons (pc := 1) (pc' := 2) (ok_istoren C dX2_freeNumber_1 rfl (by decide)) <| ch_cons (pc := 2) (pc' := 3) (ok_iconst C dX2_freeNumber_2 (by decide)) <| ch_cons (pc := 3) (pc' := 4) (ok_istoren C dX2_freeNumber_3 rfl (by decide)) <| ch_last (pc := 4) (ok_fall rfl))
  · exact (ch_cons (pc := 4) (pc' := 5) (ok_iloadn C dX2_freeNumber_4 rfl) <| ch_cons (pc := 5) (pc' := 7) (ok_bipush C dX2_freeNumber_5 (by decide)) <| ch_last (pc := 7) (ok_icmp_gt (tgt := 55) C dX2_freeNumber_7 (by decide) rfl rfl))
  · exact (ch_cons (pc := 10) (pc' := 11) (ok_iloadn C dX2_freeNumber_10 rfl) <| ch_cons (pc := 11) (pc' := 12) (ok_iloadn C dX2_freeNumber_11 rfl) <| ch_cons (pc := 12) (pc' := 13) (ok_ishr C dX2_freeNumber_12) <| ch_cons (pc := 13) (pc' := 14) (ok_iconst C dX2_freeNumber_13 (by decide)) <| ch_cons (pc := 14) (pc' := 15) (ok_iand C dX2_freeNumber_14) <| ch_last (pc := 15) (ok_if_ne (tgt := 22) C dX2_freeNumber_15 (by decide) rfl rfl))
  · exact (ch_cons (pc := 18) (pc' := 19) (ok_iconst C dX2_freeNumber_18 (by decide)) <| ch_last (pc := 19) (ok_goto (tgt := 23) C dX2_freeNumber_19 (by decide) rfl))
  · exact (ch_cons (pc := 22) (pc' := 23) (ok_iconst C dX2_freeNumber_22 (by decide)) <| ch_last (pc := 23) (ok_fall rfl))
  · exact (ch_cons (pc := 23) (pc' := 25) (ok_istore C dX2_freeNumber_23 (by decide)) <| ch_cons (pc := 25) (pc' := 27) (ok_iload C dX2_freeNumber_25) <| ch_last (pc := 27) (ok_if_eq (tgt := 36) C dX2_freeNumber_27 (by decide) rfl rfl))
  · exact (ch_cons (pc := 30) (pc' := 31) (ok_iloadn C dX2_freeNumber_30 rfl) <| ch_last (pc := 31) (ok_if_ne (tgt := 36) C dX2_freeNumber_31 (by decide) rfl rfl))
  · exact (ch_cons (pc := 34) (pc' := 35) (ok_iloadn C dX2_freeNumber_34 rfl) <| ch_last (pc := 35) (ok_ireturn C hr dX2_freeNumber_35))
  · exact (ch_cons (pc := 36) (pc' := 37) (ok_iloadn C dX2_freeNumber_36 rfl) <| ch_cons (pc := 37) (pc' := 39) (ok_iload C dX2_freeNumber_37) <| ch_last (pc := 39) (ok_if_eq (tgt := 46) C dX2_freeNumber_39 (by decide) rfl rfl))
  · exact (ch_cons (pc := 42) (pc' := 43) (ok_iconst C dX2_freeNumber_42 (by decide)) <| ch_last (pc := 43) (ok_goto (tgt := 47) C dX2_freeNumber_43 (by decide) rfl))
  · exact (ch_cons (pc := 46) (pc' := 47) (ok_iconst C dX2_freeNumber_46 (by decide)) <| ch_last (pc := 47) (ok_fall rfl))
  · exact (ch_cons (pc := 47) (pc' := 48) (ok_isub C dX2_freeNumber_47) <| ch_cons (pc := 48) (pc' := 49) (ok_istoren C dX2_freeNumber_48 rfl (by decide)) <| ch_cons (pc := 49) (pc' := 52) (ok_iinc C dX2_freeNumber_49 (by decide) (by decide)) <| ch_last (pc := 52) (ok_goto (tgt := 4) C dX2_freeNumber_52 (by decide) rfl))
  · exact (ch_cons (pc := 55) (pc' := 56) (ok_iconst C dX2_freeNumber_55 (by decide)) <| ch_last (pc := 56) (ok_ireturn C hr dX2_freeNumber_56))
/-- Bijectory$Orders.shape(IIII)I -/
def bl_X2_shape (tb : List (List Int32)) (cl : kCall) : List (List kOp) := [
  [oLoadI 2, oS (gPush (.int 1)), tCmp (fun x y => decide (x < y)) 4 1],
  [oLoadI 3, oLoadI 1, tCmp (fun x y => decide (y < x)) 4 2],
  [oLoadI 2, oLoadI 3, tCmp (fun x y => decide (y < x)) 4 3],
  [oLoadI 1, oS (gPush (.int 6)), tCmp (fun x y => decide (x ≤ y)) 5 4],
  [oS (gPush (.int 0)), tIret],
  [oLoadI 2, oStoreI 4, oLoadI 2, oS (gPush (.int 1)), oBin (fun x y => x + y), oStoreI 5, tGo 6],
  [oLoadI 5, oLoadI 3, tCmp (fun x y => decide (y < x)) 10 7],
  [oLoadI 0, oLoadI 1, oLoadI 5, oCall cl 18 3, oLoadI 0, oLoadI 1, oLoadI 4, oCall cl 18 3, tCmp (fun x y => decide (x ≤ y)) 9 8],
  [oLoadI 5, oStoreI 4, tGo 9],
  [oIinc 5 1, tGo 6],
  [oLoadI 0, oLoadI 1, oLoadI 2, oLoadI 4, oS (gPush (.int 1)), oBin (fun x y => x - y), oCall cl 21 4, oStoreI 5, oLoadI 0, oLoadI 1, oLoadI 4, oS (gPush (.int 1)), oBin (fun x y => x + y), oLoadI 3, oCall cl 21 4, oStoreI 6, oLoadI 5, oLoadI 4, oLoadI 2, oBin (fun x y => x - y), oLoadI 6, oLoadI 3, oLoadI 4, oBin (fun x y => x - y), oCall cl 30 4, tIret]]
set_option maxRecDepth 100000 in
set_option maxHeartbeats 4000000 in
theorem mok_X2_shape {E : kE} {σ : List Nat} {l : Launch} {tb : List (List Int32)} (hE : kcl E = kCl) (hn : kn E = 6) (htb : ktb E = tb) : kMOK E (kXX (kb E)) σ kZs l kY kWS yX2_shape (kws yX2_shape cX2_shape 7 (some .int)) cX2_shape 7 (some .int) (fun cl => bl_X2_shape tb cl) := by
  intro d cl hS p e R s m args below meth c α0 nc0 ns0 res C hf hlo hr hnm hout
  have hXX : kXX (kb E) s := C.2.2.2.2.2.2.1.2.2.2.2
  refine ⟨fun b => [0, 5, 10, 15, 21, 23, 31, 37, 54, 58, 64].getD b 0, rfl, kAllB_get (bl := bl_X2_shape tb cl) ⟨?_, ?_, ?_, ?_, ?_, ?_, ?_, ?_, ?_, ?_, ?_, trivial⟩⟩
  · exact (ch_cons (pc := 0) (pc' := 1) (ok_iloadn C dX2_shape_0 rfl) <| ch_cons (pc := 1) (pc' := 2) (ok_iconst C dX2_shape_1 (by decide)) <| ch_last (pc := 2) (ok_icmp_lt (tgt := 21) C dX2_shape_2 (by decide) rfl rfl))
  · exact (ch_cons (pc := 5) (pc' := 6) (ok_iloadn C dX2_shape_5 rfl) <| ch_cons (pc := 6) (pc' := 7) (ok_iloadn C dX2_shape_6 rfl) <| ch_last (pc := 7) (ok_icmp_gt (tgt := 21) C dX2_shape_7 (by decide) rfl rfl))
  · exact (ch_cons (pc := 10) (pc' := 11) (ok_iloadn C dX2_shape_10 rfl) <| ch_cons (pc := 11) (pc' := 12) (ok_iloadn C dX2_shape_11 rfl) <| ch_last (pc := 12) (ok_icmp_gt (tgt := 21) C dX2_shape_12 (by decide) rfl rfl))
  · exact (ch_cons (pc := 15) (pc' := 16) (ok_iloadn C dX2_shape_15 rfl) <| ch_cons (pc := 16) (pc' := 18) (ok_bipush C dX2_shape_16 (by decide)) <| ch_last (pc := 18) (ok_icmp_le (tgt := 23) C dX2_shape_18 (by decide) rfl rfl))
  · exact (ch_cons (pc := 21) (pc' := 22) (ok_iconst C dX2_shape_21 (by decide)) <| ch_last (pc := 22) (ok_ireturn C hr dX2_shape_22))
  · exact (ch_cons (pc := 23) (pc' := 24) (ok_iloadn C dX2_shape_23 rfl) <| ch_cons (pc := 24) (pc' := 26) (ok_istore C dX2_shape_24 (by decide)) <| ch_cons (pc := 26) (pc' := 27) (ok_iloadn C dX2_shape_26 rfl) <| ch_cons (pc := 27) (pc' := 28) (ok_iconst C dX2_shape_27 (by decide)) <| ch_cons (pc := 28) (pc' := 29) (ok_iadd C dX2_shape_28) <| ch_cons (pc := 29) (pc' := 31) (ok_istore C dX2_shape_29 (by decide)) <| ch_last (pc := 31) (ok_fall rfl))
  · exact (ch_cons (pc := 31) (pc' := 33) (ok_iload C dX2_shape_31) <| ch_cons (pc := 33) (pc' := 34) (ok_iloadn C dX2_shape_33 rfl) <| ch_last (pc := 34) (ok_icmp_gt (tgt := 64) C dX2_shape_34 (by decide) rfl rfl))
  · exact (ch_cons (pc := 37) (pc' := 38) (ok_iloadn C dX2_shape_37 rfl) <| ch_cons (pc := 38) (pc' := 39) (ok_iloadn C dX2_shape_38 rfl) <| ch_cons (pc := 39) (pc' := 41) (ok_iload C dX2_shape_39) <| ch_cons (pc := 41) (pc' := 44) (ok_callS (d := d) C hout hf hlo (sn_18 hS) rfl (kG_s gw_47 gw_48 gw_49 gw_46) (by decide) (by decide +kernel) dX2_shape_41) <| ch_cons (pc := 44) (pc' := 45) (ok_iloadn C dX2_shape_44 rfl) <| ch_cons (pc := 45) (pc' := 46) (ok_iloadn C dX2_shape_45 rfl) <| ch_cons (pc := 46) (pc' := 48) (ok_iload C dX2_shape_46) <| ch_cons (pc := 48) (pc' := 51) (ok_callS (d := d) C hout hf hlo (sn_18 hS) rfl (kG_s gw_47 gw_48 gw_49 gw_46) (by decide) (by decide +kernel) dX2_shape_48) <| ch_last (pc := 51) (ok_icmp_le (tgt := 58) C dX2_shape_51 (by decide) rfl rfl))
  · exact (ch_cons (pc := 54) (pc' := 56) (ok_iload C dX2_shape_54) <| ch_cons (pc := 56) (pc' := 58) (ok_istore C dX2_shape_56 (by decide)) <| ch_last (pc := 58) (ok_fall rfl))
  · exact (ch_cons (pc := 58) (pc' := 61) (ok_iinc C dX2_shape_58 (by decide) (by decide)) <| ch_last (pc := 61) (ok_goto (tgt := 31) C dX2_shape_61 (by decide) rfl))
  · exact (ch_cons (pc := 64) (pc' := 65) (ok_iloadn C dX2_shape_64 rfl) <| ch_cons (pc := 65) (pc' := 66) (ok_iloadn C dX2_shape_65 rfl) <| ch_cons (pc := 66) (pc' := 67) (ok_iloadn C dX2_shape_66 rfl) <| ch_cons (pc := 67) (pc' := 69) (ok_iload C dX2_shape_67) <| ch_cons (pc := 69) (pc' := 70) (ok_iconst C dX2_shape_69 (by decide)) <| ch_cons (pc := 70) (pc' := 71) (ok_isub C dX2_shape_70) <| ch_cons (pc := 71) (pc' := 74) (ok_callS (d := d) C hout hf hlo (sn_21 hS) rfl (kG_s gw_50 gw_51 gw_52 gw_46) (by decide) (by decide +kernel) dX2_shape_71) <| ch_cons (pc := 74) (pc' := 76) (ok_istore C dX2_shape_74 (by decide)) <| ch_cons (pc := 76) (pc' := 77) (ok_iloadn C dX2_shape_76 rfl) <| ch_cons (pc := 77) (pc' := 78) (ok_iloadn C dX2_shape_77 rfl) <| ch_cons (pc := 78) (pc' := 80) (ok_iload C dX2_shape_78) <| ch_cons (pc := 80) (pc' := 81) (ok_iconst C dX2_shape_80 (by decide)) <| ch_cons (pc := 81) (pc' := 82) (ok_iadd C dX2_shape_81) <| ch_cons (pc := 82) (pc' := 83) (ok_iloadn C dX2_shape_82 rfl) <| ch_cons (pc := 83) (pc' := 86) (ok_callS (d := d) C hout hf hlo (sn_21 hS) rfl (kG_s gw_50 gw_51 gw_52 gw_46) (by decide) (by decide +kernel) dX2_shape_83) <| ch_cons (pc := 86) (pc' := 88) (ok_istore C dX2_shape_86 (by decide)) <| ch_cons (pc := 88) (pc' := 90) (ok_iload C dX2_shape_88) <| ch_cons (pc := 90) (pc' := 92) (ok_iload C dX2_shape_90) <| ch_cons (pc := 92) (pc' := 93) (ok_iloadn C dX2_shape_92 rfl) <| ch_cons (pc := 93) (pc' := 94) (ok_isub C dX2_shape_93) <| ch_cons (pc := 94) (pc' := 96) (ok_iload C dX2_shape_94) <| ch_cons (pc := 96) (pc' := 97) (ok_iloadn C dX2_shape_96 rfl) <| ch_cons (pc := 97) (pc' := 99) (ok_iload C dX2_shape_97) <| ch_cons (pc := 99) (pc' := 100) (ok_isub C dX2_shape_99) <| ch_cons (pc := 100) (pc' := 103) (ok_callS (d := d) C hout hf hlo (sn_30 hS) rfl (kG_s gw_13 gw_53 gw_15 gw_16) (by decide) (by decide +kernel) dX2_shape_100) <| ch_last (pc := 103) (ok_ireturn C hr dX2_shape_103))
/-- Bijectory$Orders.invert(II)I -/
def bl_X2_invert (tb : List (List Int32)) (cl : kCall) : List (List kOp) := [
  [oS (gPush (.int 0)), oStoreI 2, oS (gPush (.int 1)), oStoreI 3, tGo 1],
  [oLoadI 3, oLoadI 1, tCmp (fun x y => decide (y < x)) 3 2],
  [oLoadI 2, oLoadI 3, oGetS 4, oLoadI 1, oLoadI 0, oLoadI 1, oLoadI 3, oCall cl 18 3, oBin (fun x y => x - y), oCall cl 0 2, oBin (fun x y => x * y), oBin (fun x y => x + y), oStoreI 2, oIinc 3 1, tGo 1],
  [oLoadI 2, tIret]]
set_option maxRecDepth 100000 in
set_option maxHeartbeats 4000000 in
theorem mok_X2_invert {E : kE} {σ : List Nat} {l : Launch} {tb : List (List Int32)} (hE : kcl E = kCl) (hn : kn E = 6) (htb : ktb E = tb) : kMOK E (kXX (kb E)) σ kZs l kY kWS yX2_invert (kws yX2_invert cX2_invert 4 (some .int)) cX2_invert 4 (some .int) (fun cl => bl_X2_invert tb cl) := by
  intro d cl hS p e R s m args below meth c α0 nc0 ns0 res C hf hlo hr hnm hout
  have hXX : kXX (kb E) s := C.2.2.2.2.2.2.1.2.2.2.2
  refine ⟨fun b => [0, 4, 9, 34].getD b 0, rfl, kAllB_get (bl := bl_X2_invert tb cl) ⟨?_, ?_, ?_, ?_, trivial⟩⟩
  · exact (ch_cons (pc := 0) (pc' := 1) (ok_iconst C dX2_invert_0 (by decide)) <| ch_cons (pc := 1) (pc' := 2) (ok_istoren C dX2_invert_1 rfl (by decide)) <| ch_cons (pc := 2) (pc' := 3) (ok_iconst C dX2_invert_2 (by decide)) <| ch_cons (pc := 3) (pc' := 4) (ok_istoren C dX2_invert_3 rfl (by decide)) <| ch_last (pc := 4) (ok_fall rfl))
  · exact (ch_cons (pc := 4) (pc' := 5) (ok_iloadn C dX2_invert_4 rfl) <| ch_cons (pc := 5) (pc' := 6) (ok_iloadn C dX2_invert_5 rfl) <| ch_last (pc := 6) (ok_icmp_gt (tgt := 34) C dX2_invert_6 (by decide) rfl rfl))
  · exact (ch_cons (pc := 9) (pc' := 10) (ok_iloadn C dX2_invert_9 rfl) <| ch_cons (pc := 10) (pc' := 11) (ok_iloadn C dX2_invert_10 rfl) <| ch_cons (pc := 11) (pc' := 14) (ok_getsN C zin_4 (xw_1 hXX) dX2_invert_11) <| ch_cons (pc := 14) (pc' := 15) (ok_iloadn C dX2_invert_14 rfl) <| ch_cons (pc := 15) (pc' := 16) (ok_iloadn C dX2_invert_15 rfl) <| ch_cons (pc := 16) (pc' := 17) (ok_iloadn C dX2_invert_16 rfl) <| ch_cons (pc := 17) (pc' := 18) (ok_iloadn C dX2_invert_17 rfl) <| ch_cons (pc := 18) (pc' := 21) (ok_callS (d := d) C hout hf hlo (sn_18 hS) rfl (kG_s gw_47 gw_48 gw_49 gw_46) (by decide) (by decide +kernel) dX2_invert_18) <| ch_cons (pc := 21) (pc' := 22) (ok_isub C dX2_invert_21) <| ch_cons (pc := 22) (pc' := 25) (ok_callS (d := d) C hout hf hlo (sn_0 hS) rfl (kG_s gw_39 gw_40 gw_41 gw_42) (by decide) (by decide +kernel) dX2_invert_22) <| ch_cons (pc := 25) (pc' := 26) (ok_imul C dX2_invert_25) <| ch_cons (pc := 26) (pc' := 27) (ok_iadd C dX2_invert_26) <| ch_cons (pc := 27) (pc' := 28) (ok_istoren C dX2_invert_27 rfl (by decide)) <| ch_cons (pc := 28) (pc' := 31) (ok_iinc C dX2_invert_28 (by decide) (by decide)) <| ch_last (pc := 31) (ok_goto (tgt := 4) C dX2_invert_31 (by decide) rfl))
  · exact (ch_cons (pc := 34) (pc' := 35) (ok_iloadn C dX2_invert_34 rfl) <| ch_last (pc := 35) (ok_ireturn C hr dX2_invert_35))
/-- Bijectory$Orders.turn(II)I -/
def bl_X2_turn (tb : List (List Int32)) (cl : kCall) : List (List kOp) := [
  [oS (gPush (.int 0)), oStoreI 2, oLoadI 0, oStoreI 3, oLoadI 1, oStoreI 4, tGo 1],
  [oLoadI 4, oS (gPush (.int 1)), tCmp (fun x y => decide (x < y)) 3 2],
  [oLoadI 2, oS (gPush (.int 10)), oBin (fun x y => x * y), oLoadI 3, oS (gPush (.int 10)), oBin0 (fun x y => x - x / y * y), oBin (fun x y => x + y), oStoreI 2, oLoadI 3, oS (gPush (.int 10)), oBin0 (fun x y => x / y), oStoreI 3, oIinc 4 (-1), tGo 1],
  [oLoadI 2, tIret]]
set_option maxRecDepth 100000 in
set_option maxHeartbeats 4000000 in
theorem mok_X2_turn {E : kE} {σ : List Nat} {l : Launch} {tb : List (List Int32)} (hE : kcl E = kCl) (hn : kn E = 6) (htb : ktb E = tb) : kMOK E (kXX (kb E)) σ kZs l kY kWS yX2_turn (kws yX2_turn cX2_turn 5 (some .int)) cX2_turn 5 (some .int) (fun cl => bl_X2_turn tb cl) := by
  intro d cl hS p e R s m args below meth c α0 nc0 ns0 res C hf hlo hr hnm hout
  have hXX : kXX (kb E) s := C.2.2.2.2.2.2.1.2.2.2.2
  refine ⟨fun b => [0, 7, 13, 34].getD b 0, rfl, kAllB_get (bl := bl_X2_turn tb cl) ⟨?_, ?_, ?_, ?_, trivial⟩⟩
  · exact (ch_cons (pc := 0) (pc' := 1) (ok_iconst C dX2_turn_0 (by decide)) <| ch_cons (pc := 1) (pc' := 2) (ok_istoren C dX2_turn_1 rfl (by decide)) <| ch_cons (pc := 2) (pc' := 3) (ok_iloadn C dX2_turn_2 rfl) <| ch_cons (pc := 3) (pc' := 4) (ok_istoren C dX2_turn_3 rfl (by decide)) <| ch_cons (pc := 4) (pc' := 5) (ok_iloadn C dX2_turn_4 rfl) <| ch_cons (pc := 5) (pc' := 7) (ok_istore C dX2_turn_5 (by decide)) <| ch_last (pc := 7) (ok_fall rfl))
  · exact (ch_cons (pc := 7) (pc' := 9) (ok_iload C dX2_turn_7) <| ch_cons (pc := 9) (pc' := 10) (ok_iconst C dX2_turn_9 (by decide)) <| ch_last (pc := 10) (ok_icmp_lt (tgt := 34) C dX2_turn_10 (by decide) rfl rfl))
  · exact (ch_cons (pc := 13) (pc' := 14) (ok_iloadn C dX2_turn_13 rfl) <| ch_cons (pc := 14) (pc' := 16) (ok_bipush C dX2_turn_14 (by decide)) <| ch_cons (pc := 16) (pc' := 17) (ok_imul C dX2_turn_16) <| ch_cons (pc := 17) (pc' := 18) (ok_iloadn C dX2_turn_17 rfl) <| ch_cons (pc := 18) (pc' := 20) (ok_bipush C dX2_turn_18 (by decide)) <| ch_cons (pc := 20) (pc' := 21) (ok_irem C dX2_turn_20) <| ch_cons (pc := 21) (pc' := 22) (ok_iadd C dX2_turn_21) <| ch_cons (pc := 22) (pc' := 23) (ok_istoren C dX2_turn_22 rfl (by decide)) <| ch_cons (pc := 23) (pc' := 24) (ok_iloadn C dX2_turn_23 rfl) <| ch_cons (pc := 24) (pc' := 26) (ok_bipush C dX2_turn_24 (by decide)) <| ch_cons (pc := 26) (pc' := 27) (ok_idiv C dX2_turn_26) <| ch_cons (pc := 27) (pc' := 28) (ok_istoren C dX2_turn_27 rfl (by decide)) <| ch_cons (pc := 28) (pc' := 31) (ok_iinc C dX2_turn_28 (by decide) (by decide)) <| ch_last (pc := 31) (ok_goto (tgt := 7) C dX2_turn_31 (by decide) rfl))
  · exact (ch_cons (pc := 34) (pc' := 35) (ok_iloadn C dX2_turn_34 rfl) <| ch_last (pc := 35) (ok_ireturn C hr dX2_turn_35))
/-- Bijectory$Orders.sort(II)I -/
def bl_X2_sort (tb : List (List Int32)) (cl : kCall) : List (List kOp) := [
  [oS (gPush (.int 0)), oStoreI 2, oS (gPush (.int 0)), oStoreI 3, oS (gPush (.int 1)), oStoreI 4, tGo 1],
  [oLoadI 4, oLoadI 1, tCmp (fun x y => decide (y < x)) 7 2],
  [oLoadI 0, oLoadI 1, oLoadI 4, oCall cl 18 3, oStoreI 5, tGo 3],
  [oLoadI 3, tIf (fun x => decide (x ≤ 0)) 6 4],
  [oLoadI 3, oS (gPush (.int 10)), oBin0 (fun x y => x - x / y * y), oLoadI 5, tCmp (fun x y => decide (y ≤ x)) 6 5],
  [oLoadI 2, oS (gPush (.int 10)), oBin (fun x y => x * y), oLoadI 3, oS (gPush (.int 10)), oBin0 (fun x y => x - x / y * y), oBin (fun x y => x + y), oStoreI 2, oLoadI 3, oS (gPush (.int 10)), oBin0 (fun x y => x / y), oStoreI 3, tGo 3],
  [oLoadI 3, oS (gPush (.int 10)), oBin (fun x y => x * y), oLoadI 5, oBin (fun x y => x + y), oStoreI 3, oIinc 4 1, tGo 1],
  [oLoadI 3, tIf (fun x => decide (x ≤ 0)) 9 8],
  [oLoadI 2, oS (gPush (.int 10)), oBin (fun x y => x * y), oLoadI 3, oS (gPush (.int 10)), oBin0 (fun x y => x - x / y * y), oBin (fun x y => x + y), oStoreI 2, oLoadI 3, oS (gPush (.int 10)), oBin0 (fun x y => x / y), oStoreI 3, tGo 7],
  [oLoadI 2, tIret]]
set_option maxRecDepth 100000 in
set_option maxHeartbeats 4000000 in
theorem mok_X2_sort {E : kE} {σ : List Nat} {l : Launch} {tb : List (List Int32)} (hE : kcl E = kCl) (hn : kn E = 6) (htb : ktb E = tb) : kMOK E (kXX (kb E)) σ kZs l kY kWS yX2_sort (kws yX2_sort cX2_sort 6 (some .int)) cX2_sort 6 (some .int) (fun cl => bl_X2_sort tb cl) := by
  intro d cl hS p e R s m args below meth c α0 nc0 ns0 res C hf hlo hr hnm hout
  have hXX : kXX (kb E) s := C.2.2.2.2.2.2.1.2.2.2.2
  refine ⟨fun b => [0, 7, 13, 22, 26, 35, 53, 67, 71, 89].getD b 0, rfl, kAllB_get (bl := bl_X2_sort tb cl) ⟨?_, ?_, ?_, ?_, ?_, ?_, ?_, ?_, ?_, ?_, trivial⟩⟩
  · exact (ch_cons (pc := 0) (pc' := 1) (ok_iconst C dX2_sort_0 (by decide)) <| ch_cons (pc := 1) (pc' := 2) (ok_istoren C dX2_sort_1 rfl (by decide)) <| ch_cons (pc := 2) (pc' := 3) (ok_iconst C dX2_sort_2 (by decide)) <| ch_cons (pc := 3) (pc' := 4) (ok_istoren C dX2_sort_3 rfl (by decide)) <| ch_cons (pc := 4) (pc' := 5) (ok_iconst C dX2_sort_4 (by decide)) <| ch_cons (pc := 5) (pc' := 7) (ok_istore C dX2_sort_5 (by decide)) <| ch_last (pc := 7) (ok_fall rfl))
  · exact (ch_cons (pc := 7) (pc' := 9) (ok_iload C dX2_sort_7) <| ch_cons (pc := 9) (pc' := 10) (ok_iloadn C dX2_sort_9 rfl) <| ch_last (pc := 10) (ok_icmp_gt (tgt := 67) C dX2_sort_10 (by decide) rfl rfl))
  · exact (ch_cons (pc := 13) (pc' := 14) (ok_iloadn C dX2_sort_13 rfl) <| ch_cons (pc := 14) (pc' := 15) (ok_iloadn C dX2_sort_14 rfl) <| ch_cons (pc := 15) (pc' := 17) (ok_iload C dX2_sort_15) <| ch_cons (pc := 17) (pc' := 20) (ok_callS (d := d) C hout hf hlo (sn_18 hS) rfl (kG_s gw_47 gw_48 gw_49 gw_46) (by decide) (by decide +kernel) dX2_sort_17) <| ch_cons (pc := 20) (pc' := 22) (ok_istore C dX2_sort_20 (by decide)) <| ch_last (pc := 22) (ok_fall rfl))
  · exact (ch_cons (pc := 22) (pc' := 23) (ok_iloadn C dX2_sort_22 rfl) <| ch_last (pc := 23) (ok_if_le (tgt := 53) C dX2_sort_23 (by decide) rfl rfl))
  · exact (ch_cons (pc := 26) (pc' := 27) (ok_iloadn C dX2_sort_26 rfl) <| ch_cons (pc := 27) (pc' := 29) (ok_bipush C dX2_sort_27 (by decide)) <| ch_cons (pc := 29) (pc' := 30) (ok_irem C dX2_sort_29) <| ch_cons (pc := 30) (pc' := 32) (ok_iload C dX2_sort_30) <| ch_last (pc := 32) (ok_icmp_ge (tgt := 53) C dX2_sort_32 (by decide) rfl rfl))
  · exact (ch_cons (pc := 35) (pc' := 36) (ok_iloadn C dX2_sort_35 rfl) <| ch_cons (pc := 36) (pc' := 38) (ok_bipush C dX2_sort_36 (by decide)) <| ch_cons (pc := 38) (pc' := 39) (ok_imul C dX2_sort_38) <| ch_cons (pc := 39) (pc' := 40) (ok_iloadn C dX2_sort_39 rfl) <| ch_cons (pc := 40) (pc' := 42) (ok_bipush C dX2_sort_40 (by decide)) <| ch_cons (pc := 42) (pc' := 43) (ok_irem C dX2_sort_42) <| ch_cons (pc := 43) (pc' := 44) (ok_iadd C dX2_sort_43) <| ch_cons (pc := 44) (pc' := 45) (ok_istoren C dX2_sort_44 rfl (by decide)) <| ch_cons (pc := 45) (pc' := 46) (ok_iloadn C dX2_sort_45 rfl) <| ch_cons (pc := 46) (pc' := 48) (ok_bipush C dX2_sort_46 (by decide)) <| ch_cons (pc := 48) (pc' := 49) (ok_idiv C dX2_sort_48) <| ch_cons (pc := 49) (pc' := 50) (ok_istoren C dX2_sort_49 rfl (by decide)) <| ch_last (pc := 50) (ok_goto (tgt := 22) C dX2_sort_50 (by decide) rfl))
  · exact (ch_cons (pc := 53) (pc' := 54) (ok_iloadn C dX2_sort_53 rfl) <| ch_cons (pc := 54) (pc' := 56) (ok_bipush C dX2_sort_54 (by decide)) <| ch_cons (pc := 56) (pc' := 57) (ok_imul C dX2_sort_56) <| ch_cons (pc := 57) (pc' := 59) (ok_iload C dX2_sort_57) <| ch_cons (pc := 59) (pc' := 60) (ok_iadd C dX2_sort_59) <| ch_cons (pc := 60) (pc' := 61) (ok_istoren C dX2_sort_60 rfl (by decide)) <| ch_cons (pc := 61) (pc' := 64) (ok_iinc C dX2_sort_61 (by decide) (by decide)) <| ch_last (pc := 64) (ok_goto (tgt := 7) C dX2_sort_64 (by decide) rfl))
  · exact (ch_cons (pc := 67) (pc' := 68) (ok_iloadn C dX2_sort_67 rfl) <| ch_last (pc := 68) (ok_if_le (tgt := 89) C dX2_sort_68 (by decide) rfl rfl))
  · exact (ch_cons (pc := 71) (pc' := 72) (ok_iloadn C dX2_sort_71 rfl) <| ch_cons (pc := 72) (pc' := 74) (ok_bipush C dX2_sort_72 (by decide)) <| ch_cons (pc := 74) (pc' := 75) (ok_imul C dX2_sort_74) <| ch_cons (pc := 75) (pc' := 76) (ok_iloadn C dX2_sort_75 rfl) <| ch_cons (pc := 76) (pc' := 78) (ok_bipush C dX2_sort_76 (by decide)) <| ch_cons (pc := 78) (pc' := 79) (ok_irem C dX2_sort_78) <| ch_cons (pc := 79) (pc' := 80) (ok_iadd C dX2_sort_79) <| ch_cons (pc := 80) (pc' := 81) (ok_istoren C dX2_sort_80 rfl (by decide)) <| ch_cons (pc := 81) (pc' := 82) (ok_iloadn C dX2_sort_81 rfl) <| ch_cons (pc := 82) (pc' := 84) (ok_bipush C dX2_sort_82 (by decide)) <| ch_cons (pc := 84) (pc' := 85) (ok_idiv C dX2_sort_84) <| ch_cons (pc := 85) (pc' := 86) (ok_istoren C dX2_sort_85 rfl (by decide)) <| ch_last (pc := 86) (ok_goto (tgt := 67) C dX2_sort_86 (by decide) rfl))
  · exact (ch_cons (pc := 89) (pc' := 90) (ok_iloadn C dX2_sort_89 rfl) <| ch_last (pc := 90) (ok_ireturn C hr dX2_sort_90))
/-- Bijectory$Orders.valueOf(III)I -/
def bl_X2_valueOf (tb : List (List Int32)) (cl : kCall) : List (List kOp) := [
  [oLoadI 0, tTab 0 [1, 2, 3] 4],
  [oLoadI 1, oLoadI 2, oCall cl 26 2, tIret],
  [oLoadI 1, oLoadI 2, oCall cl 27 2, tIret],
  [oLoadI 1, oLoadI 2, oCall cl 28 2, tIret],
  [oLoadI 1, oLoadI 2, oCall cl 29 2, tIret]]
set_option maxRecDepth 100000 in
set_option maxHeartbeats 4000000 in
theorem mok_X2_valueOf {E : kE} {σ : List Nat} {l : Launch} {tb : List (List Int32)} (hE : kcl E = kCl) (hn : kn E = 6) (htb : ktb E = tb) : kMOK E (kXX (kb E)) σ kZs l kY kWS yX2_valueOf (kws yX2_valueOf cX2_valueOf 3 (some .int)) cX2_valueOf 3 (some .int) (fun cl => bl_X2_valueOf tb cl) := by
  intro d cl hS p e R s m args below meth c α0 nc0 ns0 res C hf hlo hr hnm hout
  have hXX : kXX (kb E) s := C.2.2.2.2.2.2.1.2.2.2.2
  refine ⟨fun b => [0, 28, 34, 40, 46].getD b 0, rfl, kAllB_get (bl := bl_X2_valueOf tb cl) ⟨?_, ?_, ?_, ?_, ?_, trivial⟩⟩
  · exact (ch_cons (pc := 0) (pc' := 1) (ok_iloadn C dX2_valueOf_0 rfl) <| ch_last (pc := 1) (ok_table (td := 46) C dX2_valueOf_1 (by decide) (by decide) (by decide) rfl))
  · exact (ch_cons (pc := 28) (pc' := 29) (ok_iloadn C dX2_valueOf_28 rfl) <| ch_cons (pc := 29) (pc' := 30) (ok_iloadn C dX2_valueOf_29 rfl) <| ch_cons (pc := 30) (pc' := 33) (ok_callS (d := d) C hout hf hlo (sn_26 hS) rfl (kG_s gw_54 gw_55 gw_56 gw_46) (by decide) (by decide +kernel) dX2_valueOf_30) <| ch_last (pc := 33) (ok_ireturn C hr dX2_valueOf_33))
  · exact (ch_cons (pc := 34) (pc' := 35) (ok_iloadn C dX2_valueOf_34 rfl) <| ch_cons (pc := 35) (pc' := 36) (ok_iloadn C dX2_valueOf_35 rfl) <| ch_cons (pc := 36) (pc' := 39) (ok_callS (d := d) C hout hf hlo (sn_27 hS) rfl (kG_s gw_57 gw_58 gw_59 gw_46) (by decide) (by decide +kernel) dX2_valueOf_36) <| ch_last (pc := 39) (ok_ireturn C hr dX2_valueOf_39))
  · exact (ch_cons (pc := 40) (pc' := 41) (ok_iloadn C dX2_valueOf_40 rfl) <| ch_cons (pc := 41) (pc' := 42) (ok_iloadn C dX2_valueOf_41 rfl) <| ch_cons (pc := 42) (pc' := 45) (ok_callS (d := d) C hout hf hlo (sn_28 hS) rfl (kG_s gw_60 gw_61 gw_62 gw_46) (by decide) (by decide +kernel) dX2_valueOf_42) <| ch_last (pc := 45) (ok_ireturn C hr dX2_valueOf_45))
  · exact (ch_cons (pc := 46) (pc' := 47) (ok_iloadn C dX2_valueOf_46 rfl) <| ch_cons (pc := 47) (pc' := 48) (ok_iloadn C dX2_valueOf_47 rfl) <| ch_cons (pc := 48) (pc' := 51) (ok_callS (d := d) C hout hf hlo (sn_29 hS) rfl (kG_s gw_63 gw_64 gw_65 gw_46) (by decide) (by decide +kernel) dX2_valueOf_48) <| ch_last (pc := 51) (ok_ireturn C hr dX2_valueOf_51))
/-- Bijectory$Orders.drops(II)I -/
def bl_X2_drops (tb : List (List Int32)) (cl : kCall) : List (List kOp) := [
  [oS (gPush (.int 0)), oStoreI 2, oS (gPush (.int 2)), oStoreI 3, tGo 1],
  [oLoadI 3, oLoadI 1, tCmp (fun x y => decide (y < x)) 5 2],
  [oLoadI 0, oLoadI 1, oLoadI 3, oS (gPush (.int 1)), oBin (fun x y => x - y), oCall cl 18 3, oLoadI 0, oLoadI 1, oLoadI 3, oCall cl 18 3, tCmp (fun x y => decide (x ≤ y)) 4 3],
  [oIinc 2 1, tGo 4],
  [oIinc 3 1, tGo 1],
  [oLoadI 2, tIret]]
set_option maxRecDepth 100000 in
set_option maxHeartbeats 4000000 in
theorem mok_X2_drops {E : kE} {σ : List Nat} {l : Launch} {tb : List (List Int32)} (hE : kcl E = kCl) (hn : kn E = 6) (htb : ktb E = tb) : kMOK E (kXX (kb E)) σ kZs l kY kWS yX2_drops (kws yX2_drops cX2_drops 4 (some .int)) cX2_drops 4 (some .int) (fun cl => bl_X2_drops tb cl) := by
  intro d cl hS p e R s m args below meth c α0 nc0 ns0 res C hf hlo hr hnm hout
  have hXX : kXX (kb E) s := C.2.2.2.2.2.2.1.2.2.2.2
  refine ⟨fun b => [0, 4, 9, 26, 29, 35].getD b 0, rfl, kAllB_get (bl := bl_X2_drops tb cl) ⟨?_, ?_, ?_, ?_, ?_, ?_, trivial⟩⟩
  · exact (ch_cons (pc := 0) (pc' := 1) (ok_iconst C dX2_drops_0 (by decide)) <| ch_cons (pc := 1) (pc' := 2) (ok_istoren C dX2_drops_1 rfl (by decide)) <| ch_cons (pc := 2) (pc' := 3) (ok_iconst C dX2_drops_2 (by decide)) <| ch_cons (pc := 3) (pc' := 4) (ok_istoren C dX2_drops_3 rfl (by decide)) <| ch_last (pc := 4) (ok_fall rfl))
  · exact (ch_cons (pc := 4) (pc' := 5) (ok_iloadn C dX2_drops_4 rfl) <| ch_cons (pc := 5) (pc' := 6) (ok_iloadn C dX2_drops_5 rfl) <| ch_last (pc := 6) (ok_icmp_gt (tgt := 35) C dX2_drops_6 (by decide) rfl rfl))
  · exact (ch_cons (pc := 9) (pc' := 10) (ok_iloadn C dX2_drops_9 rfl) <| ch_cons (pc := 10) (pc' := 11) (ok_iloadn C dX2_drops_10 rfl) <| ch_cons (pc := 11) (pc' := 12) (ok_iloadn C dX2_drops_11 rfl) <| ch_cons (pc := 12) (pc' := 13) (ok_iconst C dX2_drops_12 (by decide)) <| ch_cons (pc := 13) (pc' := 14) (ok_isub C dX2_drops_13) <| ch_cons (pc := 14) (pc' := 17) (ok_callS (d := d) C hout hf hlo (sn_18 hS) rfl (kG_s gw_47 gw_48 gw_49 gw_46) (by decide) (by decide +kernel) dX2_drops_14) <| ch_cons (pc := 17) (pc' := 18) (ok_iloadn C dX2_drops_17 rfl) <| ch_cons (pc := 18) (pc' := 19) (ok_iloadn C dX2_drops_18 rfl) <| ch_cons (pc := 19) (pc' := 20) (ok_iloadn C dX2_drops_19 rfl) <| ch_cons (pc := 20) (pc' := 23) (ok_callS (d := d) C hout hf hlo (sn_18 hS) rfl (kG_s gw_47 gw_48 gw_49 gw_46) (by decide) (by decide +kernel) dX2_drops_20) <| ch_last (pc := 23) (ok_icmp_le (tgt := 29) C dX2_drops_23 (by decide) rfl rfl))
  · exact (ch_cons (pc := 26) (pc' := 29) (ok_iinc C dX2_drops_26 (by decide) (by decide)) <| ch_last (pc := 29) (ok_fall rfl))
  · exact (ch_cons (pc := 29) (pc' := 32) (ok_iinc C dX2_drops_29 (by decide) (by decide)) <| ch_last (pc := 32) (ok_goto (tgt := 4) C dX2_drops_32 (by decide) rfl))
  · exact (ch_cons (pc := 35) (pc' := 36) (ok_iloadn C dX2_drops_35 rfl) <| ch_last (pc := 36) (ok_ireturn C hr dX2_drops_36))
/-- Bijectory$Orders.inversions(II)I -/
def bl_X2_inversions (tb : List (List Int32)) (cl : kCall) : List (List kOp) := [
  [oS (gPush (.int 0)), oStoreI 2, oS (gPush (.int 2)), oStoreI 3, tGo 1],
  [oLoadI 3, oLoadI 1, tCmp (fun x y => decide (y < x)) 8 2],
  [oS (gPush (.int 1)), oStoreI 4, tGo 3],
  [oLoadI 4, oLoadI 3, tCmp (fun x y => decide (y ≤ x)) 7 4],
  [oLoadI 0, oLoadI 1, oLoadI 4, oCall cl 18 3, oLoadI 0, oLoadI 1, oLoadI 3, oCall cl 18 3, tCmp (fun x y => decide (x ≤ y)) 6 5],
  [oIinc 2 1, tGo 6],
  [oIinc 4 1, tGo 3],
  [oIinc 3 1, tGo 1],
  [oLoadI 2, tIret]]
set_option maxRecDepth 100000 in
set_option maxHeartbeats 4000000 in
theorem mok_X2_inversions {E : kE} {σ : List Nat} {l : Launch} {tb : List (List Int32)} (hE : kcl E = kCl) (hn : kn E = 6) (htb : ktb E = tb) : kMOK E (kXX (kb E)) σ kZs l kY kWS yX2_inversions (kws yX2_inversions cX2_inversions 5 (some .int)) cX2_inversions 5 (some .int) (fun cl => bl_X2_inversions tb cl) := by
  intro d cl hS p e R s m args below meth c α0 nc0 ns0 res C hf hlo hr hnm hout
  have hXX : kXX (kb E) s := C.2.2.2.2.2.2.1.2.2.2.2
  refine ⟨fun b => [0, 4, 9, 12, 18, 34, 37, 43, 49].getD b 0, rfl, kAllB_get (bl := bl_X2_inversions tb cl) ⟨?_, ?_, ?_, ?_, ?_, ?_, ?_, ?_, ?_, trivial⟩⟩
  · exact (ch_cons (pc := 0) (pc' := 1) (ok_iconst C dX2_inversions_0 (by decide)) <| ch_cons (pc := 1) (pc' := 2) (ok_istoren C dX2_inversions_1 rfl (by decide)) <| ch_cons (pc := 2) (pc' := 3) (ok_iconst C dX2_inversions_2 (by decide)) <| ch_cons (pc := 3) (pc' := 4) (ok_istoren C dX2_inversions_3 rfl (by decide)) <| ch_last (pc := 4) (ok_fall rfl))
  · exact (ch_cons (pc := 4) (pc' := 5) (ok_iloadn C dX2_inversions_4 rfl) <| ch_cons (pc := 5) (pc' := 6) (ok_iloadn C dX2_inversions_5 rfl) <| ch_last (pc := 6) (ok_icmp_gt (tgt := 49) C dX2_inversions_6 (by decide) rfl rfl))
  · exact (ch_cons (pc := 9) (pc' := 10) (ok_iconst C dX2_inversions_9 (by decide)) <| ch_cons (pc := 10) (pc' := 12) (ok_istore C dX2_inversions_10 (by decide)) <| ch_last (pc := 12) (ok_fall rfl))
  · exact (ch_cons (pc := 12) (pc' := 14) (ok_iload C dX2_inversions_12) <| ch_cons (pc := 14) (pc' := 15) (ok_iloadn C dX2_inversions_14 rfl) <| ch_last (pc := 15) (ok_icmp_ge (tgt := 43) C dX2_inversions_15 (by decide) rfl rfl))
  · exact (ch_cons (pc := 18) (pc' := 19) (ok_iloadn C dX2_inversions_18 rfl) <| ch_cons (pc := 19) (pc' := 20) (ok_iloadn C dX2_inversions_19 rfl) <| ch_cons (pc := 20) (pc' := 22) (ok_iload C dX2_inversions_20) <| ch_cons (pc := 22) (pc' := 25) (ok_callS (d := d) C hout hf hlo (sn_18 hS) rfl (kG_s gw_47 gw_48 gw_49 gw_46) (by decide) (by decide +kernel) dX2_inversions_22) <| ch_cons (pc := 25) (pc' := 26) (ok_iloadn C dX2_inversions_25 rfl) <| ch_cons (pc := 26) (pc' := 27) (ok_iloadn C dX2_inversions_26 rfl) <| ch_cons (pc := 27) (pc' := 28) (ok_iloadn C dX2_inversions_27 rfl) <| ch_cons (pc := 28) (pc' := 31) (ok_callS (d := d) C hout hf hlo (sn_18 hS) rfl (kG_s gw_47 gw_48 gw_49 gw_46) (by decide) (by decide +kernel) dX2_inversions_28) <| ch_last (pc := 31) (ok_icmp_le (tgt := 37) C dX2_inversions_31 (by decide) rfl rfl))
  · exact (ch_cons (pc := 34) (pc' := 37) (ok_iinc C dX2_inversions_34 (by decide) (by decide)) <| ch_last (pc := 37) (ok_fall rfl))
  · exact (ch_cons (pc := 37) (pc' := 40) (ok_iinc C dX2_inversions_37 (by decide) (by decide)) <| ch_last (pc := 40) (ok_goto (tgt := 12) C dX2_inversions_40 (by decide) rfl))
  · exact (ch_cons (pc := 43) (pc' := 46) (ok_iinc C dX2_inversions_43 (by decide) (by decide)) <| ch_last (pc := 46) (ok_goto (tgt := 4) C dX2_inversions_46 (by decide) rfl))
  · exact (ch_cons (pc := 49) (pc' := 50) (ok_iloadn C dX2_inversions_49 rfl) <| ch_last (pc := 50) (ok_ireturn C hr dX2_inversions_50))
/-- Bijectory$Orders.records(II)I -/
def bl_X2_records (tb : List (List Int32)) (cl : kCall) : List (List kOp) := [
  [oS (gPush (.int 0)), oStoreI 2, oS (gPush (.int 0)), oStoreI 3, oS (gPush (.int 1)), oStoreI 4, tGo 1],
  [oLoadI 4, oLoadI 1, tCmp (fun x y => decide (y < x)) 5 2],
  [oLoadI 0, oLoadI 1, oLoadI 4, oCall cl 18 3, oStoreI 5, oLoadI 5, oLoadI 3, tCmp (fun x y => decide (x ≤ y)) 4 3],
  [oLoadI 5, oStoreI 3, oIinc 2 1, tGo 4],
  [oIinc 4 1, tGo 1],
  [oLoadI 2, tIret]]
set_option maxRecDepth 100000 in
set_option maxHeartbeats 4000000 in
theorem mok_X2_records {E : kE} {σ : List Nat} {l : Launch} {tb : List (List Int32)} (hE : kcl E = kCl) (hn : kn E = 6) (htb : ktb E = tb) : kMOK E (kXX (kb E)) σ kZs l kY kWS yX2_records (kws yX2_records cX2_records 6 (some .int)) cX2_records 6 (some .int) (fun cl => bl_X2_records tb cl) := by
  intro d cl hS p e R s m args below meth c α0 nc0 ns0 res C hf hlo hr hnm hout
  have hXX : kXX (kb E) s := C.2.2.2.2.2.2.1.2.2.2.2
  refine ⟨fun b => [0, 7, 13, 28, 34, 40].getD b 0, rfl, kAllB_get (bl := bl_X2_records tb cl) ⟨?_, ?_, ?_, ?_, ?_, ?_, trivial⟩⟩
  · exact (ch_cons (pc := 0) (pc' := 1) (ok_iconst C dX2_records_0 (by decide)) <| ch_cons (pc := 1) (pc' := 2) (ok_istoren C dX2_records_1 rfl (by decide)) <| ch_cons (pc := 2) (pc' := 3) (ok_iconst C dX2_records_2 (by decide)) <| ch_cons (pc := 3) (pc' := 4) (ok_istoren C dX2_records_3 rfl (by decide)) <| ch_cons (pc := 4) (pc' := 5) (ok_iconst C dX2_records_4 (by decide)) <| ch_cons (pc := 5) (pc' := 7) (ok_istore C dX2_records_5 (by decide)) <| ch_last (pc := 7) (ok_fall rfl))
  · exact (ch_cons (pc := 7) (pc' := 9) (ok_iload C dX2_records_7) <| ch_cons (pc := 9) (pc' := 10) (ok_iloadn C dX2_records_9 rfl) <| ch_last (pc := 10) (ok_icmp_gt (tgt := 40) C dX2_records_10 (by decide) rfl rfl))
  · exact (ch_cons (pc := 13) (pc' := 14) (ok_iloadn C dX2_records_13 rfl) <| ch_cons (pc := 14) (pc' := 15) (ok_iloadn C dX2_records_14 rfl) <| ch_cons (pc := 15) (pc' := 17) (ok_iload C dX2_records_15) <| ch_cons (pc := 17) (pc' := 20) (ok_callS (d := d) C hout hf hlo (sn_18 hS) rfl (kG_s gw_47 gw_48 gw_49 gw_46) (by decide) (by decide +kernel) dX2_records_17) <| ch_cons (pc := 20) (pc' := 22) (ok_istore C dX2_records_20 (by decide)) <| ch_cons (pc := 22) (pc' := 24) (ok_iload C dX2_records_22) <| ch_cons (pc := 24) (pc' := 25) (ok_iloadn C dX2_records_24 rfl) <| ch_last (pc := 25) (ok_icmp_le (tgt := 34) C dX2_records_25 (by decide) rfl rfl))
  · exact (ch_cons (pc := 28) (pc' := 30) (ok_iload C dX2_records_28) <| ch_cons (pc := 30) (pc' := 31) (ok_istoren C dX2_records_30 rfl (by decide)) <| ch_cons (pc := 31) (pc' := 34) (ok_iinc C dX2_records_31 (by decide) (by decide)) <| ch_last (pc := 34) (ok_fall rfl))
  · exact (ch_cons (pc := 34) (pc' := 37) (ok_iinc C dX2_records_34 (by decide) (by decide)) <| ch_last (pc := 37) (ok_goto (tgt := 7) C dX2_records_37 (by decide) rfl))
  · exact (ch_cons (pc := 40) (pc' := 41) (ok_iloadn C dX2_records_40 rfl) <| ch_last (pc := 41) (ok_ireturn C hr dX2_records_41))
/-- Bijectory$Orders.unmoved(II)I -/
def bl_X2_unmoved (tb : List (List Int32)) (cl : kCall) : List (List kOp) := [
  [oS (gPush (.int 0)), oStoreI 2, oS (gPush (.int 1)), oStoreI 3, tGo 1],
  [oLoadI 3, oLoadI 1, tCmp (fun x y => decide (y < x)) 5 2],
  [oLoadI 0, oLoadI 1, oLoadI 3, oCall cl 18 3, oLoadI 3, tCmp (fun x y => !decide (x = y)) 4 3],
  [oIinc 2 1, tGo 4],
  [oIinc 3 1, tGo 1],
  [oLoadI 2, tIret]]
set_option maxRecDepth 100000 in
set_option maxHeartbeats 4000000 in
theorem mok_X2_unmoved {E : kE} {σ : List Nat} {l : Launch} {tb : List (List Int32)} (hE : kcl E = kCl) (hn : kn E = 6) (htb : ktb E = tb) : kMOK E (kXX (kb E)) σ kZs l kY kWS yX2_unmoved (kws yX2_unmoved cX2_unmoved 4 (some .int)) cX2_unmoved 4 (some .int) (fun cl => bl_X2_unmoved tb cl) := by
  intro d cl hS p e R s m args below meth c α0 nc0 ns0 res C hf hlo hr hnm hout
  have hXX : kXX (kb E) s := C.2.2.2.2.2.2.1.2.2.2.2
  refine ⟨fun b => [0, 4, 9, 19, 22, 28].getD b 0, rfl, kAllB_get (bl := bl_X2_unmoved tb cl) ⟨?_, ?_, ?_, ?_, ?_, ?_, trivial⟩⟩
  · exact (ch_cons (pc := 0) (pc' := 1) (ok_iconst C dX2_unmoved_0 (by decide)) <| ch_cons (pc := 1) (pc' := 2) (ok_istoren C dX2_unmoved_1 rfl (by decide)) <| ch_cons (pc := 2) (pc' := 3) (ok_iconst C dX2_unmoved_2 (by decide)) <| ch_cons (pc := 3) (pc' := 4) (ok_istoren C dX2_unmoved_3 rfl (by decide)) <| ch_last (pc := 4) (ok_fall rfl))
  · exact (ch_cons (pc := 4) (pc' := 5) (ok_iloadn C dX2_unmoved_4 rfl) <| ch_cons (pc := 5) (pc' := 6) (ok_iloadn C dX2_unmoved_5 rfl) <| ch_last (pc := 6) (ok_icmp_gt (tgt := 28) C dX2_unmoved_6 (by decide) rfl rfl))
  · exact (ch_cons (pc := 9) (pc' := 10) (ok_iloadn C dX2_unmoved_9 rfl) <| ch_cons (pc := 10) (pc' := 11) (ok_iloadn C dX2_unmoved_10 rfl) <| ch_cons (pc := 11) (pc' := 12) (ok_iloadn C dX2_unmoved_11 rfl) <| ch_cons (pc := 12) (pc' := 15) (ok_callS (d := d) C hout hf hlo (sn_18 hS) rfl (kG_s gw_47 gw_48 gw_49 gw_46) (by decide) (by decide +kernel) dX2_unmoved_12) <| ch_cons (pc := 15) (pc' := 16) (ok_iloadn C dX2_unmoved_15 rfl) <| ch_last (pc := 16) (ok_icmp_ne (tgt := 22) C dX2_unmoved_16 (by decide) rfl rfl))
  · exact (ch_cons (pc := 19) (pc' := 22) (ok_iinc C dX2_unmoved_19 (by decide) (by decide)) <| ch_last (pc := 22) (ok_fall rfl))
  · exact (ch_cons (pc := 22) (pc' := 25) (ok_iinc C dX2_unmoved_22 (by decide) (by decide)) <| ch_last (pc := 25) (ok_goto (tgt := 4) C dX2_unmoved_25 (by decide) rfl))
  · exact (ch_cons (pc := 28) (pc' := 29) (ok_iloadn C dX2_unmoved_28 rfl) <| ch_last (pc := 29) (ok_ireturn C hr dX2_unmoved_29))
