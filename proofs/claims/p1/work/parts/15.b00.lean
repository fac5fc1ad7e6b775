/-- Bijectory$Rows.at([II)I -/
def bl_X5_at (tb : List (List Int32)) (cl : kCall) : List (List kOp) := [
  [oLoadR 0, tNull 4 1],
  [oLoadI 1, tIf (fun x => decide (x < 0)) 4 2],
  [oLoadI 1, oLoadR 0, oAlen tb, tCmp (fun x y => decide (y ≤ x)) 4 3],
  [oLoadR 0, oLoadI 1, oIald tb, tGo 5],
  [oS (gPush (.int 0)), tGo 5],
  [tIret]]
set_option maxRecDepth 100000 in
set_option maxHeartbeats 4000000 in
theorem mok_X5_at {E : kE} {σ : List Nat} {l : Launch} {tb : List (List Int32)} (hE : kcl E = kCl) (hn : kn E = 20) (htb : ktb E = tb) : kMOK E (kXX (kb E) σ) σ kZs l kY kWS yX5_at (kws yX5_at cX5_at 2 (some .int)) cX5_at 2 (some .int) (fun cl => bl_X5_at tb cl) := by
  intro d cl hS p e R s m args below meth c α0 nc0 ns0 res C hf hlo hr hnm hout
  have hXX : kXX (kb E) σ s := C.2.2.2.2.2.2.1.2.2.2.2
  refine ⟨fun b => [0, 4, 8, 14, 20, 21].getD b 0, rfl, kAllB_get (bl := bl_X5_at tb cl) ⟨?_, ?_, ?_, ?_, ?_, ?_, trivial⟩⟩
  · exact (ch_cons (pc := 0) (pc' := 1) (ok_aloadRn C dX5_at_0 rfl) <| ch_last (pc := 1) (ok_ifnull (tgt := 20) C dX5_at_1 (by decide) rfl rfl))
  · exact (ch_cons (pc := 4) (pc' := 5) (ok_iloadn C dX5_at_4 rfl) <| ch_last (pc := 5) (ok_if_lt (tgt := 20) C dX5_at_5 (by decide) rfl rfl))
  · exact (ch_cons (pc := 8) (pc' := 9) (ok_iloadn C dX5_at_8 rfl) <| ch_cons (pc := 9) (pc' := 10) (ok_aloadRn C dX5_at_9 rfl) <| ch_cons (pc := 10) (pc' := 11) (ok_alen C htb dX5_at_10) <| ch_last (pc := 11) (ok_icmp_ge (tgt := 20) C dX5_at_11 (by decide) rfl rfl))
  · exact (ch_cons (pc := 14) (pc' := 15) (ok_aloadRn C dX5_at_14 rfl) <| ch_cons (pc := 15) (pc' := 16) (ok_iloadn C dX5_at_15 rfl) <| ch_cons (pc := 16) (pc' := 17) (ok_iaload C htb dX5_at_16) <| ch_last (pc := 17) (ok_goto (tgt := 21) C dX5_at_17 (by decide) rfl))
  · exact (ch_cons (pc := 20) (pc' := 21) (ok_iconst C dX5_at_20 (by decide)) <| ch_last (pc := 21) (ok_fall rfl))
  · exact (ch_last (pc := 21) (ok_ireturn C hr dX5_at_21))
/-- Bijectory$Rows.at([[III)I -/
def bl_X5_at_ (tb : List (List Int32)) (cl : kCall) : List (List kOp) := [
  [oLoadR 0, tNull 4 1],
  [oLoadI 1, tIf (fun x => decide (x < 0)) 4 2],
  [oLoadI 1, oLoadR 0, oAlen tb, tCmp (fun x y => decide (y ≤ x)) 4 3],
  [oLoadR 0, oLoadI 1, oAald 20, tGo 5],
  [oS (gPush .null), tGo 5],
  [oStoreR 3, oLoadR 3, tNull 9 6],
  [oLoadI 2, tIf (fun x => decide (x < 0)) 9 7],
  [oLoadI 2, oLoadR 3, oAlen tb, tCmp (fun x y => decide (y ≤ x)) 9 8],
  [oLoadR 3, oLoadI 2, oIald tb, tGo 10],
  [oS (gPush (.int 0)), tGo 10],
  [tIret]]
set_option maxRecDepth 100000 in
set_option maxHeartbeats 4000000 in
theorem mok_X5_at_ {E : kE} {σ : List Nat} {l : Launch} {tb : List (List Int32)} (hE : kcl E = kCl) (hn : kn E = 20) (htb : ktb E = tb) : kMOK E (kXX (kb E) σ) σ kZs l kY kWS yX5_at_ (kws yX5_at_ cX5_at_ 4 (some .int)) cX5_at_ 4 (some .int) (fun cl => bl_X5_at_ tb cl) := by
  intro d cl hS p e R s m args below meth c α0 nc0 ns0 res C hf hlo hr hnm hout
  have hXX : kXX (kb E) σ s := C.2.2.2.2.2.2.1.2.2.2.2
  refine ⟨fun b => [0, 4, 8, 14, 20, 21, 26, 30, 36, 42, 43].getD b 0, rfl, kAllB_get (bl := bl_X5_at_ tb cl) ⟨?_, ?_, ?_, ?_, ?_, ?_, ?_, ?_, ?_, ?_, ?_, trivial⟩⟩
  · exact (ch_cons (pc := 0) (pc' := 1) (ok_aloadRn C dX5_at__0 rfl) <| ch_last (pc := 1) (ok_ifnull (tgt := 20) C dX5_at__1 (by decide) rfl rfl))
  · exact (ch_cons (pc := 4) (pc' := 5) (ok_iloadn C dX5_at__4 rfl) <| ch_last (pc := 5) (ok_if_lt (tgt := 20) C dX5_at__5 (by decide) rfl rfl))
  · exact (ch_cons (pc := 8) (pc' := 9) (ok_iloadn C dX5_at__8 rfl) <| ch_cons (pc := 9) (pc' := 10) (ok_aloadRn C dX5_at__9 rfl) <| ch_cons (pc := 10) (pc' := 11) (ok_alen C htb dX5_at__10) <| ch_last (pc := 11) (ok_icmp_ge (tgt := 20) C dX5_at__11 (by decide) rfl rfl))
  · exact (ch_cons (pc := 14) (pc' := 15) (ok_aloadRn C dX5_at__14 rfl) <| ch_cons (pc := 15) (pc' := 16) (ok_iloadn C dX5_at__15 rfl) <| ch_cons (pc := 16) (pc' := 17) (ok_aaload C hn dX5_at__16) <| ch_last (pc := 17) (ok_goto (tgt := 21) C dX5_at__17 (by decide) rfl))
  · exact (ch_cons (pc := 20) (pc' := 21) (ok_null C dX5_at__20) <| ch_last (pc := 21) (ok_fall rfl))
  · exact (ch_cons (pc := 21) (pc' := 22) (ok_astoreRn C dX5_at__21 rfl (by decide)) <| ch_cons (pc := 22) (pc' := 23) (ok_aloadRn C dX5_at__22 rfl) <| ch_last (pc := 23) (ok_ifnull (tgt := 42) C dX5_at__23 (by decide) rfl rfl))
  · exact (ch_cons (pc := 26) (pc' := 27) (ok_iloadn C dX5_at__26 rfl) <| ch_last (pc := 27) (ok_if_lt (tgt := 42) C dX5_at__27 (by decide) rfl rfl))
  · exact (ch_cons (pc := 30) (pc' := 31) (ok_iloadn C dX5_at__30 rfl) <| ch_cons (pc := 31) (pc' := 32) (ok_aloadRn C dX5_at__31 rfl) <| ch_cons (pc := 32) (pc' := 33) (ok_alen C htb dX5_at__32) <| ch_last (pc := 33) (ok_icmp_ge (tgt := 42) C dX5_at__33 (by decide) rfl rfl))
  · exact (ch_cons (pc := 36) (pc' := 37) (ok_aloadRn C dX5_at__36 rfl) <| ch_cons (pc := 37) (pc' := 38) (ok_iloadn C dX5_at__37 rfl) <| ch_cons (pc := 38) (pc' := 39) (ok_iaload C htb dX5_at__38) <| ch_last (pc := 39) (ok_goto (tgt := 43) C dX5_at__39 (by decide) rfl))
  · exact (ch_cons (pc := 42) (pc' := 43) (ok_iconst C dX5_at__42 (by decide)) <| ch_last (pc := 43) (ok_fall rfl))
  · exact (ch_last (pc := 43) (ok_ireturn C hr dX5_at__43))
/-- Bijectory$Rows.put([III)V -/
def bl_X5_put (tb : List (List Int32)) (cl : kCall) : List (List kOp) := [
  [oLoadR 0, tNull 4 1],
  [oLoadI 1, tIf (fun x => decide (x < 0)) 4 2],
  [oLoadI 1, oLoadR 0, oAlen tb, tCmp (fun x y => decide (y ≤ x)) 4 3],
  [oLoadR 0, oLoadI 1, oLoadI 2, oIast 20, tGo 4],
  [tVret]]
set_option maxRecDepth 100000 in
set_option maxHeartbeats 4000000 in
theorem mok_X5_put {E : kE} {σ : List Nat} {l : Launch} {tb : List (List Int32)} (hE : kcl E = kCl) (hn : kn E = 20) (htb : ktb E = tb) : kMOK E (kXX (kb E) σ) σ kZs l kY kWS yX5_put (kws yX5_put cX5_put 3 none) cX5_put 3 none (fun cl => bl_X5_put tb cl) := by
  intro d cl hS p e R s m args below meth c α0 nc0 ns0 res C hf hlo hr hnm hout
  have hXX : kXX (kb E) σ s := C.2.2.2.2.2.2.1.2.2.2.2
  refine ⟨fun b => [0, 4, 8, 14, 18].getD b 0, rfl, kAllB_get (bl := bl_X5_put tb cl) ⟨?_, ?_, ?_, ?_, ?_, trivial⟩⟩
  · exact (ch_cons (pc := 0) (pc' := 1) (ok_aloadRn C dX5_put_0 rfl) <| ch_last (pc := 1) (ok_ifnull (tgt := 18) C dX5_put_1 (by decide) rfl rfl))
  · exact (ch_cons (pc := 4) (pc' := 5) (ok_iloadn C dX5_put_4 rfl) <| ch_last (pc := 5) (ok_if_lt (tgt := 18) C dX5_put_5 (by decide) rfl rfl))
  · exact (ch_cons (pc := 8) (pc' := 9) (ok_iloadn C dX5_put_8 rfl) <| ch_cons (pc := 9) (pc' := 10) (ok_aloadRn C dX5_put_9 rfl) <| ch_cons (pc := 10) (pc' := 11) (ok_alen C htb dX5_put_10) <| ch_last (pc := 11) (ok_icmp_ge (tgt := 18) C dX5_put_11 (by decide) rfl rfl))
  · exact (ch_cons (pc := 14) (pc' := 15) (ok_aloadRn C dX5_put_14 rfl) <| ch_cons (pc := 15) (pc' := 16) (ok_iloadn C dX5_put_15 rfl) <| ch_cons (pc := 16) (pc' := 17) (ok_iloadn C dX5_put_16 rfl) <| ch_cons (pc := 17) (pc' := 18) (ok_iastore C hn dX5_put_17) <| ch_last (pc := 18) (ok_fall rfl))
  · exact (ch_last (pc := 18) (ok_return C hr dX5_put_18))
/-- Bijectory$Rows.put([[IIII)V -/
def bl_X5_put_ (tb : List (List Int32)) (cl : kCall) : List (List kOp) := [
  [oLoadR 0, tNull 4 1],
  [oLoadI 1, tIf (fun x => decide (x < 0)) 4 2],
  [oLoadI 1, oLoadR 0, oAlen tb, tCmp (fun x y => decide (y ≤ x)) 4 3],
  [oLoadR 0, oLoadI 1, oAald 20, tGo 5],
  [oS (gPush .null), tGo 5],
  [oStoreR 4, oLoadR 4, tNull 9 6],
  [oLoadI 2, tIf (fun x => decide (x < 0)) 9 7],
  [oLoadI 2, oLoadR 4, oAlen tb, tCmp (fun x y => decide (y ≤ x)) 9 8],
  [oLoadR 4, oLoadI 2, oLoadI 3, oIast 20, tGo 9],
  [tVret]]
set_option maxRecDepth 100000 in
set_option maxHeartbeats 4000000 in
theorem mok_X5_put_ {E : kE} {σ : List Nat} {l : Launch} {tb : List (List Int32)} (hE : kcl E = kCl) (hn : kn E = 20) (htb : ktb E = tb) : kMOK E (kXX (kb E) σ) σ kZs l kY kWS yX5_put_ (kws yX5_put_ cX5_put_ 5 none) cX5_put_ 5 none (fun cl => bl_X5_put_ tb cl) := by
  intro d cl hS p e R s m args below meth c α0 nc0 ns0 res C hf hlo hr hnm hout
  have hXX : kXX (kb E) σ s := C.2.2.2.2.2.2.1.2.2.2.2
  refine ⟨fun b => [0, 4, 8, 14, 20, 21, 28, 32, 39, 44].getD b 0, rfl, kAllB_get (bl := bl_X5_put_ tb cl) ⟨?_, ?_, ?_, ?_, ?_, ?_, ?_, ?_, ?_, ?_, trivial⟩⟩
  · exact (ch_cons (pc := 0) (pc' := 1) (ok_aloadRn C dX5_put__0 rfl) <| ch_last (pc := 1) (ok_ifnull (tgt := 20) C dX5_put__1 (by decide) rfl rfl))
  · exact (ch_cons (pc := 4) (pc' := 5) (ok_iloadn C dX5_put__4 rfl) <| ch_last (pc := 5) (ok_if_lt (tgt := 20) C dX5_put__5 (by decide) rfl rfl))
  · exact (ch_cons (pc := 8) (pc' := 9) (ok_iloadn C dX5_put__8 rfl) <| ch_cons (pc := 9) (pc' := 10) (ok_aloadRn C dX5_put__9 rfl) <| ch_cons (pc := 10) (pc' := 11) (ok_alen C htb dX5_put__10) <| ch_last (pc := 11) (ok_icmp_ge (tgt := 20) C dX5_put__11 (by decide) rfl rfl))
  · exact (ch_cons (pc := 14) (pc' := 15) (ok_aloadRn C dX5_put__14 rfl) <| ch_cons (pc := 15) (pc' := 16) (ok_iloadn C dX5_put__15 rfl) <| ch_cons (pc := 16) (pc' := 17) (ok_aaload C hn dX5_put__16) <| ch_last (pc := 17) (ok_goto (tgt := 21) C dX5_put__17 (by decide) rfl))
  · exact (ch_cons (pc := 20) (pc' := 21) (ok_null C dX5_put__20) <| ch_last (pc := 21) (ok_fall rfl))
  · exact (ch_cons (pc := 21) (pc' := 23) (ok_astoreR C dX5_put__21 (by decide)) <| ch_cons (pc := 23) (pc' := 25) (ok_aloadR C dX5_put__23) <| ch_last (pc := 25) (ok_ifnull (tgt := 44) C dX5_put__25 (by decide) rfl rfl))
  · exact (ch_cons (pc := 28) (pc' := 29) (ok_iloadn C dX5_put__28 rfl) <| ch_last (pc := 29) (ok_if_lt (tgt := 44) C dX5_put__29 (by decide) rfl rfl))
  · exact (ch_cons (pc := 32) (pc' := 33) (ok_iloadn C dX5_put__32 rfl) <| ch_cons (pc := 33) (pc' := 35) (ok_aloadR C dX5_put__33) <| ch_cons (pc := 35) (pc' := 36) (ok_alen C htb dX5_put__35) <| ch_last (pc := 36) (ok_icmp_ge (tgt := 44) C dX5_put__36 (by decide) rfl rfl))
  · exact (ch_cons (pc := 39) (pc' := 41) (ok_aloadR C dX5_put__39) <| ch_cons (pc := 41) (pc' := 42) (ok_iloadn C dX5_put__41 rfl) <| ch_cons (pc := 42) (pc' := 43) (ok_iloadn C dX5_put__42 rfl) <| ch_cons (pc := 43) (pc' := 44) (ok_iastore C hn dX5_put__43) <| ch_last (pc := 44) (ok_fall rfl))
  · exact (ch_last (pc := 44) (ok_return C hr dX5_put__44))
/-- Bijectory$Paths.isPath(II)Z -/
def bl_X3_isPath (tb : List (List Int32)) (cl : kCall) : List (List kOp) := [
  [oS (gPush (.int 0)), oStoreI 2, oS (gPush (.int 2)), oLoadI 1, oBin (fun x y => x * y), oS (gPush (.int 1)), oBin (fun x y => x - y), oStoreI 3, tGo 1],
  [oLoadI 3, tIf (fun x => decide (x < 0)) 5 2],
  [oLoadI 2, oLoadI 0, oLoadI 3, oCall cl 6 2, oBin (fun x y => x + y), oStoreI 2, oLoadI 2, tIf (fun x => decide (0 ≤ x)) 4 3],
  [oS (gPush (.int 0)), tZret],
  [oIinc 3 (-1), tGo 1],
  [oLoadI 2, tIf (fun x => !decide (x = 0)) 7 6],
  [oS (gPush (.int 1)), tGo 8],
  [oS (gPush (.int 0)), tGo 8],
  [tZret]]
set_option maxRecDepth 100000 in
set_option maxHeartbeats 4000000 in
theorem mok_X3_isPath {E : kE} {σ : List Nat} {l : Launch} {tb : List (List Int32)} (hE : kcl E = kCl) (hn : kn E = 20) (htb : ktb E = tb) : kMOK E (kXX (kb E) σ) σ kZs l kY kWS yX3_isPath (kws yX3_isPath cX3_isPath 4 (some .boolean)) cX3_isPath 4 (some .boolean) (fun cl => bl_X3_isPath tb cl) := by
  intro d cl hS p e R s m args below meth c α0 nc0 ns0 res C hf hlo hr hnm hout
  have hXX : kXX (kb E) σ s := C.2.2.2.2.2.2.1.2.2.2.2
  refine ⟨fun b => [0, 8, 12, 24, 26, 32, 36, 40, 41].getD b 0, rfl, kAllB_get (bl := bl_X3_isPath tb cl) ⟨?_, ?_, ?_, ?_, ?_, ?_, ?_, ?_, ?_, trivial⟩⟩
  · exact (ch_cons (pc := 0) (pc' := 1) (ok_iconst C dX3_isPath_0 (by decide)) <| ch_cons (pc := 1) (pc' := 2) (ok_istoren C dX3_isPath_1 rfl (by decide)) <| ch_cons (pc := 2) (pc' := 3) (ok_iconst C dX3_isPath_2 (by decide)) <| ch_cons (pc := 3) (pc' := 4) (ok_iloadn C dX3_isPath_3 rfl) <| ch_cons (pc := 4) (pc' := 5) (ok_imul C dX3_isPath_4) <| ch_cons (pc := 5) (pc' := 6) (ok_iconst C dX3_isPath_5 (by decide)) <| ch_cons (pc := 6) (pc' := 7) (ok_isub C dX3_isPath_6) <| ch_cons (pc := 7) (pc' := 8) (ok_istoren C dX3_isPath_7 rfl (by decide)) <| ch_last (pc := 8) (ok_fall rfl))
  · exact (ch_cons (pc := 8) (pc' := 9) (ok_iloadn C dX3_isPath_8 rfl) <| ch_last (pc := 9) (ok_if_lt (tgt := 32) C dX3_isPath_9 (by decide) rfl rfl))
  · exact (ch_cons (pc := 12) (pc' := 13) (ok_iloadn C dX3_isPath_12 rfl) <| ch_cons (pc := 13) (pc' := 14) (ok_iloadn C dX3_isPath_13 rfl) <| ch_cons (pc := 14) (pc' := 15) (ok_iloadn C dX3_isPath_14 rfl) <| ch_cons (pc := 15) (pc' := 18) (ok_callS (d := d) C hout hf hlo (sn_6 hS) rfl (kG_s gw_0 gw_1 gw_2 gw_3) (by decide) (by decide +kernel) dX3_isPath_15) <| ch_cons (pc := 18) (pc' := 19) (ok_iadd C dX3_isPath_18) <| ch_cons (pc := 19) (pc' := 20) (ok_istoren C dX3_isPath_19 rfl (by decide)) <| ch_cons (pc := 20) (pc' := 21) (ok_iloadn C dX3_isPath_20 rfl) <| ch_last (pc := 21) (ok_if_ge (tgt := 26) C dX3_isPath_21 (by decide) rfl rfl))
  · exact (ch_cons (pc := 24) (pc' := 25) (ok_iconst C dX3_isPath_24 (by decide)) <| ch_last (pc := 25) (ok_zreturn C hr dX3_isPath_25))
  · exact (ch_cons (pc := 26) (pc' := 29) (ok_iinc C dX3_isPath_26 (by decide) (by decide)) <| ch_last (pc := 29) (ok_goto (tgt := 8) C dX3_isPath_29 (by decide) rfl))
  · exact (ch_cons (pc := 32) (pc' := 33) (ok_iloadn C dX3_isPath_32 rfl) <| ch_last (pc := 33) (ok_if_ne (tgt := 40) C dX3_isPath_33 (by decide) rfl rfl))
  · exact (ch_cons (pc := 36) (pc' := 37) (ok_iconst C dX3_isPath_36 (by decide)) <| ch_last (pc := 37) (ok_goto (tgt := 41) C dX3_isPath_37 (by decide) rfl))
  · exact (ch_cons (pc := 40) (pc' := 41) (ok_iconst C dX3_isPath_40 (by decide)) <| ch_last (pc := 41) (ok_fall rfl))
  · exact (ch_last (pc := 41) (ok_zreturn C hr dX3_isPath_41))
/-- Bijectory$Paths.isUp(II)Z -/
def bl_X3_isUp (tb : List (List Int32)) (cl : kCall) : List (List kOp) := [
  [oLoadI 0, oLoadI 1, oBin (fun x y => x >>> (y &&& 31)), oS (gPush (.int 1)), oBin (fun x y => x &&& y), oS (gPush (.int 1)), tCmp (fun x y => !decide (x = y)) 2 1],
  [oS (gPush (.int 1)), tGo 3],
  [oS (gPush (.int 0)), tGo 3],
  [tZret]]
set_option maxRecDepth 100000 in
set_option maxHeartbeats 4000000 in
theorem mok_X3_isUp {E : kE} {σ : List Nat} {l : Launch} {tb : List (List Int32)} (hE : kcl E = kCl) (hn : kn E = 20) (htb : ktb E = tb) : kMOK E (kXX (kb E) σ) σ kZs l kY kWS yX3_isUp (kws yX3_isUp cX3_isUp 2 (some .boolean)) cX3_isUp 2 (some .boolean) (fun cl => bl_X3_isUp tb cl) := by
  intro d cl hS p e R s m args below meth c α0 nc0 ns0 res C hf hlo hr hnm hout
  have hXX : kXX (kb E) σ s := C.2.2.2.2.2.2.1.2.2.2.2
  refine ⟨fun b => [0, 9, 13, 14].getD b 0, rfl, kAllB_get (bl := bl_X3_isUp tb cl) ⟨?_, ?_, ?_, ?_, trivial⟩⟩
  · exact (ch_cons (pc := 0) (pc' := 1) (ok_iloadn C dX3_isUp_0 rfl) <| ch_cons (pc := 1) (pc' := 2) (ok_iloadn C dX3_isUp_1 rfl) <| ch_cons (pc := 2) (pc' := 3) (ok_ishr C dX3_isUp_2) <| ch_cons (pc := 3) (pc' := 4) (ok_iconst C dX3_isUp_3 (by decide)) <| ch_cons (pc := 4) (pc' := 5) (ok_iand C dX3_isUp_4) <| ch_cons (pc := 5) (pc' := 6) (ok_iconst C dX3_isUp_5 (by decide)) <| ch_last (pc := 6) (ok_icmp_ne (tgt := 13) C dX3_isUp_6 (by decide) rfl rfl))
  · exact (ch_cons (pc := 9) (pc' := 10) (ok_iconst C dX3_isUp_9 (by decide)) <| ch_last (pc := 10) (ok_goto (tgt := 14) C dX3_isUp_10 (by decide) rfl))
  · exact (ch_cons (pc := 13) (pc' := 14) (ok_iconst C dX3_isUp_13 (by decide)) <| ch_last (pc := 14) (ok_fall rfl))
  · exact (ch_last (pc := 14) (ok_zreturn C hr dX3_isUp_14))
/-- Bijectory$Paths.rise(II)I -/
def bl_X3_rise (tb : List (List Int32)) (cl : kCall) : List (List kOp) := [
  [oS (gPush (.int 2)), oLoadI 0, oLoadI 1, oBin (fun x y => x >>> (y &&& 31)), oS (gPush (.int 1)), oBin (fun x y => x &&& y), oBin (fun x y => x * y), oS (gPush (.int 1)), oBin (fun x y => x - y), tIret]]
set_option maxRecDepth 100000 in
set_option maxHeartbeats 4000000 in
theorem mok_X3_rise {E : kE} {σ : List Nat} {l : Launch} {tb : List (List Int32)} (hE : kcl E = kCl) (hn : kn E = 20) (htb : ktb E = tb) : kMOK E (kXX (kb E) σ) σ kZs l kY kWS yX3_rise (kws yX3_rise cX3_rise 2 (some .int)) cX3_rise 2 (some .int) (fun cl => bl_X3_rise tb cl) := by
  intro d cl hS p e R s m args below meth c α0 nc0 ns0 res C hf hlo hr hnm hout
  have hXX : kXX (kb E) σ s := C.2.2.2.2.2.2.1.2.2.2.2
  refine ⟨fun b => [0].getD b 0, rfl, kAllB_get (bl := bl_X3_rise tb cl) ⟨?_, trivial⟩⟩
  · exact (ch_cons (pc := 0) (pc' := 1) (ok_iconst C dX3_rise_0 (by decide)) <| ch_cons (pc := 1) (pc' := 2) (ok_iloadn C dX3_rise_1 rfl) <| ch_cons (pc := 2) (pc' := 3) (ok_iloadn C dX3_rise_2 rfl) <| ch_cons (pc := 3) (pc' := 4) (ok_ishr C dX3_rise_3) <| ch_cons (pc := 4) (pc' := 5) (ok_iconst C dX3_rise_4 (by decide)) <| ch_cons (pc := 5) (pc' := 6) (ok_iand C dX3_rise_5) <| ch_cons (pc := 6) (pc' := 7) (ok_imul C dX3_rise_6) <| ch_cons (pc := 7) (pc' := 8) (ok_iconst C dX3_rise_7 (by decide)) <| ch_cons (pc := 8) (pc' := 9) (ok_isub C dX3_rise_8) <| ch_last (pc := 9) (ok_ireturn C hr dX3_rise_9))
/-- Bijectory$Paths.part(III)I -/
def bl_X3_part (tb : List (List Int32)) (cl : kCall) : List (List kOp) := [
  [oLoadI 0, oLoadI 1, oBin (fun x y => x >>> (y &&& 31)), oS (gPush (.int 1)), oLoadI 2, oBin (fun x y => x <<< (y &&& 31)), oS (gPush (.int 1)), oBin (fun x y => x - y), oBin (fun x y => x &&& y), tIret]]
set_option maxRecDepth 100000 in
set_option maxHeartbeats 4000000 in
theorem mok_X3_part {E : kE} {σ : List Nat} {l : Launch} {tb : List (List Int32)} (hE : kcl E = kCl) (hn : kn E = 20) (htb : ktb E = tb) : kMOK E (kXX (kb E) σ) σ kZs l kY kWS yX3_part (kws yX3_part cX3_part 3 (some .int)) cX3_part 3 (some .int) (fun cl => bl_X3_part tb cl) := by
  intro d cl hS p e R s m args below meth c α0 nc0 ns0 res C hf hlo hr hnm hout
  have hXX : kXX (kb E) σ s := C.2.2.2.2.2.2.1.2.2.2.2
  refine ⟨fun b => [0].getD b 0, rfl, kAllB_get (bl := bl_X3_part tb cl) ⟨?_, trivial⟩⟩
  · exact (ch_cons (pc := 0) (pc' := 1) (ok_iloadn C dX3_part_0 rfl) <| ch_cons (pc := 1) (pc' := 2) (ok_iloadn C dX3_part_1 rfl) <| ch_cons (pc := 2) (pc' := 3) (ok_ishr C dX3_part_2) <| ch_cons (pc := 3) (pc' := 4) (ok_iconst C dX3_part_3 (by decide)) <| ch_cons (pc := 4) (pc' := 5) (ok_iloadn C dX3_part_4 rfl) <| ch_cons (pc := 5) (pc' := 6) (ok_ishl C dX3_part_5) <| ch_cons (pc := 6) (pc' := 7) (ok_iconst C dX3_part_6 (by decide)) <| ch_cons (pc := 7) (pc' := 8) (ok_isub C dX3_part_7) <| ch_cons (pc := 8) (pc' := 9) (ok_iand C dX3_part_8) <| ch_last (pc := 9) (ok_ireturn C hr dX3_part_9))
/-- Bijectory$Paths.pairsOfFirst(II)I -/
def bl_X3_pairsOfFirst (tb : List (List Int32)) (cl : kCall) : List (List kOp) := [
  [oS (gPush (.int 0)), oStoreI 2, oS (gPush (.int 2)), oLoadI 1, oBin (fun x y => x * y), oS (gPush (.int 1)), oBin (fun x y => x - y), oStoreI 3, tGo 1],
  [oLoadI 3, tIf (fun x => decide (x < 0)) 5 2],
  [oLoadI 2, oLoadI 0, oLoadI 3, oCall cl 6 2, oBin (fun x y => x + y), oStoreI 2, oLoadI 2, tIf (fun x => !decide (x = 0)) 4 3],
  [oLoadI 1, oS (gPush (.int 1)), oBin (fun x y => x - y), oLoadI 3, oS (gPush (.int 2)), oBin0 (fun x y => x / y), oBin (fun x y => x - y), tIret],
  [oIinc 3 (-1), tGo 1],
  [oS (gPush (.int 0)), tIret]]
set_option maxRecDepth 100000 in
set_option maxHeartbeats 4000000 in
theorem mok_X3_pairsOfFirst {E : kE} {σ : List Nat} {l : Launch} {tb : List (List Int32)} (hE : kcl E = kCl) (hn : kn E = 20) (htb : ktb E = tb) : kMOK E (kXX (kb E) σ) σ kZs l kY kWS yX3_pairsOfFirst (kws yX3_pairsOfFirst cX3_pairsOfFirst 4 (some .int)) cX3_pairsOfFirst 4 (some .int) (fun cl => bl_X3_pairsOfFirst tb cl) := by
  intro d cl hS p e R s m args below meth c α0 nc0 ns0 res C hf hlo hr hnm hout
  have hXX : kXX (kb E) σ s := C.2.2.2.2.2.2.1.2.2.2.2
  refine ⟨fun b => [0, 8, 12, 24, 32, 38].getD b 0, rfl, kAllB_get (bl := bl_X3_pairsOfFirst tb cl) ⟨?_, ?_, ?_, ?_, ?_, ?_, trivial⟩⟩
  · exact (ch_cons (pc := 0) (pc' := 1) (ok_iconst C dX3_pairsOfFirst_0 (by decide)) <| ch_cons (pc := 1) (pc' := 2) (ok_istoren C dX3_pairsOfFirst_1 rfl (by decide)) <| ch_cons (pc := 2) (pc' := 3) (ok_iconst C dX3_pairsOfFirst_2 (by decide)) <| ch_cons (pc := 3) (pc' := 4) (ok_iloadn C dX3_pairsOfFirst_3 rfl) <| ch_cons (pc := 4) (pc' := 5) (ok_imul C dX3_pairsOfFirst_4) <| ch_cons (pc := 5) (pc' := 6) (ok_iconst C dX3_pairsOfFirst_5 (by decide)) <| ch_cons (pc := 6) (pc' := 7) (ok_isub C dX3_pairsOfFirst_6) <| ch_cons (pc := 7) (pc' := 8) (ok_istoren C dX3_pairsOfFirst_7 rfl (by decide)) <| ch_last (pc := 8) (ok_fall rfl))
  · exact (ch_cons (pc := 8) (pc' := 9) (ok_iloadn C dX3_pairsOfFirst_8 rfl) <| ch_last (pc := 9) (ok_if_lt (tgt := 38) C dX3_pairsOfFirst_9 (by decide) rfl rfl))
  · exact (ch_cons (pc := 12) (pc' := 13) (ok_iloadn C dX3_pairsOfFirst_12 rfl) <| ch_cons (pc := 13) (pc' := 14) (ok_iloadn C dX3_pairsOfFirst_13 rfl) <| ch_cons (pc := 14) (pc' := 15) (ok_iloadn C dX3_pairsOfFirst_14 rfl) <| ch_cons (pc := 15) (pc' := 18) (ok_callS (d := d) C hout hf hlo (sn_6 hS) rfl (kG_s gw_0 gw_1 gw_2 gw_3) (by decide) (by decide +kernel) dX3_pairsOfFirst_15) <| ch_cons (pc := 18) (pc' := 19) (ok_iadd C dX3_pairsOfFirst_18) <| ch_cons (pc := 19) (pc' := 20) (ok_istoren C dX3_pairsOfFirst_19 rfl (by decide)) <| ch_cons (pc := 20) (pc' := 21) (ok_iloadn C dX3_pairsOfFirst_20 rfl) <| ch_last (pc := 21) (ok_if_ne (tgt := 32) C dX3_pairsOfFirst_21 (by decide) rfl rfl))
  · exact (ch_cons (pc := 24) (pc' := 25) (ok_iloadn C dX3_pairsOfFirst_24 rfl) <| ch_cons (pc := 25) (pc' := 26) (ok_iconst C dX3_pairsOfFirst_25 (by decide)) <| ch_cons (pc := 26) (pc' := 27) (ok_isub C dX3_pairsOfFirst_26) <| ch_cons (pc := 27) (pc' := 28) (ok_iloadn C dX3_pairsOfFirst_27 rfl) <| ch_cons (pc := 28) (pc' := 29) (ok_iconst C dX3_pairsOfFirst_28 (by decide)) <| ch_cons (pc := 29) (pc' := 30) (ok_idiv C dX3_pairsOfFirst_29) <| ch_cons (pc := 30) (pc' := 31) (ok_isub C dX3_pairsOfFirst_30) <| ch_last (pc := 31) (ok_ireturn C hr dX3_pairsOfFirst_31))
  · exact (ch_cons (pc := 32) (pc' := 35) (ok_iinc C dX3_pairsOfFirst_32 (by decide) (by decide)) <| ch_last (pc := 35) (ok_goto (tgt := 8) C dX3_pairsOfFirst_35 (by decide) rfl))
  · exact (ch_cons (pc := 38) (pc' := 39) (ok_iconst C dX3_pairsOfFirst_38 (by decide)) <| ch_last (pc := 39) (ok_ireturn C hr dX3_pairsOfFirst_39))
/-- Bijectory$Paths.pairsOfLast(II)I -/
def bl_X3_pairsOfLast (tb : List (List Int32)) (cl : kCall) : List (List kOp) := [
  [oS (gPush (.int 0)), oStoreI 2, oS (gPush (.int 0)), oStoreI 3, tGo 1],
  [oLoadI 3, oS (gPush (.int 2)), oLoadI 1, oBin (fun x y => x * y), tCmp (fun x y => decide (y ≤ x)) 5 2],
  [oLoadI 2, oLoadI 0, oLoadI 3, oCall cl 6 2, oBin (fun x y => x - y), oStoreI 2, oLoadI 2, tIf (fun x => !decide (x = 0)) 4 3],
  [oLoadI 3, oS (gPush (.int 2)), oBin0 (fun x y => x / y), tIret],
  [oIinc 3 1, tGo 1],
  [oS (gPush (.int 0)), tIret]]
set_option maxRecDepth 100000 in
set_option maxHeartbeats 4000000 in
theorem mok_X3_pairsOfLast {E : kE} {σ : List Nat} {l : Launch} {tb : List (List Int32)} (hE : kcl E = kCl) (hn : kn E = 20) (htb : ktb E = tb) : kMOK E (kXX (kb E) σ) σ kZs l kY kWS yX3_pairsOfLast (kws yX3_pairsOfLast cX3_pairsOfLast 4 (some .int)) cX3_pairsOfLast 4 (some .int) (fun cl => bl_X3_pairsOfLast tb cl) := by
  intro d cl hS p e R s m args below meth c α0 nc0 ns0 res C hf hlo hr hnm hout
  have hXX : kXX (kb E) σ s := C.2.2.2.2.2.2.1.2.2.2.2
  refine ⟨fun b => [0, 4, 11, 23, 27, 33].getD b 0, rfl, kAllB_get (bl := bl_X3_pairsOfLast tb cl) ⟨?_, ?_, ?_, ?_, ?_, ?_, trivial⟩⟩
  · exact (ch_cons (pc := 0) (pc' := 1) (ok_iconst C dX3_pairsOfLast_0 (by decide)) <| ch_cons (pc := 1) (pc' := 2) (ok_istoren C dX3_pairsOfLast_1 rfl (by decide)) <| ch_cons (pc := 2) (pc' := 3) (ok_iconst C dX3_pairsOfLast_2 (by decide)) <| ch_cons (pc := 3) (pc' := 4) (ok_istoren C dX3_pairsOfLast_3 rfl (by decide)) <| ch_last (pc := 4) (ok_fall rfl))
  · exact (ch_cons (pc := 4) (pc' := 5) (ok_iloadn C dX3_pairsOfLast_4 rfl) <| ch_cons (pc := 5) (pc' := 6) (ok_iconst C dX3_pairsOfLast_5 (by decide)) <| ch_cons (pc := 6) (pc' := 7) (ok_iloadn C dX3_pairsOfLast_6 rfl) <| ch_cons (pc := 7) (pc' := 8) (ok_imul C dX3_pairsOfLast_7) <| ch_last (pc := 8) (ok_icmp_ge (tgt := 33) C dX3_pairsOfLast_8 (by decide) rfl rfl))
  · exact (ch_cons (pc := 11) (pc' := 12) (ok_iloadn C dX3_pairsOfLast_11 rfl) <| ch_cons (pc := 12) (pc' := 13) (ok_iloadn C dX3_pairsOfLast_12 rfl) <| ch_cons (pc := 13) (pc' := 14) (ok_iloadn C dX3_pairsOfLast_13 rfl) <| ch_cons (pc := 14) (pc' := 17) (ok_callS (d := d) C hout hf hlo (sn_6 hS) rfl (kG_s gw_0 gw_1 gw_2 gw_3) (by decide) (by decide +kernel) dX3_pairsOfLast_14) <| ch_cons (pc := 17) (pc' := 18) (ok_isub C dX3_pairsOfLast_17) <| ch_cons (pc := 18) (pc' := 19) (ok_istoren C dX3_pairsOfLast_18 rfl (by decide)) <| ch_cons (pc := 19) (pc' := 20) (ok_iloadn C dX3_pairsOfLast_19 rfl) <| ch_last (pc := 20) (ok_if_ne (tgt := 27) C dX3_pairsOfLast_20 (by decide) rfl rfl))
  · exact (ch_cons (pc := 23) (pc' := 24) (ok_iloadn C dX3_pairsOfLast_23 rfl) <| ch_cons (pc := 24) (pc' := 25) (ok_iconst C dX3_pairsOfLast_24 (by decide)) <| ch_cons (pc := 25) (pc' := 26) (ok_idiv C dX3_pairsOfLast_25) <| ch_last (pc := 26) (ok_ireturn C hr dX3_pairsOfLast_26))
  · exact (ch_cons (pc := 27) (pc' := 30) (ok_iinc C dX3_pairsOfLast_27 (by decide) (by decide)) <| ch_last (pc := 30) (ok_goto (tgt := 4) C dX3_pairsOfLast_30 (by decide) rfl))
  · exact (ch_cons (pc := 33) (pc' := 34) (ok_iconst C dX3_pairsOfLast_33 (by decide)) <| ch_last (pc := 34) (ok_ireturn C hr dX3_pairsOfLast_34))
/-- Bijectory$Paths.graft(II)I -/
def bl_X3_graft (tb : List (List Int32)) (cl : kCall) : List (List kOp) := [
  [oLoadI 1, oS (gPush (.int 1)), tCmp (fun x y => decide (x < y)) 2 1],
  [oLoadI 1, oS (gPush (.int 6)), tCmp (fun x y => decide (x ≤ y)) 3 2],
  [oS (gPush (.int 0)), tIret],
  [oLoadI 0, oLoadI 1, oCall cl 9 2, oStoreI 2, oLoadI 1, oS (gPush (.int 1)), oBin (fun x y => x - y), oLoadI 2, oBin (fun x y => x - y), oStoreI 3, oLoadI 0, oS (gPush (.int 2)), oLoadI 2, oBin (fun x y => x * y), oS (gPush (.int 2)), oBin (fun x y => x + y), oS (gPush (.int 2)), oLoadI 3, oBin (fun x y => x * y), oCall cl 7 3, oLoadI 3, oCall cl 10 2, oStoreI 4, oLoadI 0, oS (gPush (.int 1)), oS (gPush (.int 2)), oLoadI 2, oBin (fun x y => x * y), oCall cl 7 3, oLoadI 2, oCall cl 10 2, oStoreI 5, oLoadI 4, oLoadI 3, oLoadI 5, oLoadI 2, oCall cl 34 4, tIret]]
set_option maxRecDepth 100000 in
set_option maxHeartbeats 4000000 in
theorem mok_X3_graft {E : kE} {σ : List Nat} {l : Launch} {tb : List (List Int32)} (hE : kcl E = kCl) (hn : kn E = 20) (htb : ktb E = tb) : kMOK E (kXX (kb E) σ) σ kZs l kY kWS yX3_graft (kws yX3_graft cX3_graft 6 (some .int)) cX3_graft 6 (some .int) (fun cl => bl_X3_graft tb cl) := by
  intro d cl hS p e R s m args below meth c α0 nc0 ns0 res C hf hlo hr hnm hout
  have hXX : kXX (kb E) σ s := C.2.2.2.2.2.2.1.2.2.2.2
  refine ⟨fun b => [0, 5, 11, 13].getD b 0, rfl, kAllB_get (bl := bl_X3_graft tb cl) ⟨?_, ?_, ?_, ?_, trivial⟩⟩
  · exact (ch_cons (pc := 0) (pc' := 1) (ok_iloadn C dX3_graft_0 rfl) <| ch_cons (pc := 1) (pc' := 2) (ok_iconst C dX3_graft_1 (by decide)) <| ch_last (pc := 2) (ok_icmp_lt (tgt := 11) C dX3_graft_2 (by decide) rfl rfl))
  · exact (ch_cons (pc := 5) (pc' := 6) (ok_iloadn C dX3_graft_5 rfl) <| ch_cons (pc := 6) (pc' := 8) (ok_bipush C dX3_graft_6 (by decide)) <| ch_last (pc := 8) (ok_icmp_le (tgt := 13) C dX3_graft_8 (by decide) rfl rfl))
  · exact (ch_cons (pc := 11) (pc' := 12) (ok_iconst C dX3_graft_11 (by decide)) <| ch_last (pc := 12) (ok_ireturn C hr dX3_graft_12))
  · exact (ch_cons (pc := 13) (pc' := 14) (ok_iloadn C dX3_graft_13 rfl) <| ch_cons (pc := 14) (pc' := 15) (ok_iloadn C dX3_graft_14 rfl) <| ch_cons (pc := 15) (pc' := 18) (ok_callS (d := d) C hout hf hlo (sn_9 hS) rfl (kG_s gw_4 gw_5 gw_6 gw_3) (by decide) (by decide +kernel) dX3_graft_15) <| ch_cons (pc := 18) (pc' := 19) (ok_istoren C dX3_graft_18 rfl (by decide)) <| ch_cons (pc := 19) (pc' := 20) (ok_iloadn C dX3_graft_19 rfl) <| ch_cons (pc := 20) (pc' := 21) (ok_iconst C dX3_graft_20 (by decide)) <| ch_cons (pc := 21) (pc' := 22) (ok_isub C dX3_graft_21) <| ch_cons (pc := 22) (pc' := 23) (ok_iloadn C dX3_graft_22 rfl) <| ch_cons (pc := 23) (pc' := 24) (ok_isub C dX3_graft_23) <| ch_cons (pc := 24) (pc' := 25) (ok_istoren C dX3_graft_24 rfl (by decide)) <| ch_cons (pc := 25) (pc' := 26) (ok_iloadn C dX3_graft_25 rfl) <| ch_cons (pc := 26) (pc' := 27) (ok_iconst C dX3_graft_26 (by decide)) <| ch_cons (pc := 27) (pc' := 28) (ok_iloadn C dX3_graft_27 rfl) <| ch_cons (pc := 28) (pc' := 29) (ok_imul C dX3_graft_28) <| ch_cons (pc := 29) (pc' := 30) (ok_iconst C dX3_graft_29 (by decide)) <| ch_cons (pc := 30) (pc' := 31) (ok_iadd C dX3_graft_30) <| ch_cons (pc := 31) (pc' := 32) (ok_iconst C dX3_graft_31 (by decide)) <| ch_cons (pc := 32) (pc' := 33) (ok_iloadn C dX3_graft_32 rfl) <| ch_cons (pc := 33) (pc' := 34) (ok_imul C dX3_graft_33) <| ch_cons (pc := 34) (pc' := 37) (ok_callS (d := d) C hout hf hlo (sn_7 hS) rfl (kG_s gw_7 gw_8 gw_9 gw_3) (by decide) (by decide +kernel) dX3_graft_34) <| ch_cons (pc := 37) (pc' := 38) (ok_iloadn C dX3_graft_37 rfl) <| ch_cons (pc := 38) (pc' := 41) (ok_callS (d := d) C hout hf hlo (sn_10 hS) rfl (kG_s gw_10 gw_11 gw_12 gw_3) (by decide) (by decide +kernel) dX3_graft_38) <| ch_cons (pc := 41) (pc' := 43) (ok_istore C dX3_graft_41 (by decide)) <| ch_cons (pc := 43) (pc' := 44) (ok_iloadn C dX3_graft_43 rfl) <| ch_cons (pc := 44) (pc' := 45) (ok_iconst C dX3_graft_44 (by decide)) <| ch_cons (pc := 45) (pc' := 46) (ok_iconst C dX3_graft_45 (by decide)) <| ch_cons (pc := 46) (pc' := 47) (ok_iloadn C dX3_graft_46 rfl) <| ch_cons (pc := 47) (pc' := 48) (ok_imul C dX3_graft_47) <| ch_cons (pc := 48) (pc' := 51) (ok_callS (d := d) C hout hf hlo (sn_7 hS) rfl (kG_s gw_7 gw_8 gw_9 gw_3) (by decide) (by decide +kernel) dX3_graft_48) <| ch_cons (pc := 51) (pc' := 52) (ok_iloadn C dX3_graft_51 rfl) <| ch_cons (pc := 52) (pc' := 55) (ok_callS (d := d) C hout hf hlo (sn_10 hS) rfl (kG_s gw_10 gw_11 gw_12 gw_3) (by decide) (by decide +kernel) dX3_graft_52) <| ch_cons (pc := 55) (pc' := 57) (ok_istore C dX3_graft_55 (by decide)) <| ch_cons (pc := 57) (pc' := 59) (ok_iload C dX3_graft_57) <| ch_cons (pc := 59) (pc' := 60) (ok_iloadn C dX3_graft_59 rfl) <| ch_cons (pc := 60) (pc' := 62) (ok_iload C dX3_graft_60) <| ch_cons (pc := 62) (pc' := 63) (ok_iloadn C dX3_graft_62 rfl) <| ch_cons (pc := 63) (pc' := 66) (ok_callS (d := d) C hout hf hlo (sn_34 hS) rfl (kG_s gw_13 gw_14 gw_15 gw_16) (by decide) (by decide +kernel) dX3_graft_63) <| ch_last (pc := 66) (ok_ireturn C hr dX3_graft_66))
/-- Bijectory$Paths.backward(II)I -/
def bl_X3_backward (tb : List (List Int32)) (cl : kCall) : List (List kOp) := [
  [oS (gPush (.int 0)), oStoreI 2, oS (gPush (.int 0)), oStoreI 3, tGo 1],
  [oLoadI 3, oS (gPush (.int 2)), oLoadI 1, oBin (fun x y => x * y), tCmp (fun x y => decide (y ≤ x)) 6 2],
  [oLoadI 2, oS (gPush (.int 1)), oBin (fun x y => x <<< (y &&& 31)), oLoadI 0, oLoadI 3, oCall cl 5 2, tIf (fun x => decide (x = 0)) 4 3],
  [oS (gPush (.int 0)), tGo 5],
  [oS (gPush (.int 1)), tGo 5],
  [oBin (fun x y => x ||| y), oStoreI 2, oIinc 3 1, tGo 1],
  [oLoadI 2, tIret]]
set_option maxRecDepth 100000 in
set_option maxHeartbeats 4000000 in
theorem mok_X3_backward {E : kE} {σ : List Nat} {l : Launch} {tb : List (List Int32)} (hE : kcl E = kCl) (hn : kn E = 20) (htb : ktb E = tb) : kMOK E (kXX (kb E) σ) σ kZs l kY kWS yX3_backward (kws yX3_backward cX3_backward 4 (some .int)) cX3_backward 4 (some .int) (fun cl => bl_X3_backward tb cl) := by
  intro d cl hS p e R s m args below meth c α0 nc0 ns0 res C hf hlo hr hnm hout
  have hXX : kXX (kb E) σ s := C.2.2.2.2.2.2.1.2.2.2.2
  refine ⟨fun b => [0, 4, 11, 22, 26, 27, 35].getD b 0, rfl, kAllB_get (bl := bl_X3_backward tb cl) ⟨?_, ?_, ?_, ?_, ?_, ?_, ?_, trivial⟩⟩
  · exact (ch_cons (pc := 0) (pc' := 1) (ok_iconst C dX3_backward_0 (by decide)) <| ch_cons (pc := 1) (pc' := 2) (ok_istoren C dX3_backward_1 rfl (by decide)) <| ch_cons (pc := 2) (pc' := 3) (ok_iconst C dX3_backward_2 (by decide)) <| ch_cons (pc := 3) (pc' := 4) (ok_istoren C dX3_backward_3 rfl (by decide)) <| ch_last (pc := 4) (ok_fall rfl))
  · exact (ch_cons (pc := 4) (pc' := 5) (ok_iloadn C dX3_backward_4 rfl) <| ch_cons (pc := 5) (pc' := 6) (ok_iconst C dX3_backward_5 (by decide)) <| ch_cons (pc := 6) (pc' := 7) (ok_iloadn C dX3_backward_6 rfl) <| ch_cons (pc := 7) (pc' := 8) (ok_imul C dX3_backward_7) <| ch_last (pc := 8) (ok_icmp_ge (tgt := 35) C dX3_backward_8 (by decide) rfl rfl))
  · exact (ch_cons (pc := 11) (pc' := 12) (ok_iloadn C dX3_backward_11 rfl) <| ch_cons (pc := 12) (pc' := 13) (ok_iconst C dX3_backward_12 (by decide)) <| ch_cons (pc := 13) (pc' := 14) (ok_ishl C dX3_backward_13) <| ch_cons (pc := 14) (pc' := 15) (ok_iloadn C dX3_backward_14 rfl) <| ch_cons (pc := 15) (pc' := 16) (ok_iloadn C dX3_backward_15 rfl) <| ch_cons (pc := 16) (pc' := 19) (ok_callS (d := d) C hout hf hlo (sn_5 hS) rfl (kG_s gw_17 gw_18 gw_19 gw_3) (by decide) (by decide +kernel) dX3_backward_16) <| ch_last (pc := 19) (ok_if_eq (tgt := 26) C dX3_backward_19 (by decide) rfl rfl))
  · exact (ch_cons (pc := 22) (pc' := 23) (ok_iconst C dX3_backward_22 (by decide)) <| ch_last (pc := 23) (ok_goto (tgt := 27) C dX3_backward_23 (by decide) rfl))
  · exact (ch_cons (pc := 26) (pc' := 27) (ok_iconst C dX3_backward_26 (by decide)) <| ch_last (pc := 27) (ok_fall rfl))
  · exact (ch_cons (pc := 27) (pc' := 28) (ok_ior C dX3_backward_27) <| ch_cons (pc := 28) (pc' := 29) (ok_istoren C dX3_backward_28 rfl (by decide)) <| ch_cons (pc := 29) (pc' := 32) (ok_iinc C dX3_backward_29 (by decide) (by decide)) <| ch_last (pc := 32) (ok_goto (tgt := 4) C dX3_backward_32 (by decide) rfl))
  · exact (ch_cons (pc := 35) (pc' := 36) (ok_iloadn C dX3_backward_35 rfl) <| ch_last (pc := 36) (ok_ireturn C hr dX3_backward_36))
/-- Bijectory$Paths.roll(II)I -/
def bl_X3_roll (tb : List (List Int32)) (cl : kCall) : List (List kOp) := [
  [oLoadI 0, oLoadI 1, oCall cl 8 2, oStoreI 2, oLoadI 1, oS (gPush (.int 1)), oBin (fun x y => x - y), oLoadI 2, oBin (fun x y => x - y), oStoreI 3, oLoadI 0, oS (gPush (.int 2)), oLoadI 3, oBin (fun x y => x * y), oS (gPush (.int 1)), oBin (fun x y => x + y), oS (gPush (.int 2)), oLoadI 2, oBin (fun x y => x * y), oCall cl 7 3, oStoreI 4, oLoadI 0, oS (gPush (.int 0)), oS (gPush (.int 2)), oLoadI 3, oBin (fun x y => x * y), oCall cl 7 3, oStoreI 5, oLoadI 4, oS (gPush (.int 2)), oLoadI 3, oBin (fun x y => x * y), oS (gPush (.int 2)), oBin (fun x y => x + y), oBin (fun x y => x <<< (y &&& 31)), oS (gPush (.int 1)), oS (gPush (.int 2)), oLoadI 3, oBin (fun x y => x * y), oS (gPush (.int 1)), oBin (fun x y => x + y), oBin (fun x y => x <<< (y &&& 31)), oBin (fun x y => x ||| y), oLoadI 5, oS (gPush (.int 1)), oBin (fun x y => x <<< (y &&& 31)), oBin (fun x y => x ||| y), tIret]]
set_option maxRecDepth 100000 in
set_option maxHeartbeats 4000000 in
theorem mok_X3_roll {E : kE} {σ : List Nat} {l : Launch} {tb : List (List Int32)} (hE : kcl E = kCl) (hn : kn E = 20) (htb : ktb E = tb) : kMOK E (kXX (kb E) σ) σ kZs l kY kWS yX3_roll (kws yX3_roll cX3_roll 6 (some .int)) cX3_roll 6 (some .int) (fun cl => bl_X3_roll tb cl) := by
  intro d cl hS p e R s m args below meth c α0 nc0 ns0 res C hf hlo hr hnm hout
  have hXX : kXX (kb E) σ s := C.2.2.2.2.2.2.1.2.2.2.2
  refine ⟨fun b => [0].getD b 0, rfl, kAllB_get (bl := bl_X3_roll tb cl) ⟨?_, trivial⟩⟩
  · exact (ch_cons (pc := 0) (pc' := 1) (ok_iloadn C dX3_roll_0 rfl) <| ch_cons (pc := 1) (pc' := 2) (ok_iloadn C dX3_roll_1 rfl) <| ch_cons (pc := 2) (pc' := 5) (ok_callS (d := d) C hout hf hlo (sn_8 hS) rfl (kG_s gw_20 gw_21 gw_22 gw_3) (by decide) (by decide +kernel) dX3_roll_2) <| ch_cons (pc := 5) (pc' := 6) (ok_istoren C dX3_roll_5 rfl (by decide)) <| ch_cons (pc := 6) (pc' := 7) (ok_iloadn C dX3_roll_6 rfl) <| ch_cons (pc := 7) (pc' := 8) (ok_iconst C dX3_roll_7 (by decide)) <| ch_cons (pc := 8) (pc' := 9) (ok_isub C dX3_roll_8) <| ch_cons (pc := 9) (pc' := 10) (ok_iloadn C dX3_roll_9 rfl) <| ch_cons (pc := 10) (pc' := 11) (ok_isub C dX3_roll_10) <| ch_cons (pc := 11) (pc' := 12) (ok_istoren C dX3_roll_11 rfl (by decide)) <| ch_cons (pc := 12) (pc' := 13) (ok_iloadn C dX3_roll_12 rfl) <| ch_cons (pc := 13) (pc' := 14) (ok_iconst C dX3_roll_13 (by decide)) <| ch_cons (pc := 14) (pc' := 15) (ok_iloadn C dX3_roll_14 rfl) <| ch_cons (pc := 15) (pc' := 16) (ok_imul C dX3_roll_15) <| ch_cons (pc := 16) (pc' := 17) (ok_iconst C dX3_roll_16 (by decide)) <| ch_cons (pc := 17) (pc' := 18) (ok_iadd C dX3_roll_17) <| ch_cons (pc := 18) (pc' := 19) (ok_iconst C dX3_roll_18 (by decide)) <| ch_cons (pc := 19) (pc' := 20) (ok_iloadn C dX3_roll_19 rfl) <| ch_cons (pc := 20) (pc' := 21) (ok_imul C dX3_roll_20) <| ch_cons (pc := 21) (pc' := 24) (ok_callS (d := d) C hout hf hlo (sn_7 hS) rfl (kG_s gw_7 gw_8 gw_9 gw_3) (by decide) (by decide +kernel) dX3_roll_21) <| ch_cons (pc := 24) (pc' := 26) (ok_istore C dX3_roll_24 (by decide)) <| ch_cons (pc := 26) (pc' := 27) (ok_iloadn C dX3_roll_26 rfl) <| ch_cons (pc := 27) (pc' := 28) (ok_iconst C dX3_roll_27 (by decide)) <| ch_cons (pc := 28) (pc' := 29) (ok_iconst C dX3_roll_28 (by decide)) <| ch_cons (pc := 29) (pc' := 30) (ok_iloadn C dX3_roll_29 rfl) <| ch_cons (pc := 30) (pc' := 31) (ok_imul C dX3_roll_30) <| ch_cons (pc := 31) (pc' := 34) (ok_callS (d := d) C hout hf hlo (sn_7 hS) rfl (kG_s gw_7 gw_8 gw_9 gw_3) (by decide) (by decide +kernel) dX3_roll_31) <| ch_cons (pc := 34) (pc' := 36) (ok_istore C dX3_roll_34 (by decide)) <| ch_cons (pc := 36) (pc' := 38) (ok_iload C dX3_roll_36) <| ch_cons (pc := 38) (pc' := 39) (ok_iconst C dX3_roll_38 (by decide)) <| ch_cons (pc := 39) (pc' := 40) (ok_iloadn C dX3_roll_39 rfl) <| ch_cons (pc := 40) (pc' := 41) (ok_imul C dX3_roll_40) <| ch_cons (pc := 41) (pc' := 42) (ok_iconst C dX3_roll_41 (by decide)) <| ch_cons (pc := 42) (pc' := 43) (ok_iadd C dX3_roll_42) <| ch_cons (pc := 43) (pc' := 44) (ok_ishl C dX3_roll_43) <| ch_cons (pc := 44) (pc' := 45) (ok_iconst C dX3_roll_44 (by decide)) <| ch_cons (pc := 45) (pc' := 46) (ok_iconst C dX3_roll_45 (by decide)) <| ch_cons (pc := 46) (pc' := 47) (ok_iloadn C dX3_roll_46 rfl) <| ch_cons (pc := 47) (pc' := 48) (ok_imul C dX3_roll_47) <| ch_cons (pc := 48) (pc' := 49) (ok_iconst C dX3_roll_48 (by decide)) <| ch_cons (pc := 49) (pc' := 50) (ok_iadd C dX3_roll_49) <| ch_cons (pc := 50) (pc' := 51) (ok_ishl C dX3_roll_50) <| ch_cons (pc := 51) (pc' := 52) (ok_ior C dX3_roll_51) <| ch_cons (pc := 52) (pc' := 54) (ok_iload C dX3_roll_52) <| ch_cons (pc := 54) (pc' := 55) (ok_iconst C dX3_roll_54 (by decide)) <| ch_cons (pc := 55) (pc' := 56) (ok_ishl C dX3_roll_55) <| ch_cons (pc := 56) (pc' := 57) (ok_ior C dX3_roll_56) <| ch_last (pc := 57) (ok_ireturn C hr dX3_roll_57))
/-- Bijectory$Paths.valueOf(III)I -/
def bl_X3_valueOf (tb : List (List Int32)) (cl : kCall) : List (List kOp) := [
  [oLoadI 0, tTab 0 [1, 2, 3] 4],
  [oLoadI 1, oLoadI 2, oCall cl 14 2, tIret],
  [oLoadI 1, oLoadI 2, oCall cl 15 2, tIret],
  [oLoadI 1, oLoadI 2, oCall cl 16 2, tIret],
  [oLoadI 1, oLoadI 2, oCall cl 17 2, tIret]]
set_option maxRecDepth 100000 in
set_option maxHeartbeats 4000000 in
theorem mok_X3_valueOf {E : kE} {σ : List Nat} {l : Launch} {tb : List (List Int32)} (hE : kcl E = kCl) (hn : kn E = 20) (htb : ktb E = tb) : kMOK E (kXX (kb E) σ) σ kZs l kY kWS yX3_valueOf (kws yX3_valueOf cX3_valueOf 3 (some .int)) cX3_valueOf 3 (some .int) (fun cl => bl_X3_valueOf tb cl) := by
  intro d cl hS p e R s m args below meth c α0 nc0 ns0 res C hf hlo hr hnm hout
  have hXX : kXX (kb E) σ s := C.2.2.2.2.2.2.1.2.2.2.2
  refine ⟨fun b => [0, 28, 34, 40, 46].getD b 0, rfl, kAllB_get (bl := bl_X3_valueOf tb cl) ⟨?_, ?_, ?_, ?_, ?_, trivial⟩⟩
  · exact (ch_cons (pc := 0) (pc' := 1) (ok_iloadn C dX3_valueOf_0 rfl) <| ch_last (pc := 1) (ok_table (td := 46) C dX3_valueOf_1 (by decide) (by decide) (by decide) rfl))
  · exact (ch_cons (pc := 28) (pc' := 29) (ok_iloadn C dX3_valueOf_28 rfl) <| ch_cons (pc := 29) (pc' := 30) (ok_iloadn C dX3_valueOf_29 rfl) <| ch_cons (pc := 30) (pc' := 33) (ok_callS (d := d) C hout hf hlo (sn_14 hS) rfl (kG_s gw_23 gw_24 gw_25 gw_3) (by decide) (by decide +kernel) dX3_valueOf_30) <| ch_last (pc := 33) (ok_ireturn C hr dX3_valueOf_33))
  · exact (ch_cons (pc := 34) (pc' := 35) (ok_iloadn C dX3_valueOf_34 rfl) <| ch_cons (pc := 35) (pc' := 36) (ok_iloadn C dX3_valueOf_35 rfl) <| ch_cons (pc := 36) (pc' := 39) (ok_callS (d := d) C hout hf hlo (sn_15 hS) rfl (kG_s gw_26 gw_27 gw_28 gw_3) (by decide) (by decide +kernel) dX3_valueOf_36) <| ch_last (pc := 39) (ok_ireturn C hr dX3_valueOf_39))
  · exact (ch_cons (pc := 40) (pc' := 41) (ok_iloadn C dX3_valueOf_40 rfl) <| ch_cons (pc := 41) (pc' := 42) (ok_iloadn C dX3_valueOf_41 rfl) <| ch_cons (pc := 42) (pc' := 45) (ok_callS (d := d) C hout hf hlo (sn_16 hS) rfl (kG_s gw_29 gw_30 gw_31 gw_3) (by decide) (by decide +kernel) dX3_valueOf_42) <| ch_last (pc := 45) (ok_ireturn C hr dX3_valueOf_45))
  · exact (ch_cons (pc := 46) (pc' := 47) (ok_iloadn C dX3_valueOf_46 rfl) <| ch_cons (pc := 47) (pc' := 48) (ok_iloadn C dX3_valueOf_47 rfl) <| ch_cons (pc := 48) (pc' := 51) (ok_callS (d := d) C hout hf hlo (sn_17 hS) rfl (kG_s gw_32 gw_33 gw_34 gw_3) (by decide) (by decide +kernel) dX3_valueOf_48) <| ch_last (pc := 51) (ok_ireturn C hr dX3_valueOf_51))
/-- Bijectory$Paths.peaks(II)I -/
def bl_X3_peaks (tb : List (List Int32)) (cl : kCall) : List (List kOp) := [
  [oS (gPush (.int 0)), oStoreI 2, oS (gPush (.int 2)), oLoadI 1, oBin (fun x y => x * y), oS (gPush (.int 1)), oBin (fun x y => x - y), oStoreI 3, tGo 1],
  [oLoadI 3, oS (gPush (.int 1)), tCmp (fun x y => decide (x < y)) 6 2],
  [oLoadI 0, oLoadI 3, oCall cl 5 2, tIf (fun x => decide (x = 0)) 5 3],
  [oLoadI 0, oLoadI 3, oS (gPush (.int 1)), oBin (fun x y => x - y), oCall cl 5 2, tIf (fun x => !decide (x = 0)) 5 4],
  [oIinc 2 1, tGo 5],
  [oIinc 3 (-1), tGo 1],
  [oLoadI 2, tIret]]
set_option maxRecDepth 100000 in
set_option maxHeartbeats 4000000 in
theorem mok_X3_peaks {E : kE} {σ : List Nat} {l : Launch} {tb : List (List Int32)} (hE : kcl E = kCl) (hn : kn E = 20) (htb : ktb E = tb) : kMOK E (kXX (kb E) σ) σ kZs l kY kWS yX3_peaks (kws yX3_peaks cX3_peaks 4 (some .int)) cX3_peaks 4 (some .int) (fun cl => bl_X3_peaks tb cl) := by
  intro d cl hS p e R s m args below meth c α0 nc0 ns0 res C hf hlo hr hnm hout
  have hXX : kXX (kb E) σ s := C.2.2.2.2.2.2.1.2.2.2.2
  refine ⟨fun b => [0, 8, 13, 21, 31, 34, 40].getD b 0, rfl, kAllB_get (bl := bl_X3_peaks tb cl) ⟨?_, ?_, ?_, ?_, ?_, ?_, ?_, trivial⟩⟩
  · exact (ch_cons (pc := 0) (pc' := 1) (ok_iconst C dX3_peaks_0 (by decide)) <| ch_cons (pc := 1) (pc' := 2) (ok_istoren C dX3_peaks_1 rfl (by decide)) <| ch_cons (pc := 2) (pc' := 3) (ok_iconst C dX3_peaks_2 (by decide)) <| ch_cons (pc := 3) (pc' := 4) (ok_iloadn C dX3_peaks_3 rfl) <| ch_cons (pc := 4) (pc' := 5) (ok_imul C dX3_peaks_4) <| ch_cons (pc := 5) (pc' := 6) (ok_iconst C dX3_peaks_5 (by decide)) <| ch_cons (pc := 6) (pc' := 7) (ok_isub C dX3_peaks_6) <| ch_cons (pc := 7) (pc' := 8) (ok_istoren C dX3_peaks_7 rfl (by decide)) <| ch_last (pc := 8) (ok_fall rfl))
  · exact (ch_cons (pc := 8) (pc' := 9) (ok_iloadn C dX3_peaks_8 rfl) <| ch_cons (pc := 9) (pc' := 10) (ok_iconst C dX3_peaks_9 (by decide)) <| ch_last (pc := 10) (ok_icmp_lt (tgt := 40) C dX3_peaks_10 (by decide) rfl rfl))
  · exact (ch_cons (pc := 13) (pc' := 14) (ok_iloadn C dX3_peaks_13 rfl) <| ch_cons (pc := 14) (pc' := 15) (ok_iloadn C dX3_peaks_14 rfl) <| ch_cons (pc := 15) (pc' := 18) (ok_callS (d := d) C hout hf hlo (sn_5 hS) rfl (kG_s gw_17 gw_18 gw_19 gw_3) (by decide) (by decide +kernel) dX3_peaks_15) <| ch_last (pc := 18) (ok_if_eq (tgt := 34) C dX3_peaks_18 (by decide) rfl rfl))
  · exact (ch_cons (pc := 21) (pc' := 22) (ok_iloadn C dX3_peaks_21 rfl) <| ch_cons (pc := 22) (pc' := 23) (ok_iloadn C dX3_peaks_22 rfl) <| ch_cons (pc := 23) (pc' := 24) (ok_iconst C dX3_peaks_23 (by decide)) <| ch_cons (pc := 24) (pc' := 25) (ok_isub C dX3_peaks_24) <| ch_cons (pc := 25) (pc' := 28) (ok_callS (d := d) C hout hf hlo (sn_5 hS) rfl (kG_s gw_17 gw_18 gw_19 gw_3) (by decide) (by decide +kernel) dX3_peaks_25) <| ch_last (pc := 28) (ok_if_ne (tgt := 34) C dX3_peaks_28 (by decide) rfl rfl))
  · exact (ch_cons (pc := 31) (pc' := 34) (ok_iinc C dX3_peaks_31 (by decide) (by decide)) <| ch_last (pc := 34) (ok_fall rfl))
  · exact (ch_cons (pc := 34) (pc' := 37) (ok_iinc C dX3_peaks_34 (by decide) (by decide)) <| ch_last (pc := 37) (ok_goto (tgt := 8) C dX3_peaks_37 (by decide) rfl))
  · exact (ch_cons (pc := 40) (pc' := 41) (ok_iloadn C dX3_peaks_40 rfl) <| ch_last (pc := 41) (ok_ireturn C hr dX3_peaks_41))
/-- Bijectory$Paths.returns(II)I -/
def bl_X3_returns (tb : List (List Int32)) (cl : kCall) : List (List kOp) := [
  [oS (gPush (.int 0)), oStoreI 2, oS (gPush (.int 0)), oStoreI 3, oS (gPush (.int 2)), oLoadI 1, oBin (fun x y => x * y), oS (gPush (.int 1)), oBin (fun x y => x - y), oStoreI 4, tGo 1],
  [oLoadI 4, tIf (fun x => decide (x < 0)) 5 2],
  [oLoadI 3, oLoadI 0, oLoadI 4, oCall cl 6 2, oBin (fun x y => x + y), oStoreI 3, oLoadI 3, tIf (fun x => !decide (x = 0)) 4 3],
  [oIinc 2 1, tGo 4],
  [oIinc 4 (-1), tGo 1],
  [oLoadI 2, tIret]]
set_option maxRecDepth 100000 in
set_option maxHeartbeats 4000000 in
theorem mok_X3_returns {E : kE} {σ : List Nat} {l : Launch} {tb : List (List Int32)} (hE : kcl E = kCl) (hn : kn E = 20) (htb : ktb E = tb) : kMOK E (kXX (kb E) σ) σ kZs l kY kWS yX3_returns (kws yX3_returns cX3_returns 5 (some .int)) cX3_returns 5 (some .int) (fun cl => bl_X3_returns tb cl) := by
  intro d cl hS p e R s m args below meth c α0 nc0 ns0 res C hf hlo hr hnm hout
  have hXX : kXX (kb E) σ s := C.2.2.2.2.2.2.1.2.2.2.2
  refine ⟨fun b => [0, 11, 16, 29, 32, 38].getD b 0, rfl, kAllB_get (bl := bl_X3_returns tb cl) ⟨?_, ?_, ?_, ?_, ?_, ?_, trivial⟩⟩
  · exact (ch_cons (pc := 0) (pc' := 1) (ok_iconst C dX3_returns_0 (by decide)) <| ch_cons (pc := 1) (pc' := 2) (ok_istoren C dX3_returns_1 rfl (by decide)) <| ch_cons (pc := 2) (pc' := 3) (ok_iconst C dX3_returns_2 (by decide)) <| ch_cons (pc := 3) (pc' := 4) (ok_istoren C dX3_returns_3 rfl (by decide)) <| ch_cons (pc := 4) (pc' := 5) (ok_iconst C dX3_returns_4 (by decide)) <| ch_cons (pc := 5) (pc' := 6) (ok_iloadn C dX3_returns_5 rfl) <| ch_cons (pc := 6) (pc' := 7) (ok_imul C dX3_returns_6) <| ch_cons (pc := 7) (pc' := 8) (ok_iconst C dX3_returns_7 (by decide)) <| ch_cons (pc := 8) (pc' := 9) (ok_isub C dX3_returns_8) <| ch_cons (pc := 9) (pc' := 11) (ok_istore C dX3_returns_9 (by decide)) <| ch_last (pc := 11) (ok_fall rfl))
  · exact (ch_cons (pc := 11) (pc' := 13) (ok_iload C dX3_returns_11) <| ch_last (pc := 13) (ok_if_lt (tgt := 38) C dX3_returns_13 (by decide) rfl rfl))
  · exact (ch_cons (pc := 16) (pc' := 17) (ok_iloadn C dX3_returns_16 rfl) <| ch_cons (pc := 17) (pc' := 18) (ok_iloadn C dX3_returns_17 rfl) <| ch_cons (pc := 18) (pc' := 20) (ok_iload C dX3_returns_18) <| ch_cons (pc := 20) (pc' := 23) (ok_callS (d := d) C hout hf hlo (sn_6 hS) rfl (kG_s gw_0 gw_1 gw_2 gw_3) (by decide) (by decide +kernel) dX3_returns_20) <| ch_cons (pc := 23) (pc' := 24) (ok_iadd C dX3_returns_23) <| ch_cons (pc := 24) (pc' := 25) (ok_istoren C dX3_returns_24 rfl (by decide)) <| ch_cons (pc := 25) (pc' := 26) (ok_iloadn C dX3_returns_25 rfl) <| ch_last (pc := 26) (ok_if_ne (tgt := 32) C dX3_returns_26 (by decide) rfl rfl))
  · exact (ch_cons (pc := 29) (pc' := 32) (ok_iinc C dX3_returns_29 (by decide) (by decide)) <| ch_last (pc := 32) (ok_fall rfl))
  · exact (ch_cons (pc := 32) (pc' := 35) (ok_iinc C dX3_returns_32 (by decide) (by decide)) <| ch_last (pc := 35) (ok_goto (tgt := 11) C dX3_returns_35 (by decide) rfl))
  · exact (ch_cons (pc := 38) (pc' := 39) (ok_iloadn C dX3_returns_38 rfl) <| ch_last (pc := 39) (ok_ireturn C hr dX3_returns_39))
/-- Bijectory$Paths.greatestHeight(II)I -/
def bl_X3_greatestHeight (tb : List (List Int32)) (cl : kCall) : List (List kOp) := [
  [oS (gPush (.int 0)), oStoreI 2, oS (gPush (.int 0)), oStoreI 3, oS (gPush (.int 2)), oLoadI 1, oBin (fun x y => x * y), oS (gPush (.int 1)), oBin (fun x y => x - y), oStoreI 4, tGo 1],
  [oLoadI 4, tIf (fun x => decide (x < 0)) 3 2],
  [oLoadI 3, oLoadI 0, oLoadI 4, oCall cl 6 2, oBin (fun x y => x + y), oStoreI 3, oLoadI 2, oLoadI 3, oMax true, oStoreI 2, oIinc 4 (-1), tGo 1],
  [oLoadI 2, tIret]]
set_option maxRecDepth 100000 in
set_option maxHeartbeats 4000000 in
theorem mok_X3_greatestHeight {E : kE} {σ : List Nat} {l : Launch} {tb : List (List Int32)} (hE : kcl E = kCl) (hn : kn E = 20) (htb : ktb E = tb) : kMOK E (kXX (kb E) σ) σ kZs l kY kWS yX3_greatestHeight (kws yX3_greatestHeight cX3_greatestHeight 5 (some .int)) cX3_greatestHeight 5 (some .int) (fun cl => bl_X3_greatestHeight tb cl) := by
  intro d cl hS p e R s m args below meth c α0 nc0 ns0 res C hf hlo hr hnm hout
  have hXX : kXX (kb E) σ s := C.2.2.2.2.2.2.1.2.2.2.2
  refine ⟨fun b => [0, 11, 16, 37].getD b 0, rfl, kAllB_get (bl := bl_X3_greatestHeight tb cl) ⟨?_, ?_, ?_, ?_, trivial⟩⟩
  · exact (ch_cons (pc := 0) (pc' := 1) (ok_iconst C dX3_greatestHeight_0 (by decide)) <| ch_cons (pc := 1) (pc' := 2) (ok_istoren C dX3_greatestHeight_1 rfl (by decide)) <| ch_cons (pc := 2) (pc' := 3) (ok_iconst C dX3_greatestHeight_2 (by decide)) <| ch_cons (pc := 3) (pc' := 4) (ok_istoren C dX3_greatestHeight_3 rfl (by decide)) <| ch_cons (pc := 4) (pc' := 5) (ok_iconst C dX3_greatestHeight_4 (by decide)) <| ch_cons (pc := 5) (pc' := 6) (ok_iloadn C dX3_greatestHeight_5 rfl) <| ch_cons (pc := 6) (pc' := 7) (ok_imul C dX3_greatestHeight_6) <| ch_cons (pc := 7) (pc' := 8) (ok_iconst C dX3_greatestHeight_7 (by decide)) <| ch_cons (pc := 8) (pc' := 9) (ok_isub C dX3_greatestHeight_8) <| ch_cons (pc := 9) (pc' := 11) (ok_istore C dX3_greatestHeight_9 (by decide)) <| ch_last (pc := 11) (ok_fall rfl))
  · exact (ch_cons (pc := 11) (pc' := 13) (ok_iload C dX3_greatestHeight_11) <| ch_last (pc := 13) (ok_if_lt (tgt := 37) C dX3_greatestHeight_13 (by decide) rfl rfl))
  · exact (ch_cons (pc := 16) (pc' := 17) (ok_iloadn C dX3_greatestHeight_16 rfl) <| ch_cons (pc := 17) (pc' := 18) (ok_iloadn C dX3_greatestHeight_17 rfl) <| ch_cons (pc := 18) (pc' := 20) (ok_iload C dX3_greatestHeight_18) <| ch_cons (pc := 20) (pc' := 23) (ok_callS (d := d) C hout hf hlo (sn_6 hS) rfl (kG_s gw_0 gw_1 gw_2 gw_3) (by decide) (by decide +kernel) dX3_greatestHeight_20) <| ch_cons (pc := 23) (pc' := 24) (ok_iadd C dX3_greatestHeight_23) <| ch_cons (pc := 24) (pc' := 25) (ok_istoren C dX3_greatestHeight_24 rfl (by decide)) <| ch_cons (pc := 25) (pc' := 26) (ok_iloadn C dX3_greatestHeight_25 rfl) <| ch_cons (pc := 26) (pc' := 27) (ok_iloadn C dX3_greatestHeight_26 rfl) <| ch_cons (pc := 27) (pc' := 30) (ok_max C (kG_in gw_35) (kG_in gw_36) (kG_in gw_37) (kG_in gw_38) dX3_greatestHeight_27) <| ch_cons (pc := 30) (pc' := 31) (ok_istoren C dX3_greatestHeight_30 rfl (by decide)) <| ch_cons (pc := 31) (pc' := 34) (ok_iinc C dX3_greatestHeight_31 (by decide) (by decide)) <| ch_last (pc := 34) (ok_goto (tgt := 11) C dX3_greatestHeight_34 (by decide) rfl))
  · exact (ch_cons (pc := 37) (pc' := 38) (ok_iloadn C dX3_greatestHeight_37 rfl) <| ch_last (pc := 38) (ok_ireturn C hr dX3_greatestHeight_38))
/-- Bijectory$Paths.area(II)I -/
def bl_X3_area (tb : List (List Int32)) (cl : kCall) : List (List kOp) := [
  [oS (gPush (.int 0)), oStoreI 2, oS (gPush (.int 0)), oStoreI 3, oS (gPush (.int 2)), oLoadI 1, oBin (fun x y => x * y), oS (gPush (.int 1)), oBin (fun x y => x - y), oStoreI 4, tGo 1],
  [oLoadI 4, tIf (fun x => decide (x < 0)) 3 2],
  [oLoadI 3, oLoadI 0, oLoadI 4, oCall cl 6 2, oBin (fun x y => x + y), oStoreI 3, oLoadI 2, oLoadI 3, oBin (fun x y => x + y), oStoreI 2, oIinc 4 (-1), tGo 1],
  [oLoadI 2, tIret]]
set_option maxRecDepth 100000 in
set_option maxHeartbeats 4000000 in
theorem mok_X3_area {E : kE} {σ : List Nat} {l : Launch} {tb : List (List Int32)} (hE : kcl E = kCl) (hn : kn E = 20) (htb : ktb E = tb) : kMOK E (kXX (kb E) σ) σ kZs l kY kWS yX3_area (kws yX3_area cX3_area 5 (some .int)) cX3_area 5 (some .int) (fun cl => bl_X3_area tb cl) := by
  intro d cl hS p e R s m args below meth c α0 nc0 ns0 res C hf hlo hr hnm hout
  have hXX : kXX (kb E) σ s := C.2.2.2.2.2.2.1.2.2.2.2
  refine ⟨fun b => [0, 11, 16, 35].getD b 0, rfl, kAllB_get (bl := bl_X3_area tb cl) ⟨?_, ?_, ?_, ?_, trivial⟩⟩
  · exact (ch_cons (pc := 0) (pc' := 1) (ok_iconst C dX3_area_0 (by decide)) <| ch_cons (pc := 1) (pc' := 2) (ok_istoren C dX3_area_1 rfl (by decide)) <| ch_cons (pc := 2) (pc' := 3) (ok_iconst C dX3_area_2 (by decide)) <| ch_cons (pc := 3) (pc' := 4) (ok_istoren C dX3_area_3 rfl (by decide)) <| ch_cons (pc := 4) (pc' := 5) (ok_iconst C dX3_area_4 (by decide)) <| ch_cons (pc := 5) (pc' := 6) (ok_iloadn C dX3_area_5 rfl) <| ch_cons (pc := 6) (pc' := 7) (ok_imul C dX3_area_6) <| ch_cons (pc := 7) (pc' := 8) (ok_iconst C dX3_area_7 (by decide)) <| ch_cons (pc := 8) (pc' := 9) (ok_isub C dX3_area_8) <| ch_cons (pc := 9) (pc' := 11) (ok_istore C dX3_area_9 (by decide)) <| ch_last (pc := 11) (ok_fall rfl))
  · exact (ch_cons (pc := 11) (pc' := 13) (ok_iload C dX3_area_11) <| ch_last (pc := 13) (ok_if_lt (tgt := 35) C dX3_area_13 (by decide) rfl rfl))
  · exact (ch_cons (pc := 16) (pc' := 17) (ok_iloadn C dX3_area_16 rfl) <| ch_cons (pc := 17) (pc' := 18) (ok_iloadn C dX3_area_17 rfl) <| ch_cons (pc := 18) (pc' := 20) (ok_iload C dX3_area_18) <| ch_cons (pc := 20) (pc' := 23) (ok_callS (d := d) C hout hf hlo (sn_6 hS) rfl (kG_s gw_0 gw_1 gw_2 gw_3) (by decide) (by decide +kernel) dX3_area_20) <| ch_cons (pc := 23) (pc' := 24) (ok_iadd C dX3_area_23) <| ch_cons (pc := 24) (pc' := 25) (ok_istoren C dX3_area_24 rfl (by decide)) <| ch_cons (pc := 25) (pc' := 26) (ok_iloadn C dX3_area_25 rfl) <| ch_cons (pc := 26) (pc' := 27) (ok_iloadn C dX3_area_26 rfl) <| ch_cons (pc := 27) (pc' := 28) (ok_iadd C dX3_area_27) <| ch_cons (pc := 28) (pc' := 29) (ok_istoren C dX3_area_28 rfl (by decide)) <| ch_cons (pc := 29) (pc' := 32) (ok_iinc C dX3_area_29 (by decide) (by decide)) <| ch_last (pc := 32) (ok_goto (tgt := 11) C dX3_area_32 (by decide) rfl))
  · exact (ch_cons (pc := 35) (pc' := 36) (ok_iloadn C dX3_area_35 rfl) <| ch_last (pc := 36) (ok_ireturn C hr dX3_area_36))
/-- Bijectory$Orders.isOrder(II)Z -/
def bl_X2_isOrder (tb : List (List Int32)) (cl : kCall) : List (List kOp) := [
  [oLoadI 0, oStoreI 2, oS (gPush (.int 0)), oStoreI 3, oLoadI 1, oStoreI 4, tGo 1],
  [oLoadI 4, oS (gPush (.int 1)), tCmp (fun x y => decide (x < y)) 7 2],
  [oLoadI 2, oS (gPush (.int 10)), oBin0 (fun x y => x - x / y * y), oStoreI 5, oLoadI 5, oS (gPush (.int 1)), tCmp (fun x y => decide (x < y)) 5 3],
  [oLoadI 5, oLoadI 1, tCmp (fun x y => decide (y < x)) 5 4],
  [oLoadI 3, oLoadI 5, oBin (fun x y => x >>> (y &&& 31)), oS (gPush (.int 1)), oBin (fun x y => x &&& y), oS (gPush (.int 1)), tCmp (fun x y => !decide (x = y)) 6 5],
  [oS (gPush (.int 0)), tZret],
  [oLoadI 3, oS (gPush (.int 1)), oLoadI 5, oBin (fun x y => x <<< (y &&& 31)), oBin (fun x y => x ||| y), oStoreI 3, oLoadI 2, oS (gPush (.int 10)), oBin0 (fun x y => x / y), oStoreI 2, oIinc 4 (-1), tGo 1],
  [oLoadI 2, tIf (fun x => !decide (x = 0)) 9 8],
  [oS (gPush (.int 1)), tGo 10],
  [oS (gPush (.int 0)), tGo 10],
  [tZret]]
set_option maxRecDepth 100000 in
set_option maxHeartbeats 4000000 in
theorem mok_X2_isOrder {E : kE} {σ : List Nat} {l : Launch} {tb : List (List Int32)} (hE : kcl E = kCl) (hn : kn E = 20) (htb : ktb E = tb) : kMOK E (kXX (kb E) σ) σ kZs l kY kWS yX2_isOrder (kws yX2_isOrder cX2_isOrder 6 (some .boolean)) cX2_isOrder 6 (some .boolean) (fun cl => bl_X2_isOrder tb cl) := by
  intro d cl hS p e R s m args below meth c α0 nc0 ns0 res C hf hlo hr hnm hout
  have hXX : kXX (kb E) σ s := C.2.2.2.2.2.2.1.2.2.2.2
  refine ⟨fun b => [0, 7, 13, 25, 31, 41, 43, 61, 65, 69, 70].getD b 0, rfl, kAllB_get (bl := bl_X2_isOrder tb cl) ⟨?_, ?_, ?_, ?_, ?_, ?_, ?_, ?_, ?_, ?_, ?_, trivial⟩⟩
  · exact (ch_cons (pc := 0) (pc' := 1) (ok_iloadn C dX2_isOrder_0 rfl) <| ch_cons (pc := 1) (pc' := 2) (ok_istoren C dX2_isOrder_1 rfl (by decide)) <| ch_cons (pc := 2) (pc' := 3) (ok_iconst C dX2_isOrder_2 (by decide)) <| ch_cons (pc := 3) (pc' := 4) (ok_istoren C dX2_isOrder_3 rfl (by decide)) <| ch_cons (pc := 4) (pc' := 5) (ok_iloadn C dX2_isOrder_4 rfl) <| ch_cons (pc := 5) (pc' := 7) (ok_istore C dX2_isOrder_5 (by decide)) <| ch_last (pc := 7) (ok_fall rfl))
  · exact (ch_cons (pc := 7) (pc' := 9) (ok_iload C dX2_isOrder_7) <| ch_cons (pc := 9) (pc' := 10) (ok_iconst C dX2_isOrder_9 (by decide)) <| ch_last (pc := 10) (ok_icmp_lt (tgt := 61) C dX2_isOrder_10 (by decide) rfl rfl))
  · exact (ch_cons (pc := 13) (pc' := 14) (ok_iloadn C dX2_isOrder_13 rfl) <| ch_cons (pc := 14) (pc' := 16) (ok_bipush C dX2_isOrder_14 (by decide)) <| ch_cons (pc := 16) (pc' := 17) (ok_irem C dX2_isOrder_16) <| ch_cons (pc := 17) (pc' := 19) (ok_istore C dX2_isOrder_17 (by decide)) <| ch_cons (pc := 19) (pc' := 21) (ok_iload C dX2_isOrder_19) <| ch_cons (pc := 21) (pc' := 22) (ok_iconst C dX2_isOrder_21 (by decide)) <| ch_last (pc := 22) (ok_icmp_lt (tgt := 41) C dX2_isOrder_22 (by decide) rfl rfl))
  · exact (ch_cons (pc := 25) (pc' := 27) (ok_iload C dX2_isOrder_25) <| ch_cons (pc := 27) (pc' := 28) (ok_iloadn C dX2_isOrder_27 rfl) <| ch_last (pc := 28) (ok_icmp_gt (tgt := 41) C dX2_isOrder_28 (by decide) rfl rfl))
  · exact (ch_cons (pc := 31) (pc' := 32) (ok_iloadn C dX2_isOrder_31 rfl) <| ch_cons (pc := 32) (pc' := 34) (ok_iload C dX2_isOrder_32) <| ch_cons (pc := 34) (pc' := 35) (ok_ishr C dX2_isOrder_34) <| ch_cons (pc := 35) (pc' := 36) (ok_iconst C dX2_isOrder_35 (by decide)) <| ch_cons (pc := 36) (pc' := 37) (ok_iand C dX2_isOrder_36) <| ch_cons (pc := 37) (pc' := 38) (ok_iconst C dX2_isOrder_37 (by decide)) <| ch_last (pc := 38) (ok_icmp_ne (tgt := 43) C dX2_isOrder_38 (by decide) rfl rfl))
  · exact (ch_cons (pc := 41) (pc' := 42) (ok_iconst C dX2_isOrder_41 (by decide)) <| ch_last (pc := 42) (ok_zreturn C hr dX2_isOrder_42))
  · exact (ch_cons (pc := 43) (pc' := 44) (ok_iloadn C dX2_isOrder_43 rfl) <| ch_cons (pc := 44) (pc' := 45) (ok_iconst C dX2_isOrder_44 (by decide)) <| ch_cons (pc := 45) (pc' := 47) (ok_iload C dX2_isOrder_45) <| ch_cons (pc := 47) (pc' := 48) (ok_ishl C dX2_isOrder_47) <| ch_cons (pc := 48) (pc' := 49) (ok_ior C dX2_isOrder_48) <| ch_cons (pc := 49) (pc' := 50) (ok_istoren C dX2_isOrder_49 rfl (by decide)) <| ch_cons (pc := 50) (pc' := 51) (ok_iloadn C dX2_isOrder_50 rfl) <| ch_cons (pc := 51) (pc' := 53) (ok_bipush C dX2_isOrder_51 (by decide)) <| ch_cons (pc := 53) (pc' := 54) (ok_idiv C dX2_isOrder_53) <| ch_cons (pc := 54) (pc' := 55) (ok_istoren C dX2_isOrder_54 rfl (by decide)) <| ch_cons (pc := 55) (pc' := 58) (ok_iinc C dX2_isOrder_55 (by decide) (by decide)) <| ch_last (pc := 58) (ok_goto (tgt := 7) C dX2_isOrder_58 (by decide) rfl))
  · exact (ch_cons (pc := 61) (pc' := 62) (ok_iloadn C dX2_isOrder_61 rfl) <| ch_last (pc := 62) (ok_if_ne (tgt := 69) C dX2_isOrder_62 (by decide) rfl rfl))
  · exact (ch_cons (pc := 65) (pc' := 66) (ok_iconst C dX2_isOrder_65 (by decide)) <| ch_last (pc := 66) (ok_goto (tgt := 70) C dX2_isOrder_66 (by decide) rfl))
  · exact (ch_cons (pc := 69) (pc' := 70) (ok_iconst C dX2_isOrder_69 (by decide)) <| ch_last (pc := 70) (ok_fall rfl))
  · exact (ch_last (pc := 70) (ok_zreturn C hr dX2_isOrder_70))
/-- Bijectory$Orders.at(III)I -/
def bl_X2_at (tb : List (List Int32)) (cl : kCall) : List (List kOp) := [
  [oLoadI 0, oStoreI 3, oLoadI 1, oStoreI 4, tGo 1],
  [oLoadI 4, oLoadI 2, tCmp (fun x y => decide (x ≤ y)) 3 2],
  [oLoadI 3, oS (gPush (.int 10)), oBin0 (fun x y => x / y), oStoreI 3, oIinc 4 (-1), tGo 1],
  [oLoadI 3, oS (gPush (.int 10)), oBin0 (fun x y => x - x / y * y), tIret]]
set_option maxRecDepth 100000 in
set_option maxHeartbeats 4000000 in
theorem mok_X2_at {E : kE} {σ : List Nat} {l : Launch} {tb : List (List Int32)} (hE : kcl E = kCl) (hn : kn E = 20) (htb : ktb E = tb) : kMOK E (kXX (kb E) σ) σ kZs l kY kWS yX2_at (kws yX2_at cX2_at 5 (some .int)) cX2_at 5 (some .int) (fun cl => bl_X2_at tb cl) := by
  intro d cl hS p e R s m args below meth c α0 nc0 ns0 res C hf hlo hr hnm hout
  have hXX : kXX (kb E) σ s := C.2.2.2.2.2.2.1.2.2.2.2
  refine ⟨fun b => [0, 5, 11, 22].getD b 0, rfl, kAllB_get (bl := bl_X2_at tb cl) ⟨?_, ?_, ?_, ?_, trivial⟩⟩
  · exact (ch_cons (pc := 0) (pc' := 1) (ok_iloadn C dX2_at_0 rfl) <| ch_cons (pc := 1) (pc' := 2) (ok_istoren C dX2_at_1 rfl (by decide)) <| ch_cons (pc := 2) (pc' := 3) (ok_iloadn C dX2_at_2 rfl) <| ch_cons (pc := 3) (pc' := 5) (ok_istore C dX2_at_3 (by decide)) <| ch_last (pc := 5) (ok_fall rfl))
  · exact (ch_cons (pc := 5) (pc' := 7) (ok_iload C dX2_at_5) <| ch_cons (pc := 7) (pc' := 8) (ok_iloadn C dX2_at_7 rfl) <| ch_last (pc := 8) (ok_icmp_le (tgt := 22) C dX2_at_8 (by decide) rfl rfl))
  · exact (ch_cons (pc := 11) (pc' := 12) (ok_iloadn C dX2_at_11 rfl) <| ch_cons (pc := 12) (pc' := 14) (ok_bipush C dX2_at_12 (by decide)) <| ch_cons (pc := 14) (pc' := 15) (ok_idiv C dX2_at_14) <| ch_cons (pc := 15) (pc' := 16) (ok_istoren C dX2_at_15 rfl (by decide)) <| ch_cons (pc := 16) (pc' := 19) (ok_iinc C dX2_at_16 (by decide) (by decide)) <| ch_last (pc := 19) (ok_goto (tgt := 5) C dX2_at_19 (by decide) rfl))
  · exact (ch_cons (pc := 22) (pc' := 23) (ok_iloadn C dX2_at_22 rfl) <| ch_cons (pc := 23) (pc' := 25) (ok_bipush C dX2_at_23 (by decide)) <| ch_cons (pc := 25) (pc' := 26) (ok_irem C dX2_at_25) <| ch_last (pc := 26) (ok_ireturn C hr dX2_at_26))
/-- Bijectory$Orders.ofRank(II)I -/
def bl_X2_ofRank (tb : List (List Int32)) (cl : kCall) : List (List kOp) := [
  [oS (gPush (.int 0)), oStoreI 2, oS (gPush (.int 0)), oStoreI 3, oLoadI 0, oStoreI 4, oLoadI 1, oS (gPush (.int 1)), oBin (fun x y => x - y), oStoreI 5, tGo 1],
  [oLoadI 5, tIf (fun x => decide (x < 0)) 9 2],
  [oGetS 3, oLoadI 5, oCall cl 0 2, oStoreI 6, oLoadI 6, tIf (fun x => decide (x ≤ 0)) 4 3],
  [oLoadI 3, oLoadI 4, oLoadI 6, oBin0 (fun x y => x / y), oCall cl 21 2, tGo 5],
  [oS (gPush (.int 0)), tGo 5],
  [oStoreI 7, oLoadI 6, tIf (fun x => decide (x ≤ 0)) 7 6],
  [oLoadI 4, oLoadI 6, oBin0 (fun x y => x - x / y * y), tGo 8],
  [oS (gPush (.int 0)), tGo 8],
  [oStoreI 4, oLoadI 3, oS (gPush (.int 1)), oLoadI 7, oBin (fun x y => x <<< (y &&& 31)), oBin (fun x y => x ||| y), oStoreI 3, oLoadI 2, oS (gPush (.int 10)), oBin (fun x y => x * y), oLoadI 7, oBin (fun x y => x + y), oStoreI 2, oIinc 5 (-1), tGo 1],
  [oLoadI 2, tIret]]
set_option maxRecDepth 100000 in
set_option maxHeartbeats 4000000 in
theorem mok_X2_ofRank {E : kE} {σ : List Nat} {l : Launch} {tb : List (List Int32)} (hE : kcl E = kCl) (hn : kn E = 20) (htb : ktb E = tb) : kMOK E (kXX (kb E) σ) σ kZs l kY kWS yX2_ofRank (kws yX2_ofRank cX2_ofRank 8 (some .int)) cX2_ofRank 8 (some .int) (fun cl => bl_X2_ofRank tb cl) := by
  intro d cl hS p e R s m args below meth c α0 nc0 ns0 res C hf hlo hr hnm hout
  have hXX : kXX (kb E) σ s := C.2.2.2.2.2.2.1.2.2.2.2
  refine ⟨fun b => [0, 12, 17, 32, 44, 45, 52, 60, 61, 84].getD b 0, rfl, kAllB_get (bl := bl_X2_ofRank tb cl) ⟨?_, ?_, ?_, ?_, ?_, ?_, ?_, ?_, ?_, ?_, trivial⟩⟩
  · exact (ch_cons (pc := 0) (pc' := 1) (ok_iconst C dX2_ofRank_0 (by decide)) <| ch_cons (pc := 1) (pc' := 2) (ok_istoren C dX2_ofRank_1 rfl (by decide)) <| ch_cons (pc := 2) (pc' := 3) (ok_iconst C dX2_ofRank_2 (by decide)) <| ch_cons (pc := 3) (pc' := 4) (ok_istoren C dX2_ofRank_3 rfl (by decide)) <| ch_cons (pc := 4) (pc' := 5) (ok_iloadn C dX2_ofRank_4 rfl) <| ch_cons (pc := 5) (pc' := 7) (ok_istore C dX2_ofRank_5 (by decide)) <| ch_cons (pc := 7) (pc' := 8) (ok_iloadn C dX2_ofRank_7 rfl) <| ch_cons (pc := 8) (pc' := 9) (ok_iconst C dX2_ofRank_8 (by decide)) <| ch_cons (pc := 9) (pc' := 10) (ok_isub C dX2_ofRank_9) <| ch_cons (pc := 10) (pc' := 12) (ok_istore C dX2_ofRank_10 (by decide)) <| ch_last (pc := 12) (ok_fall rfl))
  · exact (ch_cons (pc := 12) (pc' := 14) (ok_iload C dX2_ofRank_12) <| ch_last (pc := 14) (ok_if_lt (tgt := 84) C dX2_ofRank_14 (by decide) rfl rfl))
  · exact (ch_cons (pc := 17) (pc' := 20) (ok_getsN C zin_3 (xw_0 hXX) dX2_ofRank_17) <| ch_cons (pc := 20) (pc' := 22) (ok_iload C dX2_ofRank_20) <| ch_cons (pc := 22) (pc' := 25) (ok_callS (d := d) C hout hf hlo (sn_0 hS) rfl (kG_s gw_39 gw_40 gw_41 gw_42) (by decide) (by decide +kernel) dX2_ofRank_22) <| ch_cons (pc := 25) (pc' := 27) (ok_istore C dX2_ofRank_25 (by decide)) <| ch_cons (pc := 27) (pc' := 29) (ok_iload C dX2_ofRank_27) <| ch_last (pc := 29) (ok_if_le (tgt := 44) C dX2_ofRank_29 (by decide) rfl rfl))
  · exact (ch_cons (pc := 32) (pc' := 33) (ok_iloadn C dX2_ofRank_32 rfl) <| ch_cons (pc := 33) (pc' := 35) (ok_iload C dX2_ofRank_33) <| ch_cons (pc := 35) (pc' := 37) (ok_iload C dX2_ofRank_35) <| ch_cons (pc := 37) (pc' := 38) (ok_idiv C dX2_ofRank_37) <| ch_cons (pc := 38) (pc' := 41) (ok_callS (d := d) C hout hf hlo (sn_21 hS) rfl (kG_s gw_43 gw_44 gw_45 gw_46) (by decide) (by decide +kernel) dX2_ofRank_38) <| ch_last (pc := 41) (ok_goto (tgt := 45) C dX2_ofRank_41 (by decide) rfl))
  · exact (ch_cons (pc := 44) (pc' := 45) (ok_iconst C dX2_ofRank_44 (by decide)) <| ch_last (pc := 45) (ok_fall rfl))
  · exact (ch_cons (pc := 45) (pc' := 47) (ok_istore C dX2_ofRank_45 (by decide)) <| ch_cons (pc := 47) (pc' := 49) (ok_iload C dX2_ofRank_47) <| ch_last (pc := 49) (ok_if_le (tgt := 60) C dX2_ofRank_49 (by decide) rfl rfl))
  · exact (ch_cons (pc := 52) (pc' := 54) (ok_iload C dX2_ofRank_52) <| ch_cons (pc := 54) (pc' := 56) (ok_iload C dX2_ofRank_54) <| ch_cons (pc := 56) (pc' := 57) (ok_irem C dX2_ofRank_56) <| ch_last (pc := 57) (ok_goto (tgt := 61) C dX2_ofRank_57 (by decide) rfl))
  · exact (ch_cons (pc := 60) (pc' := 61) (ok_iconst C dX2_ofRank_60 (by decide)) <| ch_last (pc := 61) (ok_fall rfl))
  · exact (ch_cons (pc := 61) (pc' := 63) (ok_istore C dX2_ofRank_61 (by decide)) <| ch_cons (pc := 63) (pc' := 64) (ok_iloadn C dX2_ofRank_63 rfl) <| ch_cons (pc := 64) (pc' := 65) (ok_iconst C dX2_ofRank_64 (by decide)) <| ch_cons (pc := 65) (pc' := 67) (ok_iload C dX2_ofRank_65) <| ch_cons (pc := 67) (pc' := 68) (ok_ishl C dX2_ofRank_67) <| ch_cons (pc := 68) (pc' := 69) (ok_ior C dX2_ofRank_68) <| ch_cons (pc := 69) (pc' := 70) (ok_istoren C dX2_ofRank_69 rfl (by decide)) <| ch_cons (pc := 70) (pc' := 71) (ok_iloadn C dX2_ofRank_70 rfl) <| ch_cons (pc := 71) (pc' := 73) (ok_bipush C dX2_ofRank_71 (by decide)) <| ch_cons (pc := 73) (pc' := 74) (ok_imul C dX2_ofRank_73) <| ch_cons (pc := 74) (pc' := 76) (ok_iload C dX2_ofRank_74) <| ch_cons (pc := 76) (pc' := 77) (ok_iadd C dX2_ofRank_76) <| ch_cons (pc := 77) (pc' := 78) (ok_istoren C dX2_ofRank_77 rfl (by decide)) <| ch_cons (pc := 78) (pc' := 81) (ok_iinc C dX2_ofRank_78 (by decide) (by decide)) <| ch_last (pc := 81) (ok_goto (tgt := 12) C dX2_ofRank_81 (by decide) rfl))
  · exact (ch_cons (pc := 84) (pc' := 85) (ok_iloadn C dX2_ofRank_84 rfl) <| ch_last (pc := 85) (ok_ireturn C hr dX2_ofRank_85))
/-- Bijectory$Orders.freeNumber(II)I -/
def bl_X2_freeNumber (tb : List (List Int32)) (cl : kCall) : List (List kOp) := [
  [oLoadI 1, oStoreI 2, oS (gPush (.int 1)), oStoreI 3, tGo 1],
  [oLoadI 3, oS (gPush (.int 6)), tCmp (fun x y => decide (y < x)) 12 2],
  [oLoadI 0, oLoadI 3, oBin (fun x y => x >>> (y &&& 31)), oS (gPush (.int 1)), oBin (fun x y => x &&& y), tIf (fun x => !decide (x = 0)) 4 3],
  [oS (gPush (.int 1)), tGo 5],
  [oS (gPush (.int 0)), tGo 5],
  [oStoreI 4, oLoadI 4, tIf (fun x => decide (x = 0)) 8 6],
  [oLoadI 2, tIf (fun x => !decide (x = 0)) 8 7],
  [oLoadI 3, tIret],
  [oLoadI 2, oLoadI 4, tIf (fun x => decide (x = 0)) 10 9],
  [oS (gPush (.int 1)), tGo 11],
  [oS (gPush (.int 0)), tGo 11],
  [oBin (fun x y => x - y), oStoreI 2, oIinc 3 1, tGo 1],
  [oS (gPush (.int 0)), tIret]]
set_option maxRecDepth 100000 in
set_option maxHeartbeats 4000000 in
theorem mok_X2_freeNumber {E : kE} {σ : List Nat} {l : Launch} {tb : List (List Int32)} (hE : kcl E = kCl) (hn : kn E = 20) (htb : ktb E = tb) : kMOK E (kXX (kb E) σ) σ kZs l kY kWS yX2_freeNumber (kws yX2_freeNumber cX2_freeNumber 5 (some .int)) cX2_freeNumber 5 (some .int) (fun cl => bl_X2_freeNumber tb cl) := by
  intro d cl hS p e R s m args below meth c α0 nc0 ns0 res C hf hlo hr hnm hout
  have hXX : kXX (kb E) σ s := C.2.2.2.2.2.2.1.2.2.2.2
  refine ⟨fun b => [0, 4, 10, 18, 22, 23, 30, 34, 36, 42, 46, 47, 55].getD b 0, rfl, kAllB_get (bl := bl_X2_freeNumber tb cl) ⟨?_, ?_, ?_, ?_, ?_, ?_, ?_, ?_, ?_, ?_, ?_, ?_, ?_, trivial⟩⟩
  · exact (ch_cons (pc := 0) (pc' := 1) (ok_iloadn C dX2_freeNumber_0 rfl) <| ch_cons (pc := 1) (pc' := 2) (ok_istoren C dX2_freeNumber_1 rfl (by decide)) <| ch_cons (pc := 2) (pc' := 3) (ok_iconst C dX2_freeNumber_2 (by decide)) <| ch_cons (pc := 3) (pc' := 4) (ok_istoren C dX2_freeNumber_3 rfl (by decide)) <| ch_last (pc := 4) (ok_fall rfl))
  · exact (ch_cons (pc := 4) (pc' := 5) (ok_iloadn C dX2_freeNumber_4 rfl) <| ch_cons (pc := 5) (pc' := 7) (ok_bipush C dX2_freeNumber_5 (by decide)) <| ch_last (pc := 7) (ok_icmp_gt (tgt := 55) C dX2_freeNumber_7 (by decide) rfl rfl))
  · exact (ch_cons (pc := 10) (pc' := 11) (ok_iloadn C dX2_freeNumber_10 rfl) <| ch_cons (pc := 11) (pc' := 12) (ok_iloadn C dX2_freeNumber_11 rfl) <| ch_cons (pc := 12) (pc' := 13) (ok_ishr C dX2_freeNumber_12) <| ch_cons (pc := 13) (pc' := 14) (ok_iconst C dX2_freeNumber_13 (by decide)) <| ch_cons (pc := 14) (pc' := 15) (ok_iand C dX2_freeNumber_14) <| ch_last (pc := 15) (ok_if_ne (tgt := 22) C dX2_freeNumber_15 (by decide) rfl rfl))
  · exact (ch_cons (pc := 18) (pc' := 19) (ok_iconst C dX2_freeNumber_18 (by decide)) <| ch_last (pc := 19) (ok_goto (tgt := 23) C dX2_freeNumber_19 (by decide) rfl))
  · exact (ch_cons (pc := 22) (pc' := 23) (ok_iconst C dX2_freeNumber_22 (by decide)) <| ch_last (pc := 23) (ok_fall rfl))
  · exact (ch_cons (pc := 23) (pc' := 25) (ok_istore C dX2_freeNumber_23 (by decide)) <| ch_cons (pc := 25) (pc' := 27) (ok_iload C dX2_freeNumber_25) <| ch_last (pc := 27) (ok_if_eq (tgt := 36) C dX2_freeNumber_27 (by decide) rfl rfl))
  · exact (ch_cons (pc := 30) (pc' := 31) (ok_iloadn C dX2_freeNumber_30 rfl) <| ch_last (pc := 31) (ok_if_ne (tgt := 36) C dX2_freeNumber_31 (by decide) rfl rfl))
  · exact (ch_cons (pc := 34) (pc' := 35) (ok_iloadn C dX2_freeNumber_34 rfl) <| ch_last (pc := 35) (ok_ireturn C hr dX2_freeNumber_35))
  · exact (ch_cons (pc := 36) (pc' := 37) (ok_iloadn C dX2_freeNumber_36 rfl) <| ch_cons (pc := 37) (pc' := 39) (ok_iload C dX2_freeNumber_37) <| ch_last (pc := 39) (ok_if_eq (tgt := 46) C dX2_freeNumber_39 (by decide) rfl rfl))
  · exact (ch_cons (pc := 42) (pc' := 43) (ok_iconst C dX2_freeNumber_42 (by decide)) <| ch_last (pc := 43) (ok_goto (tgt := 47) C dX2_freeNumber_43 (by decide) rfl))
  · exact (ch_cons (pc := 46) (pc' := 47) (ok_iconst C dX2_freeNumber_46 (by decide)) <| ch_last (pc := 47) (ok_fall rfl))
  · exact (ch_cons (pc := 47) (pc' := 48) (ok_isub C dX2_freeNumber_47) <| ch_cons (pc := 48) (pc' := 49) (ok_istoren C dX2_freeNumber_48 rfl (by decide)) <| ch_cons (pc := 49) (pc' := 52) (ok_iinc C dX2_freeNumber_49 (by decide) (by decide)) <| ch_last (pc := 52) (ok_goto (tgt := 4) C dX2_freeNumber_52 (by decide) rfl))
  · exact (ch_cons (pc := 55) (pc' := 56) (ok_iconst C dX2_freeNumber_55 (by decide)) <| ch_last (pc := 56) (ok_ireturn C hr dX2_freeNumber_56))
/-- Bijectory$Orders.shape(IIII)I -/
def bl_X2_shape (tb : List (List Int32)) (cl : kCall) : List (List kOp) := [
  [oLoadI 2, oS (gPush (.int 1)), tCmp (fun x y => decide (x < y)) 4 1],
  [oLoadI 3, oLoadI 1, tCmp (fun x y => decide (y < x)) 4 2],
  [oLoadI 2, oLoadI 3, tCmp (fun x y => decide (y < x)) 4 3],
  [oLoadI 1, oS (gPush (.int 6)), tCmp (fun x y => decide (x ≤ y)) 5 4],
  [oS (gPush (.int 0)), tIret],
  [oLoadI 2, oStoreI 4, oLoadI 2, oS (gPush (.int 1)), oBin (fun x y => x + y), oStoreI 5, tGo 6],
  [oLoadI 5, oLoadI 3, tCmp (fun x y => decide (y < x)) 10 7],
  [oLoadI 0, oLoadI 1, oLoadI 5, oCall cl 19 3, oLoadI 0, oLoadI 1, oLoadI 4, oCall cl 19 3, tCmp (fun x y => decide (x ≤ y)) 9 8],
  [oLoadI 5, oStoreI 4, tGo 9],
  [oIinc 5 1, tGo 6],
  [oLoadI 0, oLoadI 1, oLoadI 2, oLoadI 4, oS (gPush (.int 1)), oBin (fun x y => x - y), oCall cl 22 4, oStoreI 5, oLoadI 0, oLoadI 1, oLoadI 4, oS (gPush (.int 1)), oBin (fun x y => x + y), oLoadI 3, oCall cl 22 4, oStoreI 6, oLoadI 5, oLoadI 4, oLoadI 2, oBin (fun x y => x - y), oLoadI 6, oLoadI 3, oLoadI 4, oBin (fun x y => x - y), oCall cl 34 4, tIret]]
set_option maxRecDepth 100000 in
set_option maxHeartbeats 4000000 in
theorem mok_X2_shape {E : kE} {σ : List Nat} {l : Launch} {tb : List (List Int32)} (hE : kcl E = kCl) (hn : kn E = 20) (htb : ktb E = tb) : kMOK E (kXX (kb E) σ) σ kZs l kY kWS yX2_shape (kws yX2_shape cX2_shape 7 (some .int)) cX2_shape 7 (some .int) (fun cl => bl_X2_shape tb cl) := by
  intro d cl hS p e R s m args below meth c α0 nc0 ns0 res C hf hlo hr hnm hout
  have hXX : kXX (kb E) σ s := C.2.2.2.2.2.2.1.2.2.2.2
  refine ⟨fun b => [0, 5, 10, 15, 21, 23, 31, 37, 54, 58, 64].getD b 0, rfl, kAllB_get (bl := bl_X2_shape tb cl) ⟨?_, ?_, ?_, ?_, ?_, ?_, ?_, ?_, ?_, ?_, ?_, trivial⟩⟩
  · exact (ch_cons (pc := 0) (pc' := 1) (ok_iloadn C dX2_shape_0 rfl) <| ch_cons (pc := 1) (pc' := 2) (ok_iconst C dX2_shape_1 (by decide)) <| ch_last (pc := 2) (ok_icmp_lt (tgt := 21) C dX2_shape_2 (by decide) rfl rfl))
  · exact (ch_cons (pc := 5) (pc' := 6) (ok_iloadn C dX2_shape_5 rfl) <| ch_cons (pc := 6) (pc' := 7) (ok_iloadn C dX2_shape_6 rfl) <| ch_last (pc := 7) (ok_icmp_gt (tgt := 21) C dX2_shape_7 (by decide) rfl rfl))
  · exact (ch_cons (pc := 10) (pc' := 11) (ok_iloadn C dX2_shape_10 rfl) <| ch_cons (pc := 11) (pc' := 12) (ok_iloadn C dX2_shape_11 rfl) <| ch_last (pc := 12) (ok_icmp_gt (tgt := 21) C dX2_shape_12 (by decide) rfl rfl))
  · exact (ch_cons (pc := 15) (pc' := 16) (ok_iloadn C dX2_shape_15 rfl) <| ch_cons (pc := 16) (pc' := 18) (ok_bipush C dX2_shape_16 (by decide)) <| ch_last (pc := 18) (ok_icmp_le (tgt := 23) C dX2_shape_18 (by decide) rfl rfl))
  · exact (ch_cons (pc := 21) (pc' := 22) (ok_iconst C dX2_shape_21 (by decide)) <| ch_last (pc := 22) (ok_ireturn C hr dX2_shape_22))
  · exact (ch_cons (pc := 23) (pc' := 24) (ok_iloadn C dX2_shape_23 rfl) <| ch_cons (pc := 24) (pc' := 26) (ok_istore C dX2_shape_24 (by decide)) <| ch_cons (pc := 26) (pc' := 27) (ok_iloadn C dX2_shape_26 rfl) <| ch_cons (pc := 27) (pc' := 28) (ok_iconst C dX2_shape_27 (by decide)) <| ch_cons (pc := 28) (pc' := 29) (ok_iadd C dX2_shape_28) <| ch_cons (pc := 29) (pc' := 31) (ok_istore C dX2_shape_29 (by decide)) <| ch_last (pc := 31) (ok_fall rfl))
  · exact (ch_cons (pc := 31) (pc' := 33) (ok_iload C dX2_shape_31) <| ch_cons (pc := 33) (pc' := 34) (ok_iloadn C dX2_shape_33 rfl) <| ch_last (pc := 34) (ok_icmp_gt (tgt := 64) C dX2_shape_34 (by decide) rfl rfl))
  · exact (ch_cons (pc := 37) (pc' := 38) (ok_iloadn C dX2_shape_37 rfl) <| ch_cons (pc := 38) (pc' := 39) (ok_iloadn C dX2_shape_38 rfl) <| ch_cons (pc := 39) (pc' := 41) (ok_iload C dX2_shape_39) <| ch_cons (pc := 41) (pc' := 44) (ok_callS (d := d) C hout hf hlo (sn_19 hS) rfl (kG_s gw_47 gw_48 gw_49 gw_46) (by decide) (by decide +kernel) dX2_shape_41) <| ch_cons (pc := 44) (pc' := 45) (ok_iloadn C dX2_shape_44 rfl) <| ch_cons (pc := 45) (pc' := 46) (ok_iloadn C dX2_shape_45 rfl) <| ch_cons (pc := 46) (pc' := 48) (ok_iload C dX2_shape_46) <| ch_cons (pc := 48) (pc' := 51) (ok_callS (d := d) C hout hf hlo (sn_19 hS) rfl (kG_s gw_47 gw_48 gw_49 gw_46) (by decide) (by decide +kernel) dX2_shape_48) <| ch_last (pc := 51) (ok_icmp_le (tgt := 58) C dX2_shape_51 (by decide) rfl rfl))
  · exact (ch_cons (pc := 54) (pc' := 56) (ok_iload C dX2_shape_54) <| ch_cons (pc := 56) (pc' := 58) (ok_istore C dX2_shape_56 (by decide)) <| ch_last (pc := 58) (ok_fall rfl))
  · exact (ch_cons (pc := 58) (pc' := 61) (ok_iinc C dX2_shape_58 (by decide) (by decide)) <| ch_last (pc := 61) (ok_goto (tgt := 31) C dX2_shape_61 (by decide) rfl))
  · exact (ch_cons (pc := 64) (pc' := 65) (ok_iloadn C dX2_shape_64 rfl) <| ch_cons (pc := 65) (pc' := 66) (ok_iloadn C dX2_shape_65 rfl) <| ch_cons (pc := 66) (pc' := 67) (ok_iloadn C dX2_shape_66 rfl) <| ch_cons (pc := 67) (pc' := 69) (ok_iload C dX2_shape_67) <| ch_cons (pc := 69) (pc' := 70) (ok_iconst C dX2_shape_69 (by decide)) <| ch_cons (pc := 70) (pc' := 71) (ok_isub C dX2_shape_70) <| ch_cons (pc := 71) (pc' := 74) (ok_callS (d := d) C hout hf hlo (sn_22 hS) rfl (kG_s gw_50 gw_51 gw_52 gw_46) (by decide) (by decide +kernel) dX2_shape_71) <| ch_cons (pc := 74) (pc' := 76) (ok_istore C dX2_shape_74 (by decide)) <| ch_cons (pc := 76) (pc' := 77) (ok_iloadn C dX2_shape_76 rfl) <| ch_cons (pc := 77) (pc' := 78) (ok_iloadn C dX2_shape_77 rfl) <| ch_cons (pc := 78) (pc' := 80) (ok_iload C dX2_shape_78) <| ch_cons (pc := 80) (pc' := 81) (ok_iconst C dX2_shape_80 (by decide)) <| ch_cons (pc := 81) (pc' := 82) (ok_iadd C dX2_shape_81) <| ch_cons (pc := 82) (pc' := 83) (ok_iloadn C dX2_shape_82 rfl) <| ch_cons (pc := 83) (pc' := 86) (ok_callS (d := d) C hout hf hlo (sn_22 hS) rfl (kG_s gw_50 gw_51 gw_52 gw_46) (by decide) (by decide +kernel) dX2_shape_83) <| ch_cons (pc := 86) (pc' := 88) (ok_istore C dX2_shape_86 (by decide)) <| ch_cons (pc := 88) (pc' := 90) (ok_iload C dX2_shape_88) <| ch_cons (pc := 90) (pc' := 92) (ok_iload C dX2_shape_90) <| ch_cons (pc := 92) (pc' := 93) (ok_iloadn C dX2_shape_92 rfl) <| ch_cons (pc := 93) (pc' := 94) (ok_isub C dX2_shape_93) <| ch_cons (pc := 94) (pc' := 96) (ok_iload C dX2_shape_94) <| ch_cons (pc := 96) (pc' := 97) (ok_iloadn C dX2_shape_96 rfl) <| ch_cons (pc := 97) (pc' := 99) (ok_iload C dX2_shape_97) <| ch_cons (pc := 99) (pc' := 100) (ok_isub C dX2_shape_99) <| ch_cons (pc := 100) (pc' := 103) (ok_callS (d := d) C hout hf hlo (sn_34 hS) rfl (kG_s gw_13 gw_53 gw_15 gw_16) (by decide) (by decide +kernel) dX2_shape_100) <| ch_last (pc := 103) (ok_ireturn C hr dX2_shape_103))
/-- Bijectory$Orders.invert(II)I -/
def bl_X2_invert (tb : List (List Int32)) (cl : kCall) : List (List kOp) := [
  [oS (gPush (.int 0)), oStoreI 2, oS (gPush (.int 1)), oStoreI 3, tGo 1],
  [oLoadI 3, oLoadI 1, tCmp (fun x y => decide (y < x)) 3 2],
  [oLoadI 2, oLoadI 3, oGetS 4, oLoadI 1, oLoadI 0, oLoadI 1, oLoadI 3, oCall cl 19 3, oBin (fun x y => x - y), oCall cl 0 2, oBin (fun x y => x * y), oBin (fun x y => x + y), oStoreI 2, oIinc 3 1, tGo 1],
  [oLoadI 2, tIret]]
set_option maxRecDepth 100000 in
set_option maxHeartbeats 4000000 in
theorem mok_X2_invert {E : kE} {σ : List Nat} {l : Launch} {tb : List (List Int32)} (hE : kcl E = kCl) (hn : kn E = 20) (htb : ktb E = tb) : kMOK E (kXX (kb E) σ) σ kZs l kY kWS yX2_invert (kws yX2_invert cX2_invert 4 (some .int)) cX2_invert 4 (some .int) (fun cl => bl_X2_invert tb cl) := by
  intro d cl hS p e R s m args below meth c α0 nc0 ns0 res C hf hlo hr hnm hout
  have hXX : kXX (kb E) σ s := C.2.2.2.2.2.2.1.2.2.2.2
  refine ⟨fun b => [0, 4, 9, 34].getD b 0, rfl, kAllB_get (bl := bl_X2_invert tb cl) ⟨?_, ?_, ?_, ?_, trivial⟩⟩
  · exact (ch_cons (pc := 0) (pc' := 1) (ok_iconst C dX2_invert_0 (by decide)) <| ch_cons (pc := 1) (pc' := 2) (ok_istoren C dX2_invert_1 rfl (by decide)) <| ch_cons (pc := 2) (pc' := 3) (ok_iconst C dX2_invert_2 (by decide)) <| ch_cons (pc := 3) (pc' := 4) (ok_istoren C dX2_invert_3 rfl (by decide)) <| ch_last (pc := 4) (ok_fall rfl))
  · exact (ch_cons (pc := 4) (pc' := 5) (ok_iloadn C dX2_invert_4 rfl) <| ch_cons (pc := 5) (pc' := 6) (ok_iloadn C dX2_invert_5 rfl) <| ch_last (pc := 6) (ok_icmp_gt (tgt := 34) C dX2_invert_6 (by decide) rfl rfl))
  · exact (ch_cons (pc := 9) (pc' := 10) (ok_iloadn C dX2_invert_9 rfl) <| ch_cons (pc := 10) (pc' := 11) (ok_iloadn C dX2_invert_10 rfl) <| ch_cons (pc := 11) (pc' := 14) (ok_getsN C zin_4 (xw_1 hXX) dX2_invert_11) <| ch_cons (pc := 14) (pc' := 15) (ok_iloadn C dX2_invert_14 rfl) <| ch_cons (pc := 15) (pc' := 16) (ok_iloadn C dX2_invert_15 rfl) <| ch_cons (pc := 16) (pc' := 17) (ok_iloadn C dX2_invert_16 rfl) <| ch_cons (pc := 17) (pc' := 18) (ok_iloadn C dX2_invert_17 rfl) <| ch_cons (pc := 18) (pc' := 21) (ok_callS (d := d) C hout hf hlo (sn_19 hS) rfl (kG_s gw_47 gw_48 gw_49 gw_46) (by decide) (by decide +kernel) dX2_invert_18) <| ch_cons (pc := 21) (pc' := 22) (ok_isub C dX2_invert_21) <| ch_cons (pc := 22) (pc' := 25) (ok_callS (d := d) C hout hf hlo (sn_0 hS) rfl (kG_s gw_39 gw_40 gw_41 gw_42) (by decide) (by decide +kernel) dX2_invert_22) <| ch_cons (pc := 25) (pc' := 26) (ok_imul C dX2_invert_25) <| ch_cons (pc := 26) (pc' := 27) (ok_iadd C dX2_invert_26) <| ch_cons (pc := 27) (pc' := 28) (ok_istoren C dX2_invert_27 rfl (by decide)) <| ch_cons (pc := 28) (pc' := 31) (ok_iinc C dX2_invert_28 (by decide) (by decide)) <| ch_last (pc := 31) (ok_goto (tgt := 4) C dX2_invert_31 (by decide) rfl))
  · exact (ch_cons (pc := 34) (pc' := 35) (ok_iloadn C dX2_invert_34 rfl) <| ch_last (pc := 35) (ok_ireturn C hr dX2_invert_35))
/-- Bijectory$Orders.turn(II)I -/
def bl_X2_turn (tb : List (List Int32)) (cl : kCall) : List (List kOp) := [
  [oS (gPush (.int 0)), oStoreI 2, oLoadI 0, oStoreI 3, oLoadI 1, oStoreI 4, tGo 1],
  [oLoadI 4, oS (gPush (.int 1)), tCmp (fun x y => decide (x < y)) 3 2],
  [oLoadI 2, oS (gPush (.int 10)), oBin (fun x y => x * y), oLoadI 3, oS (gPush (.int 10)), oBin0 (fun x y => x - x / y * y), oBin (fun x y => x + y), oStoreI 2, oLoadI 3, oS (gPush (.int 10)), oBin0 (fun x y => x / y), oStoreI 3, oIinc 4 (-1), tGo 1],
  [oLoadI 2, tIret]]
set_option maxRecDepth 100000 in
set_option maxHeartbeats 4000000 in
theorem mok_X2_turn {E : kE} {σ : List Nat} {l : Launch} {tb : List (List Int32)} (hE : kcl E = kCl) (hn : kn E = 20) (htb : ktb E = tb) : kMOK E (kXX (kb E) σ) σ kZs l kY kWS yX2_turn (kws yX2_turn cX2_turn 5 (some .int)) cX2_turn 5 (some .int) (fun cl => bl_X2_turn tb cl) := by
  intro d cl hS p e R s m args below meth c α0 nc0 ns0 res C hf hlo hr hnm hout
  have hXX : kXX (kb E) σ s := C.2.2.2.2.2.2.1.2.2.2.2
  refine ⟨fun b => [0, 7, 13, 34].getD b 0, rfl, kAllB_get (bl := bl_X2_turn tb cl) ⟨?_, ?_, ?_, ?_, trivial⟩⟩
  · exact (ch_cons (pc := 0) (pc' := 1) (ok_iconst C dX2_turn_0 (by decide)) <| ch_cons (pc := 1) (pc' := 2) (ok_istoren C dX2_turn_1 rfl (by decide)) <| ch_cons (pc := 2) (pc' := 3) (ok_iloadn C dX2_turn_2 rfl) <| ch_cons (pc := 3) (pc' := 4) (ok_istoren C dX2_turn_3 rfl (by decide)) <| ch_cons (pc := 4) (pc' := 5) (ok_iloadn C dX2_turn_4 rfl) <| ch_cons (pc := 5) (pc' := 7) (ok_istore C dX2_turn_5 (by decide)) <| ch_last (pc := 7) (ok_fall rfl))
  · exact (ch_cons (pc := 7) (pc' := 9) (ok_iload C dX2_turn_7) <| ch_cons (pc := 9) (pc' := 10) (ok_iconst C dX2_turn_9 (by decide)) <| ch_last (pc := 10) (ok_icmp_lt (tgt := 34) C dX2_turn_10 (by decide) rfl rfl))
  · exact (ch_cons (pc := 13) (pc' := 14) (ok_iloadn C dX2_turn_13 rfl) <| ch_cons (pc := 14) (pc' := 16) (ok_bipush C dX2_turn_14 (by decide)) <| ch_cons (pc := 16) (pc' := 17) (ok_imul C dX2_turn_16) <| ch_cons (pc := 17) (pc' := 18) (ok_iloadn C dX2_turn_17 rfl) <| ch_cons (pc := 18) (pc' := 20) (ok_bipush C dX2_turn_18 (by decide)) <| ch_cons (pc := 20) (pc' := 21) (ok_irem C dX2_turn_20) <| ch_cons (pc := 21) (pc' := 22) (ok_iadd C dX2_turn_21) <| ch_cons (pc := 22) (pc' := 23) (ok_istoren C dX2_turn_22 rfl (by decide)) <| ch_cons (pc := 23) (pc' := 24) (ok_iloadn C dX2_turn_23 rfl) <| ch_cons (pc := 24) (pc' := 26) (ok_bipush C dX2_turn_24 (by decide)) <| ch_cons (pc := 26) (pc' := 27) (ok_idiv C dX2_turn_26) <| ch_cons (pc := 27) (pc' := 28) (ok_istoren C dX2_turn_27 rfl (by decide)) <| ch_cons (pc := 28) (pc' := 31) (ok_iinc C dX2_turn_28 (by decide) (by decide)) <| ch_last (pc := 31) (ok_goto (tgt := 7) C dX2_turn_31 (by decide) rfl))
  · exact (ch_cons (pc := 34) (pc' := 35) (ok_iloadn C dX2_turn_34 rfl) <| ch_last (pc := 35) (ok_ireturn C hr dX2_turn_35))
/-- Bijectory$Orders.sort(II)I -/
def bl_X2_sort (tb : List (List Int32)) (cl : kCall) : List (List kOp) := [
  [oS (gPush (.int 0)), oStoreI 2, oS (gPush (.int 0)), oStoreI 3, oS (gPush (.int 1)), oStoreI 4, tGo 1],
  [oLoadI 4, oLoadI 1, tCmp (fun x y => decide (y < x)) 7 2],
  [oLoadI 0, oLoadI 1, oLoadI 4, oCall cl 19 3, oStoreI 5, tGo 3],
  [oLoadI 3, tIf (fun x => decide (x ≤ 0)) 6 4],
  [oLoadI 3, oS (gPush (.int 10)), oBin0 (fun x y => x - x / y * y), oLoadI 5, tCmp (fun x y => decide (y ≤ x)) 6 5],
  [oLoadI 2, oS (gPush (.int 10)), oBin (fun x y => x * y), oLoadI 3, oS (gPush (.int 10)), oBin0 (fun x y => x - x / y * y), oBin (fun x y => x + y), oStoreI 2, oLoadI 3, oS (gPush (.int 10)), oBin0 (fun x y => x / y), oStoreI 3, tGo 3],
  [oLoadI 3, oS (gPush (.int 10)), oBin (fun x y => x * y), oLoadI 5, oBin (fun x y => x + y), oStoreI 3, oIinc 4 1, tGo 1],
  [oLoadI 3, tIf (fun x => decide (x ≤ 0)) 9 8],
  [oLoadI 2, oS (gPush (.int 10)), oBin (fun x y => x * y), oLoadI 3, oS (gPush (.int 10)), oBin0 (fun x y => x - x / y * y), oBin (fun x y => x + y), oStoreI 2, oLoadI 3, oS (gPush (.int 10)), oBin0 (fun x y => x / y), oStoreI 3, tGo 7],
  [oLoadI 2, tIret]]
set_option maxRecDepth 100000 in
set_option maxHeartbeats 4000000 in
theorem mok_X2_sort {E : kE} {σ : List Nat} {l : Launch} {tb : List (List Int32)} (hE : kcl E = kCl) (hn : kn E = 20) (htb : ktb E = tb) : kMOK E (kXX (kb E) σ) σ kZs l kY kWS yX2_sort (kws yX2_sort cX2_sort 6 (some .int)) cX2_sort 6 (some .int) (fun cl => bl_X2_sort tb cl) := by
  intro d cl hS p e R s m args below meth c α0 nc0 ns0 res C hf hlo hr hnm hout
  have hXX : kXX (kb E) σ s := C.2.2.2.2.2.2.1.2.2.2.2
  refine ⟨fun b => [0, 7, 13, 22, 26, 35, 53, 67, 71, 89].getD b 0, rfl, kAllB_get (bl := bl_X2_sort tb cl) ⟨?_, ?_, ?_, ?_, ?_, ?_, ?_, ?_, ?_, ?_, trivial⟩⟩
  · exact (ch_cons (pc := 0) (pc' := 1) (ok_iconst C dX2_sort_0 (by decide)) <| ch_cons (pc := 1) (pc' := 2) (ok_istoren C dX2_sort_1 rfl (by decide)) <| ch_cons (pc := 2) (pc' := 3) (ok_iconst C dX2_sort_2 (by decide)) <| ch_cons (pc := 3) (pc' := 4) (ok_istoren C dX2_sort_3 rfl (by decide)) <| ch_cons (pc := 4) (pc' := 5) (ok_iconst C dX2_sort_4 (by decide)) <| ch_cons (pc := 5) (pc' := 7) (ok_istore C dX2_sort_5 (by decide)) <| ch_last (pc := 7) (ok_fall rfl))
  · exact (ch_cons (pc := 7) (pc' := 9) (ok_iload C dX2_sort_7) <| ch_cons (pc := 9) (pc' := 10) (ok_iloadn C dX2_sort_9 rfl) <| ch_last (pc := 10) (ok_icmp_gt (tgt := 67) C dX2_sort_10 (by decide) rfl rfl))
  · exact (ch_cons (pc := 13) (pc' := 14) (ok_iloadn C dX2_sort_13 rfl) <| ch_cons (pc := 14) (pc' := 15) (ok_iloadn C dX2_sort_14 rfl) <| ch_cons (pc := 15) (pc' := 17) (ok_iload C dX2_sort_15) <| ch_cons (pc := 17) (pc' := 20) (ok_callS (d := d) C hout hf hlo (sn_19 hS) rfl (kG_s gw_47 gw_48 gw_49 gw_46) (by decide) (by decide +kernel) dX2_sort_17) <| ch_cons (pc := 20) (pc' := 22) (ok_istore C dX2_sort_20 (by decide)) <| ch_last (pc := 22) (ok_fall rfl))
  · exact (ch_cons (pc := 22) (pc' := 23) (ok_iloadn C dX2_sort_22 rfl) <| ch_last (pc := 23) (ok_if_le (tgt := 53) C dX2_sort_23 (by decide) rfl rfl))
  · exact (ch_cons (pc := 26) (pc' := 27) (ok_iloadn C dX2_sort_26 rfl) <| ch_cons (pc := 27) (pc' := 29) (ok_bipush C dX2_sort_27 (by decide)) <| ch_cons (pc := 29) (pc' := 30) (ok_irem C dX2_sort_29) <| ch_cons (pc := 30) (pc' := 32) (ok_iload C dX2_sort_30) <| ch_last (pc := 32) (ok_icmp_ge (tgt := 53) C dX2_sort_32 (by decide) rfl rfl))
  · exact (ch_cons (pc := 35) (pc' := 36) (ok_iloadn C dX2_sort_35 rfl) <| ch_cons (pc := 36) (pc' := 38) (ok_bipush C dX2_sort_36 (by decide)) <| ch_cons (pc := 38) (pc' := 39) (ok_imul C dX2_sort_38) <| ch_cons (pc := 39) (pc' := 40) (ok_iloadn C dX2_sort_39 rfl) <| ch_cons (pc := 40) (pc' := 42) (ok_bipush C dX2_sort_40 (by decide)) <| ch_cons (pc := 42) (pc' := 43) (ok_irem C dX2_sort_42) <| ch_cons (pc := 43) (pc' := 44) (ok_iadd C dX2_sort_43) <| ch_cons (pc := 44) (pc' := 45) (ok_istoren C dX2_sort_44 rfl (by decide)) <| ch_cons (pc := 45) (pc' := 46) (ok_iloadn C dX2_sort_45 rfl) <| ch_cons (pc := 46) (pc' := 48) (ok_bipush C dX2_sort_46 (by decide)) <| ch_cons (pc := 48) (pc' := 49) (ok_idiv C dX2_sort_48) <| ch_cons (pc := 49) (pc' := 50) (ok_istoren C dX2_sort_49 rfl (by decide)) <| ch_last (pc := 50) (ok_goto (tgt := 22) C dX2_sort_50 (by decide) rfl))
  · exact (ch_cons (pc := 53) (pc' := 54) (ok_iloadn C dX2_sort_53 rfl) <| ch_cons (pc := 54) (pc' := 56) (ok_bipush C dX2_sort_54 (by decide)) <| ch_cons (pc := 56) (pc' := 57) (ok_imul C dX2_sort_56) <| ch_cons (pc := 57) (pc' := 59) (ok_iload C dX2_sort_57) <| ch_cons (pc := 59) (pc' := 60) (ok_iadd C dX2_sort_59) <| ch_cons (pc := 60) (pc' := 61) (ok_istoren C dX2_sort_60 rfl (by decide)) <| ch_cons (pc := 61) (pc' := 64) (ok_iinc C dX2_sort_61 (by decide) (by decide)) <| ch_last (pc := 64) (ok_goto (tgt := 7) C dX2_sort_64 (by decide) rfl))
  · exact (ch_cons (pc := 67) (pc' := 68) (ok_iloadn C dX2_sort_67 rfl) <| ch_last (pc := 68) (ok_if_le (tgt := 89) C dX2_sort_68 (by decide) rfl rfl))
  · exact (ch_cons (pc := 71) (pc' := 72) (ok_iloadn C dX2_sort_71 rfl) <| ch_cons (pc := 72) (pc' := 74) (ok_bipush C dX2_sort_72 (by decide)) <| ch_cons (pc := 74) (pc' := 75) (ok_imul C dX2_sort_74) <| ch_cons (pc := 75) (pc' := 76) (ok_iloadn C dX2_sort_75 rfl) <| ch_cons (pc := 76) (pc' := 78) (ok_bipush C dX2_sort_76 (by decide)) <| ch_cons (pc := 78) (pc' := 79) (ok_irem C dX2_sort_78) <| ch_cons (pc := 79) (pc' := 80) (ok_iadd C dX2_sort_79) <| ch_cons (pc := 80) (pc' := 81) (ok_istoren C dX2_sort_80 rfl (by decide)) <| ch_cons (pc := 81) (pc' := 82) (ok_iloadn C dX2_sort_81 rfl) <| ch_cons (pc := 82) (pc' := 84) (ok_bipush C dX2_sort_82 (by decide)) <| ch_cons (pc := 84) (pc' := 85) (ok_idiv C dX2_sort_84) <| ch_cons (pc := 85) (pc' := 86) (ok_istoren C dX2_sort_85 rfl (by decide)) <| ch_last (pc := 86) (ok_goto (tgt := 67) C dX2_sort_86 (by decide) rfl))
  · exact (ch_cons (pc := 89) (pc' := 90) (ok_iloadn C dX2_sort_89 rfl) <| ch_last (pc := 90) (ok_ireturn C hr dX2_sort_90))
/-- Bijectory$Orders.valueOf(III)I -/
def bl_X2_valueOf (tb : List (List Int32)) (cl : kCall) : List (List kOp) := [
  [oLoadI 0, tTab 0 [1, 2, 3] 4],
  [oLoadI 1, oLoadI 2, oCall cl 27 2, tIret],
  [oLoadI 1, oLoadI 2, oCall cl 28 2, tIret],
  [oLoadI 1, oLoadI 2, oCall cl 29 2, tIret],
  [oLoadI 1, oLoadI 2, oCall cl 30 2, tIret]]
set_option maxRecDepth 100000 in
set_option maxHeartbeats 4000000 in
theorem mok_X2_valueOf {E : kE} {σ : List Nat} {l : Launch} {tb : List (List Int32)} (hE : kcl E = kCl) (hn : kn E = 20) (htb : ktb E = tb) : kMOK E (kXX (kb E) σ) σ kZs l kY kWS yX2_valueOf (kws yX2_valueOf cX2_valueOf 3 (some .int)) cX2_valueOf 3 (some .int) (fun cl => bl_X2_valueOf tb cl) := by
  intro d cl hS p e R s m args below meth c α0 nc0 ns0 res C hf hlo hr hnm hout
  have hXX : kXX (kb E) σ s := C.2.2.2.2.2.2.1.2.2.2.2
  refine ⟨fun b => [0, 28, 34, 40, 46].getD b 0, rfl, kAllB_get (bl := bl_X2_valueOf tb cl) ⟨?_, ?_, ?_, ?_, ?_, trivial⟩⟩
  · exact (ch_cons (pc := 0) (pc' := 1) (ok_iloadn C dX2_valueOf_0 rfl) <| ch_last (pc := 1) (ok_table (td := 46) C dX2_valueOf_1 (by decide) (by decide) (by decide) rfl))
  · exact (ch_cons (pc := 28) (pc' := 29) (ok_iloadn C dX2_valueOf_28 rfl) <| ch_cons (pc := 29) (pc' := 30) (ok_iloadn C dX2_valueOf_29 rfl) <| ch_cons (pc := 30) (pc' := 33) (ok_callS (d := d) C hout hf hlo (sn_27 hS) rfl (kG_s gw_54 gw_55 gw_56 gw_46) (by decide) (by decide +kernel) dX2_valueOf_30) <| ch_last (pc := 33) (ok_ireturn C hr dX2_valueOf_33))
  · exact (ch_cons (pc := 34) (pc' := 35) (ok_iloadn C dX2_valueOf_34 rfl) <| ch_cons (pc := 35) (pc' := 36) (ok_iloadn C dX2_valueOf_35 rfl) <| ch_cons (pc := 36) (pc' := 39) (ok_callS (d := d) C hout hf hlo (sn_28 hS) rfl (kG_s gw_57 gw_58 gw_59 gw_46) (by decide) (by decide +kernel) dX2_valueOf_36) <| ch_last (pc := 39) (ok_ireturn C hr dX2_valueOf_39))
  · exact (ch_cons (pc := 40) (pc' := 41) (ok_iloadn C dX2_valueOf_40 rfl) <| ch_cons (pc := 41) (pc' := 42) (ok_iloadn C dX2_valueOf_41 rfl) <| ch_cons (pc := 42) (pc' := 45) (ok_callS (d := d) C hout hf hlo (sn_29 hS) rfl (kG_s gw_60 gw_61 gw_62 gw_46) (by decide) (by decide +kernel) dX2_valueOf_42) <| ch_last (pc := 45) (ok_ireturn C hr dX2_valueOf_45))
  · exact (ch_cons (pc := 46) (pc' := 47) (ok_iloadn C dX2_valueOf_46 rfl) <| ch_cons (pc := 47) (pc' := 48) (ok_iloadn C dX2_valueOf_47 rfl) <| ch_cons (pc := 48) (pc' := 51) (ok_callS (d := d) C hout hf hlo (sn_30 hS) rfl (kG_s gw_63 gw_64 gw_65 gw_46) (by decide) (by decide +kernel) dX2_valueOf_48) <| ch_last (pc := 51) (ok_ireturn C hr dX2_valueOf_51))
