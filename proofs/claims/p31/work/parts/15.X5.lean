/-- Bijectory$Rows.at([II)I -/
def bl_X5_at (tb : List (List Int32)) (cl : kCall) : List (List kOp) := [
  [oLoadR 0, tNull 4 1],
  [oLoadI 1, tIf (fun x => decide (x < 0)) 4 2],
  [oLoadI 1, oLoadR 0, oAlen tb, tCmp (fun x y => decide (y ≤ x)) 4 3],
  [oLoadR 0, oLoadI 1, oIald tb, tGo 5],
  [oS (gPush (.int 0)), tGo 5],
  [tIret]]
set_option maxRecDepth 100000 in
set_option maxHeartbeats 4000000 in
theorem mok_X5_at {E : kE} {σ : List Nat} {l : Launch} {tb : List (List Int32)} (hE : kcl E = kCl) (hn : kn E = 6) (htb : ktb E = tb) : kMOK E (kXX (kb E)) σ kZs l kY kWS yX5_at (kws yX5_at cX5_at 2 (some .int)) cX5_at 2 (some .int) (fun cl => bl_X5_at tb cl) := by
  intro d cl hS p e R s m args below meth c α0 nc0 ns0 res C hf hlo hr hnm hout
  have hXX : kXX (kb E) s := C.2.2.2.2.2.2.1.2.2.2.2
  refine ⟨fun b => [0, 4, 8, 14, 20, 21].getD b 0, rfl, kAllB_get (bl := bl_X5_at tb cl) ⟨?_, ?_, ?_, ?_, ?_, ?_, trivial⟩⟩
  · exact (ch_cons (pc := 0) (pc' := 1) (ok_aloadRn C dX5_at_0 rfl) <| ch_last (pc := 1) (ok_ifnull (tgt := 20) C dX5_at_1 (by decide) rfl rfl))
  · exact (ch_cons (pc := 4) (pc' := 5) (ok_iloadn C dX5_at_4 rfl) <| ch_last (pc := 5) (ok_if_lt (tgt := 20) C dX5_at_5 (by decide) rfl rfl))
  · exact (ch_cons (pc := 8) (pc' := 9) (ok_iloadn C dX5_at_8 rfl) <| ch_cons (pc := 9) (pc' := 10) (ok_aloadRn C dX5_at_9 rfl) <| ch_cons (pc := 10) (pc' := 11) (ok_alen C htb dX5_at_10) <| ch_last (pc := 11) (ok_icmp_ge (tgt := 20) C dX5_at_11 (by decide) rfl rfl))
  · exact (ch_cons (pc := 14) (pc' := 15) (ok_aloadRn C dX5_at_14 rfl) <| ch_cons (pc := 15) (pc' := 16) (ok_iloadn C dX5_at_15 rfl) <| ch_cons (pc := 16) (pc' := 17) (ok_iaload C htb dX5_at_16) <| ch_last (pc := 17) (ok_goto (tgt := 21) C dX5_at_17 (by decide) rfl))
  · exact (ch_cons (pc := 20) (pc' := 21) (ok_iconst C dX5_at_20 (by decide)) <| ch_last (pc := 21) (ok_fall rfl))
  · exact (ch_last (pc := 21) (ok_ireturn C hr dX5_at_21))
/-- Bijectory$Rows.at([[III)I -/
def bl_X5_at_ (tb : List (List Int32)) (cl : kCall) : List (List kOp) := [
  [oLoadR 0, tNull 4 1],
  [oLoadI 1, tIf (fun x => decide (x < 0)) 4 2],
  [oLoadI 1, oLoadR 0, oAlen tb, tCmp (fun x y => decide (y ≤ x)) 4 3],
  [oLoadR 0, oLoadI 1, oAald 6, tGo 5],
  [oS (gPush .null), tGo 5],
  [oStoreR 3, oLoadR 3, tNull 9 6],
  [oLoadI 2, tIf (fun x => decide (x < 0)) 9 7],
  [oLoadI 2, oLoadR 3, oAlen tb, tCmp (fun x y => decide (y ≤ x)) 9 8],
  [oLoadR 3, oLoadI 2, oIald tb, tGo 10],
  [oS (gPush (.int 0)), tGo 10],
  [tIret]]
set_option maxRecDepth 100000 in
set_option maxHeartbeats 4000000 in
theorem mok_X5_at_ {E : kE} {σ : List Nat} {l : Launch} {tb : List (List Int32)} (hE : kcl E = kCl) (hn : kn E = 6) (htb : ktb E = tb) : kMOK E (kXX (kb E)) σ kZs l kY kWS yX5_at_ (kws yX5_at_ cX5_at_ 4 (some .int)) cX5_at_ 4 (some .int) (fun cl => bl_X5_at_ tb cl) := by
  intro d cl hS p e R s m args below meth c α0 nc0 ns0 res C hf hlo hr hnm hout
  have hXX : kXX (kb E) s := C.2.2.2.2.2.2.1.2.2.2.2
  refine ⟨fun b => [0, 4, 8, 14, 20, 21, 26, 30, 36, 42, 43].getD b 0, rfl, kAllB_get (bl := bl_X5_at_ tb cl) ⟨?_, ?_, ?_, ?_, ?_, ?_, ?_, ?_, ?_, ?_, ?_, trivial⟩⟩
  · exact (ch_cons (pc := 0) (pc' := 1) (ok_aloadRn C dX5_at__0 rfl) <| ch_last (pc := 1) (ok_ifnull (tgt := 20) C dX5_at__1 (by decide) rfl rfl))
  · exact (ch_cons (pc := 4) (pc' := 5) (ok_iloadn C dX5_at__4 rfl) <| ch_last (pc := 5) (ok_if_lt (tgt := 20) C dX5_at__5 (by decide) rfl rfl))
  · exact (ch_cons (pc := 8) (pc' := 9) (ok_iloadn C dX5_at__8 rfl) <| ch_cons (pc := 9) (pc' := 10) (ok_aloadRn C dX5_at__9 rfl) <| ch_cons (pc := 10) (pc' := 11) (ok_alen C htb dX5_at__10) <| ch_last (pc := 11) (ok_icmp_ge (tgt := 20) C dX5_at__11 (by decide) rfl rfl))
  · exact (ch_cons (pc := 14) (pc' := 15) (ok_aloadRn C dX5_at__14 rfl) <| ch_cons (pc := 15) (pc' := 16) (ok_iloadn C dX5_at__15 rfl) <| ch_cons (pc := 16) (pc' := 17) (ok_aaload C hn dX5_at__16) <| ch_last (pc := 17) (ok_goto (tgt := 21) C dX5_at__17 (by decide) rfl))
  · exact (ch_cons (pc := 20) (pc' := 21) (ok_null C dX5_at__20) <| ch_last (pc := 21) (ok_fall rfl))
  · exact (ch_cons (pc := 21) (pc' := 22) (ok_astoreRn C dX5_at__21 rfl (by decide)) <| ch_cons (pc := 22) (pc' := 23) (ok_aloadRn C dX5_at__22 rfl) <| ch_last (pc := 23) (ok_ifnull (tgt := 42) C dX5_at__23 (by decide) rfl rfl))
  · exact (ch_cons (pc := 26) (pc' := 27) (ok_iloadn C dX5_at__26 rfl) <| ch_last (pc := 27) (ok_if_lt (tgt := 42) C dX5_at__27 (by decide) rfl rfl))
  · exact (ch_cons (pc := 30) (pc' := 31) (ok_iloadn C dX5_at__30 rfl) <| ch_cons (pc := 31) (pc' := 32) (ok_aloadRn C dX5_at__31 rfl) <| ch_cons (pc := 32) (pc' := 33) (ok_alen C htb dX5_at__32) <| ch_last (pc := 33) (ok_icmp_ge (tgt := 42) C dX5_at__33 (by decide) rfl rfl))
  · exact (ch_cons (pc := 36) (pc' := 37) (ok_aloadRn C dX5_at__36 rfl) <| ch_cons (pc := 37) (pc' := 38) (ok_iloadn C dX5_at__37 rfl) <| ch_cons (pc := 38) (pc' := 39) (ok_iaload C htb dX5_at__38) <| ch_last (pc := 39) (ok_goto (tgt := 43) C dX5_at__39 (by decide) rfl))
  · exact (ch_cons (pc := 42) (pc' := 43) (ok_iconst C dX5_at__42 (by decide)) <| ch_last (pc := 43) (ok_fall rfl))
  · exact (ch_last (pc := 43) (ok_ireturn C hr dX5_at__43))
/-- Bijectory$Rows.put([III)V -/
def bl_X5_put (tb : List (List Int32)) (cl : kCall) : List (List kOp) := [
  [oLoadR 0, tNull 4 1],
  [oLoadI 1, tIf (fun x => decide (x < 0)) 4 2],
  [oLoadI 1, oLoadR 0, oAlen tb, tCmp (fun x y => decide (y ≤ x)) 4 3],
  [oLoadR 0, oLoadI 1, oLoadI 2, oIast 6, tGo 4],
  [tVret]]
set_option maxRecDepth 100000 in
set_option maxHeartbeats 4000000 in
theorem mok_X5_put {E : kE} {σ : List Nat} {l : Launch} {tb : List (List Int32)} (hE : kcl E = kCl) (hn : kn E = 6) (htb : ktb E = tb) : kMOK E (kXX (kb E)) σ kZs l kY kWS yX5_put (kws yX5_put cX5_put 3 none) cX5_put 3 none (fun cl => bl_X5_put tb cl) := by
  intro d cl hS p e R s m args below meth c α0 nc0 ns0 res C hf hlo hr hnm hout
  have hXX : kXX (kb E) s := C.2.2.2.2.2.2.1.2.2.2.2
  refine ⟨fun b => [0, 4, 8, 14, 18].getD b 0, rfl, kAllB_get (bl := bl_X5_put tb cl) ⟨?_, ?_, ?_, ?_, ?_, trivial⟩⟩
  · exact (ch_cons (pc := 0) (pc' := 1) (ok_aloadRn C dX5_put_0 rfl) <| ch_last (pc := 1) (ok_ifnull (tgt := 18) C dX5_put_1 (by decide) rfl rfl))
  · exact (ch_cons (pc := 4) (pc' := 5) (ok_iloadn C dX5_put_4 rfl) <| ch_last (pc := 5) (ok_if_lt (tgt := 18) C dX5_put_5 (by decide) rfl rfl))
  · exact (ch_cons (pc := 8) (pc' := 9) (ok_iloadn C dX5_put_8 rfl) <| ch_cons (pc := 9) (pc' := 10) (ok_aloadRn C dX5_put_9 rfl) <| ch_cons (pc := 10) (pc' := 11) (ok_alen C htb dX5_put_10) <| ch_last (pc := 11) (ok_icmp_ge (tgt := 18) C dX5_put_11 (by decide) rfl rfl))
  · exact (ch_cons (pc := 14) (pc' := 15) (ok_aloadRn C dX5_put_14 rfl) <| ch_cons (pc := 15) (pc' := 16) (ok_iloadn C dX5_put_15 rfl) <| ch_cons (pc := 16) (pc' := 17) (ok_iloadn C dX5_put_16 rfl) <| ch_cons (pc := 17) (pc' := 18) (ok_iastore C hn dX5_put_17) <| ch_last (pc := 18) (ok_fall rfl))
  · exact (ch_last (pc := 18) (ok_return C hr dX5_put_18))
/-- Bijectory$Rows.put([[IIII)V -/
def bl_X5_put_ (tb : List (List Int32)) (cl : kCall) : List (List kOp) := [
  [oLoadR 0, tNull 4 1],
  [oLoadI 1, tIf (fun x => decide (x < 0)) 4 2],
  [oLoadI 1, oLoadR 0, oAlen tb, tCmp (fun x y => decide (y ≤ x)) 4 3],
  [oLoadR 0, oLoadI 1, oAald 6, tGo 5],
  [oS (gPush .null), tGo 5],
  [oStoreR 4, oLoadR 4, tNull 9 6],
  [oLoadI 2, tIf (fun x => decide (x < 0)) 9 7],
  [oLoadI 2, oLoadR 4, oAlen tb, tCmp (fun x y => decide (y ≤ x)) 9 8],
  [oLoadR 4, oLoadI 2, oLoadI 3, oIast 6, tGo 9],
  [tVret]]
set_option maxRecDepth 100000 in
set_option maxHeartbeats 4000000 in
theorem mok_X5_put_ {E : kE} {σ : List Nat} {l : Launch} {tb : List (List Int32)} (hE : kcl E = kCl) (hn : kn E = 6) (htb : ktb E = tb) : kMOK E (kXX (kb E)) σ kZs l kY kWS yX5_put_ (kws yX5_put_ cX5_put_ 5 none) cX5_put_ 5 none (fun cl => bl_X5_put_ tb cl) := by
  intro d cl hS p e R s m args below meth c α0 nc0 ns0 res C hf hlo hr hnm hout
  have hXX : kXX (kb E) s := C.2.2.2.2.2.2.1.2.2.2.2
  refine ⟨fun b => [0, 4, 8, 14, 20, 21, 28, 32, 39, 44].getD b 0, rfl, kAllB_get (bl := bl_X5_put_ tb cl) ⟨?_, ?_, ?_, ?_, ?_, ?_, ?_, ?_, ?_, ?_, trivial⟩⟩
  · exact (ch_cons (pc := 0) (pc' := 1) (ok_aloadRn C dX5_put__0 rfl) <| ch_last (pc := 1) (ok_ifnull (tgt := 20) C dX5_put__1 (by decide) rfl rfl))
  · exact (ch_cons (pc := 4) (pc' := 5) (ok_iloadn C dX5_put__4 rfl) <| ch_last (pc := 5) (ok_if_lt (tgt := 20) C dX5_put__5 (by decide) rfl rfl))
  · exact (ch_cons (pc := 8) (pc' := 9) (ok_iloadn C dX5_put__8 rfl) <| ch_cons (pc := 9) (pc' := 10) (ok_aloadRn C dX5_put__9 rfl) <| ch_cons (pc := 10) (pc' := 11) (ok_alen C htb dX5_put__10) <| ch_last (pc := 11) (ok_icmp_ge (tgt := 20) C dX5_put__11 (by decide) rfl rfl))
  · exact (ch_cons (pc := 14) (pc' := 15) (ok_aloadRn C dX5_put__14 rfl) <| ch_cons (pc := 15) (pc' := 16) (ok_iloadn C dX5_put__15 rfl) <| ch_cons (pc := 16) (pc' := 17) (ok_aaload C hn dX5_put__16) <| ch_last (pc := 17) (ok_goto (tgt := 21) C dX5_put__17 (by decide) rfl))
  · exact (ch_cons (pc := 20) (pc' := 21) (ok_null C dX5_put__20) <| ch_last (pc := 21) (ok_fall rfl))
  · exact (ch_cons (pc := 21) (pc' := 23) (ok_astoreR C dX5_put__21 (by decide)) <| ch_cons (pc := 23) (pc' := 25) (ok_aloadR C dX5_put__23) <| ch_last (pc := 25) (ok_ifnull (tgt := 44) C dX5_put__25 (by decide) rfl rfl))
  · exact (ch_cons (pc := 28) (pc' := 29) (ok_iloadn C dX5_put__28 rfl) <| ch_last (pc := 29) (ok_if_lt (tgt := 44) C dX5_put__29 (by decide) rfl rfl))
  · exact (ch_cons (pc := 32) (pc' := 33) (ok_iloadn C dX5_put__32 rfl) <| ch_cons (pc := 33) (pc' := 35) (ok_aloadR C dX5_put__33) <| ch_cons (pc := 35) (pc' := 36) (ok_alen C htb dX5_put__35) <| ch_last (pc := 36) (ok_icmp_ge (tgt := 44) C dX5_put__36 (by decide) rfl rfl))
  · exact (ch_cons (pc := 39) (pc' := 41) (ok_aloadR C dX5_put__39) <| ch_cons (pc := 41) (pc' := 42) (ok_iloadn C dX5_put__41 rfl) <| ch_cons (pc := 42) (pc' := 43) (ok_iloadn C dX5_put__42 rfl) <| ch_cons (pc := 43) (pc' := 44) (ok_iastore C hn dX5_put__43) <| ch_last (pc := 44) (ok_fall rfl))
  · exact (ch_last (pc := 44) (ok_return C hr dX5_put__44))
