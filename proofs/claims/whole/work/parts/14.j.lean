/-- java/lang/Math.max(II)I -/
def bl_J9_max_7cf53 (tb : List (List Int32)) (cl : kCall) : List (List kOp) := [
  [oLoadI 0, oLoadI 1, tCmp (fun x y => decide (x < y)) 2 1],
  [oLoadI 0, tGo 3],
  [oLoadI 1, tGo 3],
  [tIret]]
set_option maxRecDepth 100000 in
set_option maxHeartbeats 4000000 in
theorem mok_J9_max_7cf53 {E : kE} {σ : List Nat} {l : Launch} {tb : List (List Int32)} (hE : kcl E = kCl) (hn : kn E = 8) (htb : ktb E = tb) : kMOK E (kXX (kb E)) σ kZs l kY kWS yJ9_max_7cf53 (kws yJ9_max_7cf53 cJ9_max_7cf53 2 (some .int)) cJ9_max_7cf53 2 (some .int) (fun cl => bl_J9_max_7cf53 tb cl) := by
  intro d cl hS p e R s m args below meth c α0 nc0 ns0 res C hf hlo hr hnm hout
  have hXX : kXX (kb E) s := C.2.2.2.2.2.2.1.2.2.2.2
  refine ⟨fun b => [0, 5, 9, 10].getD b 0, rfl, kAllB_get (bl := bl_J9_max_7cf53 tb cl) ⟨?_, ?_, ?_, ?_, trivial⟩⟩
  · exact (ch_cons (pc := 0) (pc' := 1) (ok_iloadn C dJ9_max_7cf53_0 rfl) <| ch_cons (pc := 1) (pc' := 2) (ok_iloadn C dJ9_max_7cf53_1 rfl) <| ch_last (pc := 2) (ok_icmp_lt (tgt := 9) C dJ9_max_7cf53_2 (by decide) rfl rfl))
  · exact (ch_cons (pc := 5) (pc' := 6) (ok_iloadn C dJ9_max_7cf53_5 rfl) <| ch_last (pc := 6) (ok_goto (tgt := 10) C dJ9_max_7cf53_6 (by decide) rfl))
  · exact (ch_cons (pc := 9) (pc' := 10) (ok_iloadn C dJ9_max_7cf53_9 rfl) <| ch_last (pc := 10) (ok_fall rfl))
  · exact (ch_last (pc := 10) (ok_ireturn C hr dJ9_max_7cf53_10))
/-- java/lang/Math.min(II)I -/
def bl_J9_min_7cf53 (tb : List (List Int32)) (cl : kCall) : List (List kOp) := [
  [oLoadI 0, oLoadI 1, tCmp (fun x y => decide (y < x)) 2 1],
  [oLoadI 0, tGo 3],
  [oLoadI 1, tGo 3],
  [tIret]]
set_option maxRecDepth 100000 in
set_option maxHeartbeats 4000000 in
theorem mok_J9_min_7cf53 {E : kE} {σ : List Nat} {l : Launch} {tb : List (List Int32)} (hE : kcl E = kCl) (hn : kn E = 8) (htb : ktb E = tb) : kMOK E (kXX (kb E)) σ kZs l kY kWS yJ9_min_7cf53 (kws yJ9_min_7cf53 cJ9_min_7cf53 2 (some .int)) cJ9_min_7cf53 2 (some .int) (fun cl => bl_J9_min_7cf53 tb cl) := by
  intro d cl hS p e R s m args below meth c α0 nc0 ns0 res C hf hlo hr hnm hout
  have hXX : kXX (kb E) s := C.2.2.2.2.2.2.1.2.2.2.2
  refine ⟨fun b => [0, 5, 9, 10].getD b 0, rfl, kAllB_get (bl := bl_J9_min_7cf53 tb cl) ⟨?_, ?_, ?_, ?_, trivial⟩⟩
  · exact (ch_cons (pc := 0) (pc' := 1) (ok_iloadn C dJ9_min_7cf53_0 rfl) <| ch_cons (pc := 1) (pc' := 2) (ok_iloadn C dJ9_min_7cf53_1 rfl) <| ch_last (pc := 2) (ok_icmp_gt (tgt := 9) C dJ9_min_7cf53_2 (by decide) rfl rfl))
  · exact (ch_cons (pc := 5) (pc' := 6) (ok_iloadn C dJ9_min_7cf53_5 rfl) <| ch_last (pc := 6) (ok_goto (tgt := 10) C dJ9_min_7cf53_6 (by decide) rfl))
  · exact (ch_cons (pc := 9) (pc' := 10) (ok_iloadn C dJ9_min_7cf53_9 rfl) <| ch_last (pc := 10) (ok_fall rfl))
  · exact (ch_last (pc := 10) (ok_ireturn C hr dJ9_min_7cf53_10))
/-- java/lang/Integer.bitCount(I)I -/
def bl_J6_bitCount_0f7a4 (tb : List (List Int32)) (cl : kCall) : List (List kOp) := [
  [oLoadI 0, oLoadI 0, oS (gPush (.int 1)), oBin (fun x y => (x.toUInt32 >>> (y.toUInt32 &&& Int32.toUInt32 31)).toInt32), oS (gPush (.int (1431655765))), oBin (fun x y => x &&& y), oBin (fun x y => x - y), oStoreI 0, oLoadI 0, oS (gPush (.int (858993459))), oBin (fun x y => x &&& y), oLoadI 0, oS (gPush (.int 2)), oBin (fun x y => (x.toUInt32 >>> (y.toUInt32 &&& Int32.toUInt32 31)).toInt32), oS (gPush (.int (858993459))), oBin (fun x y => x &&& y), oBin (fun x y => x + y), oStoreI 0, oLoadI 0, oLoadI 0, oS (gPush (.int 4)), oBin (fun x y => (x.toUInt32 >>> (y.toUInt32 &&& Int32.toUInt32 31)).toInt32), oBin (fun x y => x + y), oS (gPush (.int (252645135))), oBin (fun x y => x &&& y), oStoreI 0, oLoadI 0, oLoadI 0, oS (gPush (.int 8)), oBin (fun x y => (x.toUInt32 >>> (y.toUInt32 &&& Int32.toUInt32 31)).toInt32), oBin (fun x y => x + y), oStoreI 0, oLoadI 0, oLoadI 0, oS (gPush (.int 16)), oBin (fun x y => (x.toUInt32 >>> (y.toUInt32 &&& Int32.toUInt32 31)).toInt32), oBin (fun x y => x + y), oStoreI 0, oLoadI 0, oS (gPush (.int 63)), oBin (fun x y => x &&& y), tIret]]
set_option maxRecDepth 100000 in
set_option maxHeartbeats 4000000 in
theorem mok_J6_bitCount_0f7a4 {E : kE} {σ : List Nat} {l : Launch} {tb : List (List Int32)} (hE : kcl E = kCl) (hn : kn E = 8) (htb : ktb E = tb) : kMOK E (kXX (kb E)) σ kZs l kY kWS yJ6_bitCount_0f7a4 (kws yJ6_bitCount_0f7a4 cJ6_bitCount_0f7a4 1 (some .int)) cJ6_bitCount_0f7a4 1 (some .int) (fun cl => bl_J6_bitCount_0f7a4 tb cl) := by
  intro d cl hS p e R s m args below meth c α0 nc0 ns0 res C hf hlo hr hnm hout
  have hXX : kXX (kb E) s := C.2.2.2.2.2.2.1.2.2.2.2
  refine ⟨fun b => [0].getD b 0, rfl, kAllB_get (bl := bl_J6_bitCount_0f7a4 tb cl) ⟨?_, trivial⟩⟩
  · exact (ch_cons (pc := 0) (pc' := 1) (ok_iloadn C dJ6_bitCount_0f7a4_0 rfl) <| ch_cons (pc := 1) (pc' := 2) (ok_iloadn C dJ6_bitCount_0f7a4_1 rfl) <| ch_cons (pc := 2) (pc' := 3) (ok_iconst C dJ6_bitCount_0f7a4_2 (by decide)) <| ch_cons (pc := 3) (pc' := 4) (ok_iushr C dJ6_bitCount_0f7a4_3) <| ch_cons (pc := 4) (pc' := 7) (ok_ldcw C dJ6_bitCount_0f7a4_4 (kG_in gw_96)) <| ch_cons (pc := 7) (pc' := 8) (ok_iand C dJ6_bitCount_0f7a4_7) <| ch_cons (pc := 8) (pc' := 9) (ok_isub C dJ6_bitCount_0f7a4_8) <| ch_cons (pc := 9) (pc' := 10) (ok_istoren C dJ6_bitCount_0f7a4_9 rfl (by decide)) <| ch_cons (pc := 10) (pc' := 11) (ok_iloadn C dJ6_bitCount_0f7a4_10 rfl) <| ch_cons (pc := 11) (pc' := 14) (ok_ldcw C dJ6_bitCount_0f7a4_11 (kG_in gw_97)) <| ch_cons (pc := 14) (pc' := 15) (ok_iand C dJ6_bitCount_0f7a4_14) <| ch_cons (pc := 15) (pc' := 16) (ok_iloadn C dJ6_bitCount_0f7a4_15 rfl) <| ch_cons (pc := 16) (pc' := 17) (ok_iconst C dJ6_bitCount_0f7a4_16 (by decide)) <| ch_cons (pc := 17) (pc' := 18) (ok_iushr C dJ6_bitCount_0f7a4_17) <| ch_cons (pc := 18) (pc' := 21) (ok_ldcw C dJ6_bitCount_0f7a4_18 (kG_in gw_97)) <| ch_cons (pc := 21) (pc' := 22) (ok_iand C dJ6_bitCount_0f7a4_21) <| ch_cons (pc := 22) (pc' := 23) (ok_iadd C dJ6_bitCount_0f7a4_22) <| ch_cons (pc := 23) (pc' := 24) (ok_istoren C dJ6_bitCount_0f7a4_23 rfl (by decide)) <| ch_cons (pc := 24) (pc' := 25) (ok_iloadn C dJ6_bitCount_0f7a4_24 rfl) <| ch_cons (pc := 25) (pc' := 26) (ok_iloadn C dJ6_bitCount_0f7a4_25 rfl) <| ch_cons (pc := 26) (pc' := 27) (ok_iconst C dJ6_bitCount_0f7a4_26 (by decide)) <| ch_cons (pc := 27) (pc' := 28) (ok_iushr C dJ6_bitCount_0f7a4_27) <| ch_cons (pc := 28) (pc' := 29) (ok_iadd C dJ6_bitCount_0f7a4_28) <| ch_cons (pc := 29) (pc' := 32) (ok_ldcw C dJ6_bitCount_0f7a4_29 (kG_in gw_98)) <| ch_cons (pc := 32) (pc' := 33) (ok_iand C dJ6_bitCount_0f7a4_32) <| ch_cons (pc := 33) (pc' := 34) (ok_istoren C dJ6_bitCount_0f7a4_33 rfl (by decide)) <| ch_cons (pc := 34) (pc' := 35) (ok_iloadn C dJ6_bitCount_0f7a4_34 rfl) <| ch_cons (pc := 35) (pc' := 36) (ok_iloadn C dJ6_bitCount_0f7a4_35 rfl) <| ch_cons (pc := 36) (pc' := 38) (ok_bipush C dJ6_bitCount_0f7a4_36 (by decide)) <| ch_cons (pc := 38) (pc' := 39) (ok_iushr C dJ6_bitCount_0f7a4_38) <| ch_cons (pc := 39) (pc' := 40) (ok_iadd C dJ6_bitCount_0f7a4_39) <| ch_cons (pc := 40) (pc' := 41) (ok_istoren C dJ6_bitCount_0f7a4_40 rfl (by decide)) <| ch_cons (pc := 41) (pc' := 42) (ok_iloadn C dJ6_bitCount_0f7a4_41 rfl) <| ch_cons (pc := 42) (pc' := 43) (ok_iloadn C dJ6_bitCount_0f7a4_42 rfl) <| ch_cons (pc := 43) (pc' := 45) (ok_bipush C dJ6_bitCount_0f7a4_43 (by decide)) <| ch_cons (pc := 45) (pc' := 46) (ok_iushr C dJ6_bitCount_0f7a4_45) <| ch_cons (pc := 46) (pc' := 47) (ok_iadd C dJ6_bitCount_0f7a4_46) <| ch_cons (pc := 47) (pc' := 48) (ok_istoren C dJ6_bitCount_0f7a4_47 rfl (by decide)) <| ch_cons (pc := 48) (pc' := 49) (ok_iloadn C dJ6_bitCount_0f7a4_48 rfl) <| ch_cons (pc := 49) (pc' := 51) (ok_bipush C dJ6_bitCount_0f7a4_49 (by decide)) <| ch_cons (pc := 51) (pc' := 52) (ok_iand C dJ6_bitCount_0f7a4_51) <| ch_last (pc := 52) (ok_ireturn C hr dJ6_bitCount_0f7a4_52))
