/-- Bijectory$Orders.drops(II)I -/
def bl_X2_drops (tb : List (List Int32)) (cl : kCall) : List (List kOp) := [
  [oS (gPush (.int 0)), oStoreI 2, oS (gPush (.int 2)), oStoreI 3, tGo 1],
  [oLoadI 3, oLoadI 1, tCmp (fun x y => decide (y < x)) 5 2],
  [oLoadI 0, oLoadI 1, oLoadI 3, oS (gPush (.int 1)), oBin (fun x y => x - y), oCall cl 19 3, oLoadI 0, oLoadI 1, oLoadI 3, oCall cl 19 3, tCmp (fun x y => decide (x ≤ y)) 4 3],
  [oIinc 2 1, tGo 4],
  [oIinc 3 1, tGo 1],
  [oLoadI 2, tIret]]
set_option maxRecDepth 100000 in
set_option maxHeartbeats 4000000 in
theorem mok_X2_drops {E : kE} {σ : List Nat} {l : Launch} {tb : List (List Int32)} (hE : kcl E = kCl) (hn : kn E = 20) (htb : ktb E = tb) : kMOK E (kXX (kb E) σ) σ kZs l kY kWS yX2_drops (kws yX2_drops cX2_drops 4 (some .int)) cX2_drops 4 (some .int) (fun cl => bl_X2_drops tb cl) := by
  intro d cl hS p e R s m args below meth c α0 nc0 ns0 res C hf hlo hr hnm hout
  have hXX : kXX (kb E) σ s := C.2.2.2.2.2.2.1.2.2.2.2
  refine ⟨fun b => [0, 4, 9, 26, 29, 35].getD b 0, rfl, kAllB_get (bl := bl_X2_drops tb cl) ⟨?_, ?_, ?_, ?_, ?_, ?_, trivial⟩⟩
  · exact (ch_cons (pc := 0) (pc' := 1) (ok_iconst C dX2_drops_0 (by decide)) <| ch_cons (pc := 1) (pc' := 2) (ok_istoren C dX2_drops_1 rfl (by decide)) <| ch_cons (pc := 2) (pc' := 3) (ok_iconst C dX2_drops_2 (by decide)) <| ch_cons (pc := 3) (pc' := 4) (ok_istoren C dX2_drops_3 rfl (by decide)) <| ch_last (pc := 4) (ok_fall rfl))
  · exact (ch_cons (pc := 4) (pc' := 5) (ok_iloadn C dX2_drops_4 rfl) <| ch_cons (pc := 5) (pc' := 6) (ok_iloadn C dX2_drops_5 rfl) <| ch_last (pc := 6) (ok_icmp_gt (tgt := 35) C dX2_drops_6 (by decide) rfl rfl))
  · exact (ch_cons (pc := 9) (pc' := 10) (ok_iloadn C dX2_drops_9 rfl) <| ch_cons (pc := 10) (pc' := 11) (ok_iloadn C dX2_drops_10 rfl) <| ch_cons (pc := 11) (pc' := 12) (ok_iloadn C dX2_drops_11 rfl) <| ch_cons (pc := 12) (pc' := 13) (ok_iconst C dX2_drops_12 (by decide)) <| ch_cons (pc := 13) (pc' := 14) (ok_isub C dX2_drops_13) <| ch_cons (pc := 14) (pc' := 17) (ok_callS (d := d) C hout hf hlo (sn_19 hS) rfl (kG_s gw_47 gw_48 gw_49 gw_46) (by decide) (by decide +kernel) dX2_drops_14) <| ch_cons (pc := 17) (pc' := 18) (ok_iloadn C dX2_drops_17 rfl) <| ch_cons (pc := 18) (pc' := 19) (ok_iloadn C dX2_drops_18 rfl) <| ch_cons (pc := 19) (pc' := 20) (ok_iloadn C dX2_drops_19 rfl) <| ch_cons (pc := 20) (pc' := 23) (ok_callS (d := d) C hout hf hlo (sn_19 hS) rfl (kG_s gw_47 gw_48 gw_49 gw_46) (by decide) (by decide +kernel) dX2_drops_20) <| ch_last (pc := 23) (ok_icmp_le (tgt := 29) C dX2_drops_23 (by decide) rfl rfl))
  · exact (ch_cons (pc := 26) (pc' := 29) (ok_iinc C dX2_drops_26 (by decide) (by decide)) <| ch_last (pc := 29) (ok_fall rfl))
  · exact (ch_cons (pc := 29) (pc' := 32) (ok_iinc C dX2_drops_29 (by decide) (by decide)) <| ch_last (pc := 32) (ok_goto (tgt := 4) C dX2_drops_32 (by decide) rfl))
  · exact (ch_cons (pc := 35) (pc' := 36) (ok_iloadn C dX2_drops_35 rfl) <| ch_last (pc := 36) (ok_ireturn C hr dX2_drops_36))
/-- Bijectory$Orders.inversions(II)I -/
def bl_X2_inversions (tb : List (List Int32)) (cl : kCall) : List (List kOp) := [
  [oS (gPush (.int 0)), oStoreI 2, oS (gPush (.int 2)), oStoreI 3, tGo 1],
  [oLoadI 3, oLoadI 1, tCmp (fun x y => decide (y < x)) 8 2],
  [oS (gPush (.int 1)), oStoreI 4, tGo 3],
  [oLoadI 4, oLoadI 3, tCmp (fun x y => decide (y ≤ x)) 7 4],
  [oLoadI 0, oLoadI 1, oLoadI 4, oCall cl 19 3, oLoadI 0, oLoadI 1, oLoadI 3, oCall cl 19 3, tCmp (fun x y => decide (x ≤ y)) 6 5],
  [oIinc 2 1, tGo 6],
  [oIinc 4 1, tGo 3],
  [oIinc 3 1, tGo 1],
  [oLoadI 2, tIret]]
set_option maxRecDepth 100000 in
set_option maxHeartbeats 4000000 in
theorem mok_X2_inversions {E : kE} {σ : List Nat} {l : Launch} {tb : List (List Int32)} (hE : kcl E = kCl) (hn : kn E = 20) (htb : ktb E = tb) : kMOK E (kXX (kb E) σ) σ kZs l kY kWS yX2_inversions (kws yX2_inversions cX2_inversions 5 (some .int)) cX2_inversions 5 (some .int) (fun cl => bl_X2_inversions tb cl) := by
  intro d cl hS p e R s m args below meth c α0 nc0 ns0 res C hf hlo hr hnm hout
  have hXX : kXX (kb E) σ s := C.2.2.2.2.2.2.1.2.2.2.2
  refine ⟨fun b => [0, 4, 9, 12, 18, 34, 37, 43, 49].getD b 0, rfl, kAllB_get (bl := bl_X2_inversions tb cl) ⟨?_, ?_, ?_, ?_, ?_, ?_, ?_, ?_, ?_, trivial⟩⟩
  · exact (ch_cons (pc := 0) (pc' := 1) (ok_iconst C dX2_inversions_0 (by decide)) <| ch_cons (pc := 1) (pc' := 2) (ok_istoren C dX2_inversions_1 rfl (by decide)) <| ch_cons (pc := 2) (pc' := 3) (ok_iconst C dX2_inversions_2 (by decide)) <| ch_cons (pc := 3) (pc' := 4) (ok_istoren C dX2_inversions_3 rfl (by decide)) <| ch_last (pc := 4) (ok_fall rfl))
  · exact (ch_cons (pc := 4) (pc' := 5) (ok_iloadn C dX2_inversions_4 rfl) <| ch_cons (pc := 5) (pc' := 6) (ok_iloadn C dX2_inversions_5 rfl) <| ch_last (pc := 6) (ok_icmp_gt (tgt := 49) C dX2_inversions_6 (by decide) rfl rfl))
  · exact (ch_cons (pc := 9) (pc' := 10) (ok_iconst C dX2_inversions_9 (by decide)) <| ch_cons (pc := 10) (pc' := 12) (ok_istore C dX2_inversions_10 (by decide)) <| ch_last (pc := 12) (ok_fall rfl))
  · exact (ch_cons (pc := 12) (pc' := 14) (ok_iload C dX2_inversions_12) <| ch_cons (pc := 14) (pc' := 15) (ok_iloadn C dX2_inversions_14 rfl) <| ch_last (pc := 15) (ok_icmp_ge (tgt := 43) C dX2_inversions_15 (by decide) rfl rfl))
  · exact (ch_cons (pc := 18) (pc' := 19) (ok_iloadn C dX2_inversions_18 rfl) <| ch_cons (pc := 19) (pc' := 20) (ok_iloadn C dX2_inversions_19 rfl) <| ch_cons (pc := 20) (pc' := 22) (ok_iload C dX2_inversions_20) <| ch_cons (pc := 22) (pc' := 25) (ok_callS (d := d) C hout hf hlo (sn_19 hS) rfl (kG_s gw_47 gw_48 gw_49 gw_46) (by decide) (by decide +kernel) dX2_inversions_22) <| ch_cons (pc := 25) (pc' := 26) (ok_iloadn C dX2_inversions_25 rfl) <| ch_cons (pc := 26) (pc' := 27) (ok_iloadn C dX2_inversions_26 rfl) <| ch_cons (pc := 27) (pc' := 28) (ok_iloadn C dX2_inversions_27 rfl) <| ch_cons (pc := 28) (pc' := 31) (ok_callS (d := d) C hout hf hlo (sn_19 hS) rfl (kG_s gw_47 gw_48 gw_49 gw_46) (by decide) (by decide +kernel) dX2_inversions_28) <| ch_last (pc := 31) (ok_icmp_le (tgt := 37) C dX2_inversions_31 (by decide) rfl rfl))
  · exact (ch_cons (pc := 34) (pc' := 37) (ok_iinc C dX2_inversions_34 (by decide) (by decide)) <| ch_last (pc := 37) (ok_fall rfl))
  · exact (ch_cons (pc := 37) (pc' := 40) (ok_iinc C dX2_inversions_37 (by decide) (by decide)) <| ch_last (pc := 40) (ok_goto (tgt := 12) C dX2_inversions_40 (by decide) rfl))
  · exact (ch_cons (pc := 43) (pc' := 46) (ok_iinc C dX2_inversions_43 (by decide) (by decide)) <| ch_last (pc := 46) (ok_goto (tgt := 4) C dX2_inversions_46 (by decide) rfl))
  · exact (ch_cons (pc := 49) (pc' := 50) (ok_iloadn C dX2_inversions_49 rfl) <| ch_last (pc := 50) (ok_ireturn C hr dX2_inversions_50))
/-- Bijectory$Orders.records(II)I -/
def bl_X2_records (tb : List (List Int32)) (cl : kCall) : List (List kOp) := [
  [oS (gPush (.int 0)), oStoreI 2, oS (gPush (.int 0)), oStoreI 3, oS (gPush (.int 1)), oStoreI 4, tGo 1],
  [oLoadI 4, oLoadI 1, tCmp (fun x y => decide (y < x)) 5 2],
  [oLoadI 0, oLoadI 1, oLoadI 4, oCall cl 19 3, oStoreI 5, oLoadI 5, oLoadI 3, tCmp (fun x y => decide (x ≤ y)) 4 3],
  [oLoadI 5, oStoreI 3, oIinc 2 1, tGo 4],
  [oIinc 4 1, tGo 1],
  [oLoadI 2, tIret]]
set_option maxRecDepth 100000 in
set_option maxHeartbeats 4000000 in
theorem mok_X2_records {E : kE} {σ : List Nat} {l : Launch} {tb : List (List Int32)} (hE : kcl E = kCl) (hn : kn E = 20) (htb : ktb E = tb) : kMOK E (kXX (kb E) σ) σ kZs l kY kWS yX2_records (kws yX2_records cX2_records 6 (some .int)) cX2_records 6 (some .int) (fun cl => bl_X2_records tb cl) := by
  intro d cl hS p e R s m args below meth c α0 nc0 ns0 res C hf hlo hr hnm hout
  have hXX : kXX (kb E) σ s := C.2.2.2.2.2.2.1.2.2.2.2
  refine ⟨fun b => [0, 7, 13, 28, 34, 40].getD b 0, rfl, kAllB_get (bl := bl_X2_records tb cl) ⟨?_, ?_, ?_, ?_, ?_, ?_, trivial⟩⟩
  · exact (ch_cons (pc := 0) (pc' := 1) (ok_iconst C dX2_records_0 (by decide)) <| ch_cons (pc := 1) (pc' := 2) (ok_istoren C dX2_records_1 rfl (by decide)) <| ch_cons (pc := 2) (pc' := 3) (ok_iconst C dX2_records_2 (by decide)) <| ch_cons (pc := 3) (pc' := 4) (ok_istoren C dX2_records_3 rfl (by decide)) <| ch_cons (pc := 4) (pc' := 5) (ok_iconst C dX2_records_4 (by decide)) <| ch_cons (pc := 5) (pc' := 7) (ok_istore C dX2_records_5 (by decide)) <| ch_last (pc := 7) (ok_fall rfl))
  · exact (ch_cons (pc := 7) (pc' := 9) (ok_iload C dX2_records_7) <| ch_cons (pc := 9) (pc' := 10) (ok_iloadn C dX2_records_9 rfl) <| ch_last (pc := 10) (ok_icmp_gt (tgt := 40) C dX2_records_10 (by decide) rfl rfl))
  · exact (ch_cons (pc := 13) (pc' := 14) (ok_iloadn C dX2_records_13 rfl) <| ch_cons (pc := 14) (pc' := 15) (ok_iloadn C dX2_records_14 rfl) <| ch_cons (pc := 15) (pc' := 17) (ok_iload C dX2_records_15) <| ch_cons (pc := 17) (pc' := 20) (ok_callS (d := d) C hout hf hlo (sn_19 hS) rfl (kG_s gw_47 gw_48 gw_49 gw_46) (by decide) (by decide +kernel) dX2_records_17) <| ch_cons (pc := 20) (pc' := 22) (ok_istore C dX2_records_20 (by decide)) <| ch_cons (pc := 22) (pc' := 24) (ok_iload C dX2_records_22) <| ch_cons (pc := 24) (pc' := 25) (ok_iloadn C dX2_records_24 rfl) <| ch_last (pc := 25) (ok_icmp_le (tgt := 34) C dX2_records_25 (by decide) rfl rfl))
  · exact (ch_cons (pc := 28) (pc' := 30) (ok_iload C dX2_records_28) <| ch_cons (pc := 30) (pc' := 31) (ok_istoren C dX2_records_30 rfl (by decide)) <| ch_cons (pc := 31) (pc' := 34) (ok_iinc C dX2_records_31 (by decide) (by decide)) <| ch_last (pc := 34) (ok_fall rfl))
  · exact (ch_cons (pc := 34) (pc' := 37) (ok_iinc C dX2_records_34 (by decide) (by decide)) <| ch_last (pc := 37) (ok_goto (tgt := 7) C dX2_records_37 (by decide) rfl))
  · exact (ch_cons (pc := 40) (pc' := 41) (ok_iloadn C dX2_records_40 rfl) <| ch_last (pc := 41) (ok_ireturn C hr dX2_records_41))
/-- Bijectory$Orders.unmoved(II)I -/
def bl_X2_unmoved (tb : List (List Int32)) (cl : kCall) : List (List kOp) := [
  [oS (gPush (.int 0)), oStoreI 2, oS (gPush (.int 1)), oStoreI 3, tGo 1],
  [oLoadI 3, oLoadI 1, tCmp (fun x y => decide (y < x)) 5 2],
  [oLoadI 0, oLoadI 1, oLoadI 3, oCall cl 19 3, oLoadI 3, tCmp (fun x y => !decide (x = y)) 4 3],
  [oIinc 2 1, tGo 4],
  [oIinc 3 1, tGo 1],
  [oLoadI 2, tIret]]
set_option maxRecDepth 100000 in
set_option maxHeartbeats 4000000 in
theorem mok_X2_unmoved {E : kE} {σ : List Nat} {l : Launch} {tb : List (List Int32)} (hE : kcl E = kCl) (hn : kn E = 20) (htb : ktb E = tb) : kMOK E (kXX (kb E) σ) σ kZs l kY kWS yX2_unmoved (kws yX2_unmoved cX2_unmoved 4 (some .int)) cX2_unmoved 4 (some .int) (fun cl => bl_X2_unmoved tb cl) := by
  intro d cl hS p e R s m args below meth c α0 nc0 ns0 res C hf hlo hr hnm hout
  have hXX : kXX (kb E) σ s := C.2.2.2.2.2.2.1.2.2.2.2
  refine ⟨fun b => [0, 4, 9, 19, 22, 28].getD b 0, rfl, kAllB_get (bl := bl_X2_unmoved tb cl) ⟨?_, ?_, ?_, ?_, ?_, ?_, trivial⟩⟩
  · exact (ch_cons (pc := 0) (pc' := 1) (ok_iconst C dX2_unmoved_0 (by decide)) <| ch_cons (pc := 1) (pc' := 2) (ok_istoren C dX2_unmoved_1 rfl (by decide)) <| ch_cons (pc := 2) (pc' := 3) (ok_iconst C dX2_unmoved_2 (by decide)) <| ch_cons (pc := 3) (pc' := 4) (ok_istoren C dX2_unmoved_3 rfl (by decide)) <| ch_last (pc := 4) (ok_fall rfl))
  · exact (ch_cons (pc := 4) (pc' := 5) (ok_iloadn C dX2_unmoved_4 rfl) <| ch_cons (pc := 5) (pc' := 6) (ok_iloadn C dX2_unmoved_5 rfl) <| ch_last (pc := 6) (ok_icmp_gt (tgt := 28) C dX2_unmoved_6 (by decide) rfl rfl))
  · exact (ch_cons (pc := 9) (pc' := 10) (ok_iloadn C dX2_unmoved_9 rfl) <| ch_cons (pc := 10) (pc' := 11) (ok_iloadn C dX2_unmoved_10 rfl) <| ch_cons (pc := 11) (pc' := 12) (ok_iloadn C dX2_unmoved_11 rfl) <| ch_cons (pc := 12) (pc' := 15) (ok_callS (d := d) C hout hf hlo (sn_19 hS) rfl (kG_s gw_47 gw_48 gw_49 gw_46) (by decide) (by decide +kernel) dX2_unmoved_12) <| ch_cons (pc := 15) (pc' := 16) (ok_iloadn C dX2_unmoved_15 rfl) <| ch_last (pc := 16) (ok_icmp_ne (tgt := 22) C dX2_unmoved_16 (by decide) rfl rfl))
  · exact (ch_cons (pc := 19) (pc' := 22) (ok_iinc C dX2_unmoved_19 (by decide) (by decide)) <| ch_last (pc := 22) (ok_fall rfl))
  · exact (ch_cons (pc := 22) (pc' := 25) (ok_iinc C dX2_unmoved_22 (by decide) (by decide)) <| ch_last (pc := 25) (ok_goto (tgt := 4) C dX2_unmoved_25 (by decide) rfl))
  · exact (ch_cons (pc := 28) (pc' := 29) (ok_iloadn C dX2_unmoved_28 rfl) <| ch_last (pc := 29) (ok_ireturn C hr dX2_unmoved_29))
/-- Bijectory$Orders.timesContained(IIII)I -/
def bl_X2_timesContained (tb : List (List Int32)) (cl : kCall) : List (List kOp) := [
  [oS (gPush (.int 0)), oStoreI 4, oS (gPush (.int 0)), oStoreI 5, tGo 1],
  [oLoadI 5, oS (gPush (.int 1)), oLoadI 1, oBin (fun x y => x <<< (y &&& 31)), tCmp (fun x y => decide (y ≤ x)) 6 2],
  [oLoadI 5, oCall cl 41 1, oLoadI 3, tCmp (fun x y => !decide (x = y)) 5 3],
  [oLoadI 0, oLoadI 1, oLoadI 5, oCall cl 32 3, oLoadI 3, oCall cl 33 2, oLoadI 2, tCmp (fun x y => !decide (x = y)) 5 4],
  [oIinc 4 1, tGo 5],
  [oIinc 5 1, tGo 1],
  [oLoadI 4, tIret]]
set_option maxRecDepth 100000 in
set_option maxHeartbeats 4000000 in
theorem mok_X2_timesContained {E : kE} {σ : List Nat} {l : Launch} {tb : List (List Int32)} (hE : kcl E = kCl) (hn : kn E = 20) (htb : ktb E = tb) : kMOK E (kXX (kb E) σ) σ kZs l kY kWS yX2_timesContained (kws yX2_timesContained cX2_timesContained 6 (some .int)) cX2_timesContained 6 (some .int) (fun cl => bl_X2_timesContained tb cl) := by
  intro d cl hS p e R s m args below meth c α0 nc0 ns0 res C hf hlo hr hnm hout
  have hXX : kXX (kb E) σ s := C.2.2.2.2.2.2.1.2.2.2.2
  refine ⟨fun b => [0, 6, 14, 23, 38, 41, 47].getD b 0, rfl, kAllB_get (bl := bl_X2_timesContained tb cl) ⟨?_, ?_, ?_, ?_, ?_, ?_, ?_, trivial⟩⟩
  · exact (ch_cons (pc := 0) (pc' := 1) (ok_iconst C dX2_timesContained_0 (by decide)) <| ch_cons (pc := 1) (pc' := 3) (ok_istore C dX2_timesContained_1 (by decide)) <| ch_cons (pc := 3) (pc' := 4) (ok_iconst C dX2_timesContained_3 (by decide)) <| ch_cons (pc := 4) (pc' := 6) (ok_istore C dX2_timesContained_4 (by decide)) <| ch_last (pc := 6) (ok_fall rfl))
  · exact (ch_cons (pc := 6) (pc' := 8) (ok_iload C dX2_timesContained_6) <| ch_cons (pc := 8) (pc' := 9) (ok_iconst C dX2_timesContained_8 (by decide)) <| ch_cons (pc := 9) (pc' := 10) (ok_iloadn C dX2_timesContained_9 rfl) <| ch_cons (pc := 10) (pc' := 11) (ok_ishl C dX2_timesContained_10) <| ch_last (pc := 11) (ok_icmp_ge (tgt := 47) C dX2_timesContained_11 (by decide) rfl rfl))
  · exact (ch_cons (pc := 14) (pc' := 16) (ok_iload C dX2_timesContained_14) <| ch_cons (pc := 16) (pc' := 19) (ok_callS (d := d) C hout hf hlo (sn_41 hS) rfl (kG_s gw_66 gw_67 gw_68 gw_69) (by decide) (by decide +kernel) dX2_timesContained_16) <| ch_cons (pc := 19) (pc' := 20) (ok_iloadn C dX2_timesContained_19 rfl) <| ch_last (pc := 20) (ok_icmp_ne (tgt := 41) C dX2_timesContained_20 (by decide) rfl rfl))
  · exact (ch_cons (pc := 23) (pc' := 24) (ok_iloadn C dX2_timesContained_23 rfl) <| ch_cons (pc := 24) (pc' := 25) (ok_iloadn C dX2_timesContained_24 rfl) <| ch_cons (pc := 25) (pc' := 27) (ok_iload C dX2_timesContained_25) <| ch_cons (pc := 27) (pc' := 30) (ok_callS (d := d) C hout hf hlo (sn_32 hS) rfl (kG_s gw_70 gw_71 gw_72 gw_46) (by decide) (by decide +kernel) dX2_timesContained_27) <| ch_cons (pc := 30) (pc' := 31) (ok_iloadn C dX2_timesContained_30 rfl) <| ch_cons (pc := 31) (pc' := 34) (ok_callS (d := d) C hout hf hlo (sn_33 hS) rfl (kG_s gw_73 gw_74 gw_75 gw_46) (by decide) (by decide +kernel) dX2_timesContained_31) <| ch_cons (pc := 34) (pc' := 35) (ok_iloadn C dX2_timesContained_34 rfl) <| ch_last (pc := 35) (ok_icmp_ne (tgt := 41) C dX2_timesContained_35 (by decide) rfl rfl))
  · exact (ch_cons (pc := 38) (pc' := 41) (ok_iinc C dX2_timesContained_38 (by decide) (by decide)) <| ch_last (pc := 41) (ok_fall rfl))
  · exact (ch_cons (pc := 41) (pc' := 44) (ok_iinc C dX2_timesContained_41 (by decide) (by decide)) <| ch_last (pc := 44) (ok_goto (tgt := 6) C dX2_timesContained_44 (by decide) rfl))
  · exact (ch_cons (pc := 47) (pc' := 49) (ok_iload C dX2_timesContained_47) <| ch_last (pc := 49) (ok_ireturn C hr dX2_timesContained_49))
/-- Bijectory$Orders.chosen(III)I -/
def bl_X2_chosen (tb : List (List Int32)) (cl : kCall) : List (List kOp) := [
  [oS (gPush (.int 0)), oStoreI 3, oS (gPush (.int 1)), oStoreI 4, tGo 1],
  [oLoadI 4, oLoadI 1, tCmp (fun x y => decide (y < x)) 5 2],
  [oLoadI 2, oLoadI 4, oS (gPush (.int 1)), oBin (fun x y => x - y), oBin (fun x y => x >>> (y &&& 31)), oS (gPush (.int 1)), oBin (fun x y => x &&& y), oS (gPush (.int 1)), tCmp (fun x y => !decide (x = y)) 4 3],
  [oLoadI 3, oS (gPush (.int 10)), oBin (fun x y => x * y), oLoadI 0, oLoadI 1, oLoadI 4, oCall cl 19 3, oBin (fun x y => x + y), oStoreI 3, tGo 4],
  [oIinc 4 1, tGo 1],
  [oLoadI 3, tIret]]
set_option maxRecDepth 100000 in
set_option maxHeartbeats 4000000 in
theorem mok_X2_chosen {E : kE} {σ : List Nat} {l : Launch} {tb : List (List Int32)} (hE : kcl E = kCl) (hn : kn E = 20) (htb : ktb E = tb) : kMOK E (kXX (kb E) σ) σ kZs l kY kWS yX2_chosen (kws yX2_chosen cX2_chosen 5 (some .int)) cX2_chosen 5 (some .int) (fun cl => bl_X2_chosen tb cl) := by
  intro d cl hS p e R s m args below meth c α0 nc0 ns0 res C hf hlo hr hnm hout
  have hXX : kXX (kb E) σ s := C.2.2.2.2.2.2.1.2.2.2.2
  refine ⟨fun b => [0, 5, 11, 23, 36, 42].getD b 0, rfl, kAllB_get (bl := bl_X2_chosen tb cl) ⟨?_, ?_, ?_, ?_, ?_, ?_, trivial⟩⟩
  · exact (ch_cons (pc := 0) (pc' := 1) (ok_iconst C dX2_chosen_0 (by decide)) <| ch_cons (pc := 1) (pc' := 2) (ok_istoren C dX2_chosen_1 rfl (by decide)) <| ch_cons (pc := 2) (pc' := 3) (ok_iconst C dX2_chosen_2 (by decide)) <| ch_cons (pc := 3) (pc' := 5) (ok_istore C dX2_chosen_3 (by decide)) <| ch_last (pc := 5) (ok_fall rfl))
  · exact (ch_cons (pc := 5) (pc' := 7) (ok_iload C dX2_chosen_5) <| ch_cons (pc := 7) (pc' := 8) (ok_iloadn C dX2_chosen_7 rfl) <| ch_last (pc := 8) (ok_icmp_gt (tgt := 42) C dX2_chosen_8 (by decide) rfl rfl))
  · exact (ch_cons (pc := 11) (pc' := 12) (ok_iloadn C dX2_chosen_11 rfl) <| ch_cons (pc := 12) (pc' := 14) (ok_iload C dX2_chosen_12) <| ch_cons (pc := 14) (pc' := 15) (ok_iconst C dX2_chosen_14 (by decide)) <| ch_cons (pc := 15) (pc' := 16) (ok_isub C dX2_chosen_15) <| ch_cons (pc := 16) (pc' := 17) (ok_ishr C dX2_chosen_16) <| ch_cons (pc := 17) (pc' := 18) (ok_iconst C dX2_chosen_17 (by decide)) <| ch_cons (pc := 18) (pc' := 19) (ok_iand C dX2_chosen_18) <| ch_cons (pc := 19) (pc' := 20) (ok_iconst C dX2_chosen_19 (by decide)) <| ch_last (pc := 20) (ok_icmp_ne (tgt := 36) C dX2_chosen_20 (by decide) rfl rfl))
  · exact (ch_cons (pc := 23) (pc' := 24) (ok_iloadn C dX2_chosen_23 rfl) <| ch_cons (pc := 24) (pc' := 26) (ok_bipush C dX2_chosen_24 (by decide)) <| ch_cons (pc := 26) (pc' := 27) (ok_imul C dX2_chosen_26) <| ch_cons (pc := 27) (pc' := 28) (ok_iloadn C dX2_chosen_27 rfl) <| ch_cons (pc := 28) (pc' := 29) (ok_iloadn C dX2_chosen_28 rfl) <| ch_cons (pc := 29) (pc' := 31) (ok_iload C dX2_chosen_29) <| ch_cons (pc := 31) (pc' := 34) (ok_callS (d := d) C hout hf hlo (sn_19 hS) rfl (kG_s gw_47 gw_48 gw_49 gw_46) (by decide) (by decide +kernel) dX2_chosen_31) <| ch_cons (pc := 34) (pc' := 35) (ok_iadd C dX2_chosen_34) <| ch_cons (pc := 35) (pc' := 36) (ok_istoren C dX2_chosen_35 rfl (by decide)) <| ch_last (pc := 36) (ok_fall rfl))
  · exact (ch_cons (pc := 36) (pc' := 39) (ok_iinc C dX2_chosen_36 (by decide) (by decide)) <| ch_last (pc := 39) (ok_goto (tgt := 5) C dX2_chosen_39 (by decide) rfl))
  · exact (ch_cons (pc := 42) (pc' := 43) (ok_iloadn C dX2_chosen_42 rfl) <| ch_last (pc := 43) (ok_ireturn C hr dX2_chosen_43))
/-- Bijectory$Orders.patternOf(II)I -/
def bl_X2_patternOf (tb : List (List Int32)) (cl : kCall) : List (List kOp) := [
  [oS (gPush (.int 0)), oStoreI 2, oS (gPush (.int 1)), oStoreI 3, tGo 1],
  [oLoadI 3, oLoadI 1, tCmp (fun x y => decide (y < x)) 8 2],
  [oS (gPush (.int 1)), oStoreI 4, oS (gPush (.int 1)), oStoreI 5, tGo 3],
  [oLoadI 5, oLoadI 1, tCmp (fun x y => decide (y < x)) 7 4],
  [oLoadI 0, oLoadI 1, oLoadI 5, oCall cl 19 3, oLoadI 0, oLoadI 1, oLoadI 3, oCall cl 19 3, tCmp (fun x y => decide (y ≤ x)) 6 5],
  [oIinc 4 1, tGo 6],
  [oIinc 5 1, tGo 3],
  [oLoadI 2, oS (gPush (.int 10)), oBin (fun x y => x * y), oLoadI 4, oBin (fun x y => x + y), oStoreI 2, oIinc 3 1, tGo 1],
  [oLoadI 2, tIret]]
set_option maxRecDepth 100000 in
set_option maxHeartbeats 4000000 in
theorem mok_X2_patternOf {E : kE} {σ : List Nat} {l : Launch} {tb : List (List Int32)} (hE : kcl E = kCl) (hn : kn E = 20) (htb : ktb E = tb) : kMOK E (kXX (kb E) σ) σ kZs l kY kWS yX2_patternOf (kws yX2_patternOf cX2_patternOf 6 (some .int)) cX2_patternOf 6 (some .int) (fun cl => bl_X2_patternOf tb cl) := by
  intro d cl hS p e R s m args below meth c α0 nc0 ns0 res C hf hlo hr hnm hout
  have hXX : kXX (kb E) σ s := C.2.2.2.2.2.2.1.2.2.2.2
  refine ⟨fun b => [0, 4, 9, 15, 21, 37, 40, 46, 60].getD b 0, rfl, kAllB_get (bl := bl_X2_patternOf tb cl) ⟨?_, ?_, ?_, ?_, ?_, ?_, ?_, ?_, ?_, trivial⟩⟩
  · exact (ch_cons (pc := 0) (pc' := 1) (ok_iconst C dX2_patternOf_0 (by decide)) <| ch_cons (pc := 1) (pc' := 2) (ok_istoren C dX2_patternOf_1 rfl (by decide)) <| ch_cons (pc := 2) (pc' := 3) (ok_iconst C dX2_patternOf_2 (by decide)) <| ch_cons (pc := 3) (pc' := 4) (ok_istoren C dX2_patternOf_3 rfl (by decide)) <| ch_last (pc := 4) (ok_fall rfl))
  · exact (ch_cons (pc := 4) (pc' := 5) (ok_iloadn C dX2_patternOf_4 rfl) <| ch_cons (pc := 5) (pc' := 6) (ok_iloadn C dX2_patternOf_5 rfl) <| ch_last (pc := 6) (ok_icmp_gt (tgt := 60) C dX2_patternOf_6 (by decide) rfl rfl))
  · exact (ch_cons (pc := 9) (pc' := 10) (ok_iconst C dX2_patternOf_9 (by decide)) <| ch_cons (pc := 10) (pc' := 12) (ok_istore C dX2_patternOf_10 (by decide)) <| ch_cons (pc := 12) (pc' := 13) (ok_iconst C dX2_patternOf_12 (by decide)) <| ch_cons (pc := 13) (pc' := 15) (ok_istore C dX2_patternOf_13 (by decide)) <| ch_last (pc := 15) (ok_fall rfl))
  · exact (ch_cons (pc := 15) (pc' := 17) (ok_iload C dX2_patternOf_15) <| ch_cons (pc := 17) (pc' := 18) (ok_iloadn C dX2_patternOf_17 rfl) <| ch_last (pc := 18) (ok_icmp_gt (tgt := 46) C dX2_patternOf_18 (by decide) rfl rfl))
  · exact (ch_cons (pc := 21) (pc' := 22) (ok_iloadn C dX2_patternOf_21 rfl) <| ch_cons (pc := 22) (pc' := 23) (ok_iloadn C dX2_patternOf_22 rfl) <| ch_cons (pc := 23) (pc' := 25) (ok_iload C dX2_patternOf_23) <| ch_cons (pc := 25) (pc' := 28) (ok_callS (d := d) C hout hf hlo (sn_19 hS) rfl (kG_s gw_47 gw_48 gw_49 gw_46) (by decide) (by decide +kernel) dX2_patternOf_25) <| ch_cons (pc := 28) (pc' := 29) (ok_iloadn C dX2_patternOf_28 rfl) <| ch_cons (pc := 29) (pc' := 30) (ok_iloadn C dX2_patternOf_29 rfl) <| ch_cons (pc := 30) (pc' := 31) (ok_iloadn C dX2_patternOf_30 rfl) <| ch_cons (pc := 31) (pc' := 34) (ok_callS (d := d) C hout hf hlo (sn_19 hS) rfl (kG_s gw_47 gw_48 gw_49 gw_46) (by decide) (by decide +kernel) dX2_patternOf_31) <| ch_last (pc := 34) (ok_icmp_ge (tgt := 40) C dX2_patternOf_34 (by decide) rfl rfl))
  · exact (ch_cons (pc := 37) (pc' := 40) (ok_iinc C dX2_patternOf_37 (by decide) (by decide)) <| ch_last (pc := 40) (ok_fall rfl))
  · exact (ch_cons (pc := 40) (pc' := 43) (ok_iinc C dX2_patternOf_40 (by decide) (by decide)) <| ch_last (pc := 43) (ok_goto (tgt := 15) C dX2_patternOf_43 (by decide) rfl))
  · exact (ch_cons (pc := 46) (pc' := 47) (ok_iloadn C dX2_patternOf_46 rfl) <| ch_cons (pc := 47) (pc' := 49) (ok_bipush C dX2_patternOf_47 (by decide)) <| ch_cons (pc := 49) (pc' := 50) (ok_imul C dX2_patternOf_49) <| ch_cons (pc := 50) (pc' := 52) (ok_iload C dX2_patternOf_50) <| ch_cons (pc := 52) (pc' := 53) (ok_iadd C dX2_patternOf_52) <| ch_cons (pc := 53) (pc' := 54) (ok_istoren C dX2_patternOf_53 rfl (by decide)) <| ch_cons (pc := 54) (pc' := 57) (ok_iinc C dX2_patternOf_54 (by decide) (by decide)) <| ch_last (pc := 57) (ok_goto (tgt := 4) C dX2_patternOf_57 (by decide) rfl))
  · exact (ch_cons (pc := 60) (pc' := 61) (ok_iloadn C dX2_patternOf_60 rfl) <| ch_last (pc := 61) (ok_ireturn C hr dX2_patternOf_61))
/-- Bijectory$Trees.node(IIII)I -/
def bl_X7_node (tb : List (List Int32)) (cl : kCall) : List (List kOp) := [
  [oS (gPush (.int 1)), oS (gPush (.int 2)), oLoadI 1, oBin (fun x y => x * y), oBin (fun x y => x <<< (y &&& 31)), oLoadI 0, oBin (fun x y => x ||| y), oS (gPush (.int 1)), oBin (fun x y => x <<< (y &&& 31)), oS (gPush (.int 2)), oLoadI 3, oBin (fun x y => x * y), oBin (fun x y => x <<< (y &&& 31)), oLoadI 2, oBin (fun x y => x ||| y), tIret]]
set_option maxRecDepth 100000 in
set_option maxHeartbeats 4000000 in
theorem mok_X7_node {E : kE} {σ : List Nat} {l : Launch} {tb : List (List Int32)} (hE : kcl E = kCl) (hn : kn E = 20) (htb : ktb E = tb) : kMOK E (kXX (kb E) σ) σ kZs l kY kWS yX7_node (kws yX7_node cX7_node 4 (some .int)) cX7_node 4 (some .int) (fun cl => bl_X7_node tb cl) := by
  intro d cl hS p e R s m args below meth c α0 nc0 ns0 res C hf hlo hr hnm hout
  have hXX : kXX (kb E) σ s := C.2.2.2.2.2.2.1.2.2.2.2
  refine ⟨fun b => [0].getD b 0, rfl, kAllB_get (bl := bl_X7_node tb cl) ⟨?_, trivial⟩⟩
  · exact (ch_cons (pc := 0) (pc' := 1) (ok_iconst C dX7_node_0 (by decide)) <| ch_cons (pc := 1) (pc' := 2) (ok_iconst C dX7_node_1 (by decide)) <| ch_cons (pc := 2) (pc' := 3) (ok_iloadn C dX7_node_2 rfl) <| ch_cons (pc := 3) (pc' := 4) (ok_imul C dX7_node_3) <| ch_cons (pc := 4) (pc' := 5) (ok_ishl C dX7_node_4) <| ch_cons (pc := 5) (pc' := 6) (ok_iloadn C dX7_node_5 rfl) <| ch_cons (pc := 6) (pc' := 7) (ok_ior C dX7_node_6) <| ch_cons (pc := 7) (pc' := 8) (ok_iconst C dX7_node_7 (by decide)) <| ch_cons (pc := 8) (pc' := 9) (ok_ishl C dX7_node_8) <| ch_cons (pc := 9) (pc' := 10) (ok_iconst C dX7_node_9 (by decide)) <| ch_cons (pc := 10) (pc' := 11) (ok_iloadn C dX7_node_10 rfl) <| ch_cons (pc := 11) (pc' := 12) (ok_imul C dX7_node_11) <| ch_cons (pc := 12) (pc' := 13) (ok_ishl C dX7_node_12) <| ch_cons (pc := 13) (pc' := 14) (ok_iloadn C dX7_node_13 rfl) <| ch_cons (pc := 14) (pc' := 15) (ok_ior C dX7_node_14) <| ch_last (pc := 15) (ok_ireturn C hr dX7_node_15))
/-- Bijectory$Trees.leftOf(III)I -/
def bl_X7_leftOf (tb : List (List Int32)) (cl : kCall) : List (List kOp) := [
  [oLoadI 0, oS (gPush (.int 2)), oLoadI 1, oLoadI 2, oBin (fun x y => x - y), oBin (fun x y => x * y), oS (gPush (.int 1)), oBin (fun x y => x - y), oS (gPush (.int 2)), oLoadI 2, oBin (fun x y => x * y), oCall cl 7 3, tIret]]
set_option maxRecDepth 100000 in
set_option maxHeartbeats 4000000 in
theorem mok_X7_leftOf {E : kE} {σ : List Nat} {l : Launch} {tb : List (List Int32)} (hE : kcl E = kCl) (hn : kn E = 20) (htb : ktb E = tb) : kMOK E (kXX (kb E) σ) σ kZs l kY kWS yX7_leftOf (kws yX7_leftOf cX7_leftOf 3 (some .int)) cX7_leftOf 3 (some .int) (fun cl => bl_X7_leftOf tb cl) := by
  intro d cl hS p e R s m args below meth c α0 nc0 ns0 res C hf hlo hr hnm hout
  have hXX : kXX (kb E) σ s := C.2.2.2.2.2.2.1.2.2.2.2
  refine ⟨fun b => [0].getD b 0, rfl, kAllB_get (bl := bl_X7_leftOf tb cl) ⟨?_, trivial⟩⟩
  · exact (ch_cons (pc := 0) (pc' := 1) (ok_iloadn C dX7_leftOf_0 rfl) <| ch_cons (pc := 1) (pc' := 2) (ok_iconst C dX7_leftOf_1 (by decide)) <| ch_cons (pc := 2) (pc' := 3) (ok_iloadn C dX7_leftOf_2 rfl) <| ch_cons (pc := 3) (pc' := 4) (ok_iloadn C dX7_leftOf_3 rfl) <| ch_cons (pc := 4) (pc' := 5) (ok_isub C dX7_leftOf_4) <| ch_cons (pc := 5) (pc' := 6) (ok_imul C dX7_leftOf_5) <| ch_cons (pc := 6) (pc' := 7) (ok_iconst C dX7_leftOf_6 (by decide)) <| ch_cons (pc := 7) (pc' := 8) (ok_isub C dX7_leftOf_7) <| ch_cons (pc := 8) (pc' := 9) (ok_iconst C dX7_leftOf_8 (by decide)) <| ch_cons (pc := 9) (pc' := 10) (ok_iloadn C dX7_leftOf_9 rfl) <| ch_cons (pc := 10) (pc' := 11) (ok_imul C dX7_leftOf_10) <| ch_cons (pc := 11) (pc' := 14) (ok_callS (d := d) C hout hf hlo (sn_7 hS) rfl (kG_s gw_7 gw_76 gw_9 gw_3) (by decide) (by decide +kernel) dX7_leftOf_11) <| ch_last (pc := 14) (ok_ireturn C hr dX7_leftOf_14))
/-- Bijectory$Trees.rightOf(II)I -/
def bl_X7_rightOf (tb : List (List Int32)) (cl : kCall) : List (List kOp) := [
  [oLoadI 0, oS (gPush (.int 0)), oS (gPush (.int 2)), oLoadI 1, oBin (fun x y => x * y), oCall cl 7 3, tIret]]
set_option maxRecDepth 100000 in
set_option maxHeartbeats 4000000 in
theorem mok_X7_rightOf {E : kE} {σ : List Nat} {l : Launch} {tb : List (List Int32)} (hE : kcl E = kCl) (hn : kn E = 20) (htb : ktb E = tb) : kMOK E (kXX (kb E) σ) σ kZs l kY kWS yX7_rightOf (kws yX7_rightOf cX7_rightOf 2 (some .int)) cX7_rightOf 2 (some .int) (fun cl => bl_X7_rightOf tb cl) := by
  intro d cl hS p e R s m args below meth c α0 nc0 ns0 res C hf hlo hr hnm hout
  have hXX : kXX (kb E) σ s := C.2.2.2.2.2.2.1.2.2.2.2
  refine ⟨fun b => [0].getD b 0, rfl, kAllB_get (bl := bl_X7_rightOf tb cl) ⟨?_, trivial⟩⟩
  · exact (ch_cons (pc := 0) (pc' := 1) (ok_iloadn C dX7_rightOf_0 rfl) <| ch_cons (pc := 1) (pc' := 2) (ok_iconst C dX7_rightOf_1 (by decide)) <| ch_cons (pc := 2) (pc' := 3) (ok_iconst C dX7_rightOf_2 (by decide)) <| ch_cons (pc := 3) (pc' := 4) (ok_iloadn C dX7_rightOf_3 rfl) <| ch_cons (pc := 4) (pc' := 5) (ok_imul C dX7_rightOf_4) <| ch_cons (pc := 5) (pc' := 8) (ok_callS (d := d) C hout hf hlo (sn_7 hS) rfl (kG_s gw_7 gw_76 gw_9 gw_3) (by decide) (by decide +kernel) dX7_rightOf_5) <| ch_last (pc := 8) (ok_ireturn C hr dX7_rightOf_8))
/-- Bijectory$Trees.mirror(II)I -/
def bl_X7_mirror (tb : List (List Int32)) (cl : kCall) : List (List kOp) := [
  [oLoadI 1, oS (gPush (.int 1)), tCmp (fun x y => decide (x < y)) 2 1],
  [oLoadI 1, oS (gPush (.int 6)), tCmp (fun x y => decide (x ≤ y)) 3 2],
  [oS (gPush (.int 0)), tIret],
  [oLoadI 0, oLoadI 1, oCall cl 8 2, oStoreI 2, oLoadI 1, oS (gPush (.int 1)), oBin (fun x y => x - y), oLoadI 2, oBin (fun x y => x - y), oStoreI 3, oLoadI 0, oLoadI 1, oLoadI 2, oCall cl 35 3, oLoadI 2, oCall cl 37 2, oStoreI 4, oLoadI 0, oLoadI 3, oCall cl 36 2, oLoadI 3, oCall cl 37 2, oStoreI 5, oLoadI 5, oLoadI 3, oLoadI 4, oLoadI 2, oCall cl 34 4, tIret]]
set_option maxRecDepth 100000 in
set_option maxHeartbeats 4000000 in
theorem mok_X7_mirror {E : kE} {σ : List Nat} {l : Launch} {tb : List (List Int32)} (hE : kcl E = kCl) (hn : kn E = 20) (htb : ktb E = tb) : kMOK E (kXX (kb E) σ) σ kZs l kY kWS yX7_mirror (kws yX7_mirror cX7_mirror 6 (some .int)) cX7_mirror 6 (some .int) (fun cl => bl_X7_mirror tb cl) := by
  intro d cl hS p e R s m args below meth c α0 nc0 ns0 res C hf hlo hr hnm hout
  have hXX : kXX (kb E) σ s := C.2.2.2.2.2.2.1.2.2.2.2
  refine ⟨fun b => [0, 5, 11, 13].getD b 0, rfl, kAllB_get (bl := bl_X7_mirror tb cl) ⟨?_, ?_, ?_, ?_, trivial⟩⟩
  · exact (ch_cons (pc := 0) (pc' := 1) (ok_iloadn C dX7_mirror_0 rfl) <| ch_cons (pc := 1) (pc' := 2) (ok_iconst C dX7_mirror_1 (by decide)) <| ch_last (pc := 2) (ok_icmp_lt (tgt := 11) C dX7_mirror_2 (by decide) rfl rfl))
  · exact (ch_cons (pc := 5) (pc' := 6) (ok_iloadn C dX7_mirror_5 rfl) <| ch_cons (pc := 6) (pc' := 8) (ok_bipush C dX7_mirror_6 (by decide)) <| ch_last (pc := 8) (ok_icmp_le (tgt := 13) C dX7_mirror_8 (by decide) rfl rfl))
  · exact (ch_cons (pc := 11) (pc' := 12) (ok_iconst C dX7_mirror_11 (by decide)) <| ch_last (pc := 12) (ok_ireturn C hr dX7_mirror_12))
  · exact (ch_cons (pc := 13) (pc' := 14) (ok_iloadn C dX7_mirror_13 rfl) <| ch_cons (pc := 14) (pc' := 15) (ok_iloadn C dX7_mirror_14 rfl) <| ch_cons (pc := 15) (pc' := 18) (ok_callS (d := d) C hout hf hlo (sn_8 hS) rfl (kG_s gw_20 gw_77 gw_22 gw_3) (by decide) (by decide +kernel) dX7_mirror_15) <| ch_cons (pc := 18) (pc' := 19) (ok_istoren C dX7_mirror_18 rfl (by decide)) <| ch_cons (pc := 19) (pc' := 20) (ok_iloadn C dX7_mirror_19 rfl) <| ch_cons (pc := 20) (pc' := 21) (ok_iconst C dX7_mirror_20 (by decide)) <| ch_cons (pc := 21) (pc' := 22) (ok_isub C dX7_mirror_21) <| ch_cons (pc := 22) (pc' := 23) (ok_iloadn C dX7_mirror_22 rfl) <| ch_cons (pc := 23) (pc' := 24) (ok_isub C dX7_mirror_23) <| ch_cons (pc := 24) (pc' := 25) (ok_istoren C dX7_mirror_24 rfl (by decide)) <| ch_cons (pc := 25) (pc' := 26) (ok_iloadn C dX7_mirror_25 rfl) <| ch_cons (pc := 26) (pc' := 27) (ok_iloadn C dX7_mirror_26 rfl) <| ch_cons (pc := 27) (pc' := 28) (ok_iloadn C dX7_mirror_27 rfl) <| ch_cons (pc := 28) (pc' := 31) (ok_callS (d := d) C hout hf hlo (sn_35 hS) rfl (kG_s gw_78 gw_79 gw_80 gw_16) (by decide) (by decide +kernel) dX7_mirror_28) <| ch_cons (pc := 31) (pc' := 32) (ok_iloadn C dX7_mirror_31 rfl) <| ch_cons (pc := 32) (pc' := 35) (ok_callS (d := d) C hout hf hlo (sn_37 hS) rfl (kG_s gw_81 gw_82 gw_83 gw_16) (by decide) (by decide +kernel) dX7_mirror_32) <| ch_cons (pc := 35) (pc' := 37) (ok_istore C dX7_mirror_35 (by decide)) <| ch_cons (pc := 37) (pc' := 38) (ok_iloadn C dX7_mirror_37 rfl) <| ch_cons (pc := 38) (pc' := 39) (ok_iloadn C dX7_mirror_38 rfl) <| ch_cons (pc := 39) (pc' := 42) (ok_callS (d := d) C hout hf hlo (sn_36 hS) rfl (kG_s gw_84 gw_85 gw_86 gw_16) (by decide) (by decide +kernel) dX7_mirror_39) <| ch_cons (pc := 42) (pc' := 43) (ok_iloadn C dX7_mirror_42 rfl) <| ch_cons (pc := 43) (pc' := 46) (ok_callS (d := d) C hout hf hlo (sn_37 hS) rfl (kG_s gw_81 gw_82 gw_83 gw_16) (by decide) (by decide +kernel) dX7_mirror_43) <| ch_cons (pc := 46) (pc' := 48) (ok_istore C dX7_mirror_46 (by decide)) <| ch_cons (pc := 48) (pc' := 50) (ok_iload C dX7_mirror_48) <| ch_cons (pc := 50) (pc' := 51) (ok_iloadn C dX7_mirror_50 rfl) <| ch_cons (pc := 51) (pc' := 53) (ok_iload C dX7_mirror_51) <| ch_cons (pc := 53) (pc' := 54) (ok_iloadn C dX7_mirror_53 rfl) <| ch_cons (pc := 54) (pc' := 57) (ok_callS (d := d) C hout hf hlo (sn_34 hS) rfl (kG_s gw_13 gw_87 gw_15 gw_16) (by decide) (by decide +kernel) dX7_mirror_54) <| ch_last (pc := 57) (ok_ireturn C hr dX7_mirror_57))
/-- Bijectory$Trees.label(III)I -/
def bl_X7_label (tb : List (List Int32)) (cl : kCall) : List (List kOp) := [
  [oLoadI 1, oS (gPush (.int 1)), tCmp (fun x y => decide (x < y)) 2 1],
  [oLoadI 1, oS (gPush (.int 6)), tCmp (fun x y => decide (x ≤ y)) 3 2],
  [oS (gPush (.int 0)), tIret],
  [oLoadI 0, oLoadI 1, oCall cl 8 2, oStoreI 3, oLoadI 1, oS (gPush (.int 1)), oBin (fun x y => x - y), oLoadI 3, oBin (fun x y => x - y), oStoreI 4, oLoadI 0, oLoadI 1, oLoadI 3, oCall cl 35 3, oLoadI 3, oLoadI 2, oCall cl 38 3, oStoreI 5, oLoadI 0, oLoadI 4, oCall cl 36 2, oLoadI 4, oLoadI 2, oLoadI 3, oBin (fun x y => x + y), oCall cl 38 3, oStoreI 6, oLoadI 5, oS (gPush (.int 10)), oBin (fun x y => x * y), oLoadI 1, oBin (fun x y => x + y), oLoadI 2, oBin (fun x y => x + y), oGetS 4, oLoadI 4, oCall cl 0 2, oBin (fun x y => x * y), oLoadI 6, oBin (fun x y => x + y), tIret]]
set_option maxRecDepth 100000 in
set_option maxHeartbeats 4000000 in
theorem mok_X7_label {E : kE} {σ : List Nat} {l : Launch} {tb : List (List Int32)} (hE : kcl E = kCl) (hn : kn E = 20) (htb : ktb E = tb) : kMOK E (kXX (kb E) σ) σ kZs l kY kWS yX7_label (kws yX7_label cX7_label 7 (some .int)) cX7_label 7 (some .int) (fun cl => bl_X7_label tb cl) := by
  intro d cl hS p e R s m args below meth c α0 nc0 ns0 res C hf hlo hr hnm hout
  have hXX : kXX (kb E) σ s := C.2.2.2.2.2.2.1.2.2.2.2
  refine ⟨fun b => [0, 5, 11, 13].getD b 0, rfl, kAllB_get (bl := bl_X7_label tb cl) ⟨?_, ?_, ?_, ?_, trivial⟩⟩
  · exact (ch_cons (pc := 0) (pc' := 1) (ok_iloadn C dX7_label_0 rfl) <| ch_cons (pc := 1) (pc' := 2) (ok_iconst C dX7_label_1 (by decide)) <| ch_last (pc := 2) (ok_icmp_lt (tgt := 11) C dX7_label_2 (by decide) rfl rfl))
  · exact (ch_cons (pc := 5) (pc' := 6) (ok_iloadn C dX7_label_5 rfl) <| ch_cons (pc := 6) (pc' := 8) (ok_bipush C dX7_label_6 (by decide)) <| ch_last (pc := 8) (ok_icmp_le (tgt := 13) C dX7_label_8 (by decide) rfl rfl))
  · exact (ch_cons (pc := 11) (pc' := 12) (ok_iconst C dX7_label_11 (by decide)) <| ch_last (pc := 12) (ok_ireturn C hr dX7_label_12))
  · exact (ch_cons (pc := 13) (pc' := 14) (ok_iloadn C dX7_label_13 rfl) <| ch_cons (pc := 14) (pc' := 15) (ok_iloadn C dX7_label_14 rfl) <| ch_cons (pc := 15) (pc' := 18) (ok_callS (d := d) C hout hf hlo (sn_8 hS) rfl (kG_s gw_20 gw_77 gw_22 gw_3) (by decide) (by decide +kernel) dX7_label_15) <| ch_cons (pc := 18) (pc' := 19) (ok_istoren C dX7_label_18 rfl (by decide)) <| ch_cons (pc := 19) (pc' := 20) (ok_iloadn C dX7_label_19 rfl) <| ch_cons (pc := 20) (pc' := 21) (ok_iconst C dX7_label_20 (by decide)) <| ch_cons (pc := 21) (pc' := 22) (ok_isub C dX7_label_21) <| ch_cons (pc := 22) (pc' := 23) (ok_iloadn C dX7_label_22 rfl) <| ch_cons (pc := 23) (pc' := 24) (ok_isub C dX7_label_23) <| ch_cons (pc := 24) (pc' := 26) (ok_istore C dX7_label_24 (by decide)) <| ch_cons (pc := 26) (pc' := 27) (ok_iloadn C dX7_label_26 rfl) <| ch_cons (pc := 27) (pc' := 28) (ok_iloadn C dX7_label_27 rfl) <| ch_cons (pc := 28) (pc' := 29) (ok_iloadn C dX7_label_28 rfl) <| ch_cons (pc := 29) (pc' := 32) (ok_callS (d := d) C hout hf hlo (sn_35 hS) rfl (kG_s gw_78 gw_79 gw_80 gw_16) (by decide) (by decide +kernel) dX7_label_29) <| ch_cons (pc := 32) (pc' := 33) (ok_iloadn C dX7_label_32 rfl) <| ch_cons (pc := 33) (pc' := 34) (ok_iloadn C dX7_label_33 rfl) <| ch_cons (pc := 34) (pc' := 37) (ok_callS (d := d) C hout hf hlo (sn_38 hS) rfl (kG_s gw_88 gw_89 gw_90 gw_16) (by decide) (by decide +kernel) dX7_label_34) <| ch_cons (pc := 37) (pc' := 39) (ok_istore C dX7_label_37 (by decide)) <| ch_cons (pc := 39) (pc' := 40) (ok_iloadn C dX7_label_39 rfl) <| ch_cons (pc := 40) (pc' := 42) (ok_iload C dX7_label_40) <| ch_cons (pc := 42) (pc' := 45) (ok_callS (d := d) C hout hf hlo (sn_36 hS) rfl (kG_s gw_84 gw_85 gw_86 gw_16) (by decide) (by decide +kernel) dX7_label_42) <| ch_cons (pc := 45) (pc' := 47) (ok_iload C dX7_label_45) <| ch_cons (pc := 47) (pc' := 48) (ok_iloadn C dX7_label_47 rfl) <| ch_cons (pc := 48) (pc' := 49) (ok_iloadn C dX7_label_48 rfl) <| ch_cons (pc := 49) (pc' := 50) (ok_iadd C dX7_label_49) <| ch_cons (pc := 50) (pc' := 53) (ok_callS (d := d) C hout hf hlo (sn_38 hS) rfl (kG_s gw_88 gw_89 gw_90 gw_16) (by decide) (by decide +kernel) dX7_label_50) <| ch_cons (pc := 53) (pc' := 55) (ok_istore C dX7_label_53 (by decide)) <| ch_cons (pc := 55) (pc' := 57) (ok_iload C dX7_label_55) <| ch_cons (pc := 57) (pc' := 59) (ok_bipush C dX7_label_57 (by decide)) <| ch_cons (pc := 59) (pc' := 60) (ok_imul C dX7_label_59) <| ch_cons (pc := 60) (pc' := 61) (ok_iloadn C dX7_label_60 rfl) <| ch_cons (pc := 61) (pc' := 62) (ok_iadd C dX7_label_61) <| ch_cons (pc := 62) (pc' := 63) (ok_iloadn C dX7_label_62 rfl) <| ch_cons (pc := 63) (pc' := 64) (ok_iadd C dX7_label_63) <| ch_cons (pc := 64) (pc' := 67) (ok_getsN C zin_4 (xw_2 hXX) dX7_label_64) <| ch_cons (pc := 67) (pc' := 69) (ok_iload C dX7_label_67) <| ch_cons (pc := 69) (pc' := 72) (ok_callS (d := d) C hout hf hlo (sn_0 hS) rfl (kG_s gw_39 gw_91 gw_41 gw_42) (by decide) (by decide +kernel) dX7_label_69) <| ch_cons (pc := 72) (pc' := 73) (ok_imul C dX7_label_72) <| ch_cons (pc := 73) (pc' := 75) (ok_iload C dX7_label_73) <| ch_cons (pc := 75) (pc' := 76) (ok_iadd C dX7_label_75) <| ch_last (pc := 76) (ok_ireturn C hr dX7_label_76))
/-- Bijectory$Trees.valueOf(III)I -/
def bl_X7_valueOf (tb : List (List Int32)) (cl : kCall) : List (List kOp) := [
  [oLoadI 2, oS (gPush (.int 1)), tCmp (fun x y => decide (x < y)) 2 1],
  [oLoadI 2, oS (gPush (.int 6)), tCmp (fun x y => decide (x ≤ y)) 3 2],
  [oS (gPush (.int 0)), tIret],
  [oLoadI 1, oLoadI 2, oCall cl 8 2, oStoreI 3, oLoadI 2, oS (gPush (.int 1)), oBin (fun x y => x - y), oLoadI 3, oBin (fun x y => x - y), oStoreI 4, oLoadI 0, oLoadI 1, oLoadI 2, oLoadI 3, oCall cl 35 3, oLoadI 3, oCall cl 39 3, oStoreI 5, oLoadI 0, oLoadI 1, oLoadI 4, oCall cl 36 2, oLoadI 4, oCall cl 39 3, oStoreI 6, oLoadI 0, tTab 0 [4, 8, 9] 10],
  [oLoadI 2, oS (gPush (.int 1)), tCmp (fun x y => !decide (x = y)) 6 5],
  [oS (gPush (.int 1)), tGo 7],
  [oLoadI 5, oLoadI 6, oBin (fun x y => x + y), tGo 7],
  [tIret],
  [oS (gPush (.int 1)), oLoadI 5, oBin (fun x y => x + y), tIret],
  [oS (gPush (.int 1)), oLoadI 5, oLoadI 6, oMax true, oBin (fun x y => x + y), tIret],
  [oLoadI 5, oLoadI 6, oBin (fun x y => x + y), oLoadI 4, tIf (fun x => decide (x ≤ 0)) 12 11],
  [oS (gPush (.int 1)), tGo 13],
  [oS (gPush (.int 0)), tGo 13],
  [oBin (fun x y => x + y), tIret]]
set_option maxRecDepth 100000 in
set_option maxHeartbeats 4000000 in
theorem mok_X7_valueOf {E : kE} {σ : List Nat} {l : Launch} {tb : List (List Int32)} (hE : kcl E = kCl) (hn : kn E = 20) (htb : ktb E = tb) : kMOK E (kXX (kb E) σ) σ kZs l kY kWS yX7_valueOf (kws yX7_valueOf cX7_valueOf 7 (some .int)) cX7_valueOf 7 (some .int) (fun cl => bl_X7_valueOf tb cl) := by
  intro d cl hS p e R s m args below meth c α0 nc0 ns0 res C hf hlo hr hnm hout
  have hXX : kXX (kb E) σ s := C.2.2.2.2.2.2.1.2.2.2.2
  refine ⟨fun b => [0, 5, 11, 13, 80, 85, 89, 94, 95, 100, 110, 120, 124, 125].getD b 0, rfl, kAllB_get (bl := bl_X7_valueOf tb cl) ⟨?_, ?_, ?_, ?_, ?_, ?_, ?_, ?_, ?_, ?_, ?_, ?_, ?_, ?_, trivial⟩⟩
  · exact (ch_cons (pc := 0) (pc' := 1) (ok_iloadn C dX7_valueOf_0 rfl) <| ch_cons (pc := 1) (pc' := 2) (ok_iconst C dX7_valueOf_1 (by decide)) <| ch_last (pc := 2) (ok_icmp_lt (tgt := 11) C dX7_valueOf_2 (by decide) rfl rfl))
  · exact (ch_cons (pc := 5) (pc' := 6) (ok_iloadn C dX7_valueOf_5 rfl) <| ch_cons (pc := 6) (pc' := 8) (ok_bipush C dX7_valueOf_6 (by decide)) <| ch_last (pc := 8) (ok_icmp_le (tgt := 13) C dX7_valueOf_8 (by decide) rfl rfl))
  · exact (ch_cons (pc := 11) (pc' := 12) (ok_iconst C dX7_valueOf_11 (by decide)) <| ch_last (pc := 12) (ok_ireturn C hr dX7_valueOf_12))
  · exact (ch_cons (pc := 13) (pc' := 14) (ok_iloadn C dX7_valueOf_13 rfl) <| ch_cons (pc := 14) (pc' := 15) (ok_iloadn C dX7_valueOf_14 rfl) <| ch_cons (pc := 15) (pc' := 18) (ok_callS (d := d) C hout hf hlo (sn_8 hS) rfl (kG_s gw_20 gw_77 gw_22 gw_3) (by decide) (by decide +kernel) dX7_valueOf_15) <| ch_cons (pc := 18) (pc' := 19) (ok_istoren C dX7_valueOf_18 rfl (by decide)) <| ch_cons (pc := 19) (pc' := 20) (ok_iloadn C dX7_valueOf_19 rfl) <| ch_cons (pc := 20) (pc' := 21) (ok_iconst C dX7_valueOf_20 (by decide)) <| ch_cons (pc := 21) (pc' := 22) (ok_isub C dX7_valueOf_21) <| ch_cons (pc := 22) (pc' := 23) (ok_iloadn C dX7_valueOf_22 rfl) <| ch_cons (pc := 23) (pc' := 24) (ok_isub C dX7_valueOf_23) <| ch_cons (pc := 24) (pc' := 26) (ok_istore C dX7_valueOf_24 (by decide)) <| ch_cons (pc := 26) (pc' := 27) (ok_iloadn C dX7_valueOf_26 rfl) <| ch_cons (pc := 27) (pc' := 28) (ok_iloadn C dX7_valueOf_27 rfl) <| ch_cons (pc := 28) (pc' := 29) (ok_iloadn C dX7_valueOf_28 rfl) <| ch_cons (pc := 29) (pc' := 30) (ok_iloadn C dX7_valueOf_29 rfl) <| ch_cons (pc := 30) (pc' := 33) (ok_callS (d := d) C hout hf hlo (sn_35 hS) rfl (kG_s gw_78 gw_79 gw_80 gw_16) (by decide) (by decide +kernel) dX7_valueOf_30) <| ch_cons (pc := 33) (pc' := 34) (ok_iloadn C dX7_valueOf_33 rfl) <| ch_cons (pc := 34) (pc' := 37) (ok_callS (d := d) C hout hf hlo (sn_39 hS) rfl (kG_s gw_92 gw_93 gw_94 gw_16) (by decide) (by decide +kernel) dX7_valueOf_34) <| ch_cons (pc := 37) (pc' := 39) (ok_istore C dX7_valueOf_37 (by decide)) <| ch_cons (pc := 39) (pc' := 40) (ok_iloadn C dX7_valueOf_39 rfl) <| ch_cons (pc := 40) (pc' := 41) (ok_iloadn C dX7_valueOf_40 rfl) <| ch_cons (pc := 41) (pc' := 43) (ok_iload C dX7_valueOf_41) <| ch_cons (pc := 43) (pc' := 46) (ok_callS (d := d) C hout hf hlo (sn_36 hS) rfl (kG_s gw_84 gw_85 gw_86 gw_16) (by decide) (by decide +kernel) dX7_valueOf_43) <| ch_cons (pc := 46) (pc' := 48) (ok_iload C dX7_valueOf_46) <| ch_cons (pc := 48) (pc' := 51) (ok_callS (d := d) C hout hf hlo (sn_39 hS) rfl (kG_s gw_92 gw_93 gw_94 gw_16) (by decide) (by decide +kernel) dX7_valueOf_48) <| ch_cons (pc := 51) (pc' := 53) (ok_istore C dX7_valueOf_51 (by decide)) <| ch_cons (pc := 53) (pc' := 54) (ok_iloadn C dX7_valueOf_53 rfl) <| ch_last (pc := 54) (ok_table (td := 110) C dX7_valueOf_54 (by decide) (by decide) (by decide) rfl))
  · exact (ch_cons (pc := 80) (pc' := 81) (ok_iloadn C dX7_valueOf_80 rfl) <| ch_cons (pc := 81) (pc' := 82) (ok_iconst C dX7_valueOf_81 (by decide)) <| ch_last (pc := 82) (ok_icmp_ne (tgt := 89) C dX7_valueOf_82 (by decide) rfl rfl))
  · exact (ch_cons (pc := 85) (pc' := 86) (ok_iconst C dX7_valueOf_85 (by decide)) <| ch_last (pc := 86) (ok_goto (tgt := 94) C dX7_valueOf_86 (by decide) rfl))
  · exact (ch_cons (pc := 89) (pc' := 91) (ok_iload C dX7_valueOf_89) <| ch_cons (pc := 91) (pc' := 93) (ok_iload C dX7_valueOf_91) <| ch_cons (pc := 93) (pc' := 94) (ok_iadd C dX7_valueOf_93) <| ch_last (pc := 94) (ok_fall rfl))
  · exact (ch_last (pc := 94) (ok_ireturn C hr dX7_valueOf_94))
  · exact (ch_cons (pc := 95) (pc' := 96) (ok_iconst C dX7_valueOf_95 (by decide)) <| ch_cons (pc := 96) (pc' := 98) (ok_iload C dX7_valueOf_96) <| ch_cons (pc := 98) (pc' := 99) (ok_iadd C dX7_valueOf_98) <| ch_last (pc := 99) (ok_ireturn C hr dX7_valueOf_99))
  · exact (ch_cons (pc := 100) (pc' := 101) (ok_iconst C dX7_valueOf_100 (by decide)) <| ch_cons (pc := 101) (pc' := 103) (ok_iload C dX7_valueOf_101) <| ch_cons (pc := 103) (pc' := 105) (ok_iload C dX7_valueOf_103) <| ch_cons (pc := 105) (pc' := 108) (ok_max C (kG_in gw_95) (kG_in gw_36) (kG_in gw_37) (kG_in gw_38) dX7_valueOf_105) <| ch_cons (pc := 108) (pc' := 109) (ok_iadd C dX7_valueOf_108) <| ch_last (pc := 109) (ok_ireturn C hr dX7_valueOf_109))
  · exact (ch_cons (pc := 110) (pc' := 112) (ok_iload C dX7_valueOf_110) <| ch_cons (pc := 112) (pc' := 114) (ok_iload C dX7_valueOf_112) <| ch_cons (pc := 114) (pc' := 115) (ok_iadd C dX7_valueOf_114) <| ch_cons (pc := 115) (pc' := 117) (ok_iload C dX7_valueOf_115) <| ch_last (pc := 117) (ok_if_le (tgt := 124) C dX7_valueOf_117 (by decide) rfl rfl))
  · exact (ch_cons (pc := 120) (pc' := 121) (ok_iconst C dX7_valueOf_120 (by decide)) <| ch_last (pc := 121) (ok_goto (tgt := 125) C dX7_valueOf_121 (by decide) rfl))
  · exact (ch_cons (pc := 124) (pc' := 125) (ok_iconst C dX7_valueOf_124 (by decide)) <| ch_last (pc := 125) (ok_fall rfl))
  · exact (ch_cons (pc := 125) (pc' := 126) (ok_iadd C dX7_valueOf_125) <| ch_last (pc := 126) (ok_ireturn C hr dX7_valueOf_126))
/-- java/lang/Integer.valueOf(I)Ljava/lang/Integer; -/
def bl_J6_valueOf_2dffe (tb : List (List Int32)) (cl : kCall) : List (List kOp) := [
  [oLoadI 0, oS (gPush (.int (-128))), tCmp (fun x y => decide (x < y)) 3 1],
  [oLoadI 0, oS (gPush (.int 127)), tCmp (fun x y => decide (y < x)) 3 2],
  [oBox 0, tAret],
  [oNew 20 0 1 [.int 0], oS gDup, oLoadI 0, oStuck]]
set_option maxRecDepth 100000 in
set_option maxHeartbeats 4000000 in
theorem mok_J6_valueOf_2dffe {E : kE} {σ : List Nat} {l : Launch} {tb : List (List Int32)} (hE : kcl E = kCl) (hn : kn E = 20) (htb : ktb E = tb) : kMOK E (kXX (kb E) σ) σ kZs l kY kWS yJ6_valueOf_2dffe (kws yJ6_valueOf_2dffe cJ6_valueOf_2dffe 1 (some (.object "java/lang/Integer"))) cJ6_valueOf_2dffe 1 (some (.object "java/lang/Integer")) (fun cl => bl_J6_valueOf_2dffe tb cl) := by
  intro d cl hS p e R s m args below meth c α0 nc0 ns0 res C hf hlo hr hnm hout
  have hXX : kXX (kb E) σ s := C.2.2.2.2.2.2.1.2.2.2.2
  refine ⟨fun b => [0, 6, 13, 23].getD b 0, rfl, kAllB_get (bl := bl_J6_valueOf_2dffe tb cl) ⟨?_, ?_, ?_, ?_, trivial⟩⟩
  · exact (ch_cons (pc := 0) (pc' := 1) (ok_iloadn C dJ6_valueOf_2dffe_0 rfl) <| ch_cons (pc := 1) (pc' := 3) (ok_bipush C dJ6_valueOf_2dffe_1 (by decide)) <| ch_last (pc := 3) (ok_icmp_lt (tgt := 23) C dJ6_valueOf_2dffe_3 (by decide) rfl rfl))
  · exact (ch_cons (pc := 6) (pc' := 7) (ok_iloadn C dJ6_valueOf_2dffe_6 rfl) <| ch_cons (pc := 7) (pc' := 10) (ok_getI C (hi_ok hXX) (kG_in gw_96) dJ6_valueOf_2dffe_7) <| ch_last (pc := 10) (ok_icmp_gt (tgt := 23) C dJ6_valueOf_2dffe_10 (by decide) rfl rfl))
  · exact (ch_cons (pc := 13) (pc' := 22) (ok_box (k := 0) C (bx_ok hXX) (kG_in gw_97) dJ6_valueOf_2dffe_13 dJ6_valueOf_2dffe_16 rfl dJ6_valueOf_2dffe_17 dJ6_valueOf_2dffe_20 dJ6_valueOf_2dffe_21) <| ch_last (pc := 22) (ok_areturn C hr (Or.inl ⟨_, rfl⟩) dJ6_valueOf_2dffe_22))
  · exact (ch_cons (pc := 23) (pc' := 26) (ok_new C hn (fun w h => kG_in (inG_J6 w h)) tyJ6 tyJ6_ok (kcl_at hE 0 rfl) (kG_in gw_98) (kG_in gw_99) (kG_in gw_69) rfl dJ6_valueOf_2dffe_23) <| ch_cons (pc := 26) (pc' := 27) (ok_dup C dJ6_valueOf_2dffe_26) <| ch_cons (pc := 27) (pc' := 28) (ok_iloadn C dJ6_valueOf_2dffe_27 rfl) <| ch_last (pc := 28) (ok_stuck))
/-- java/lang/Integer.bitCount(I)I -/
def bl_J6_bitCount_0f7a4 (tb : List (List Int32)) (cl : kCall) : List (List kOp) := [
  [oLoadI 0, oLoadI 0, oS (gPush (.int 1)), oBin (fun x y => (x.toUInt32 >>> (y.toUInt32 &&& Int32.toUInt32 31)).toInt32), oS (gPush (.int (1431655765))), oBin (fun x y => x &&& y), oBin (fun x y => x - y), oStoreI 0, oLoadI 0, oS (gPush (.int (858993459))), oBin (fun x y => x &&& y), oLoadI 0, oS (gPush (.int 2)), oBin (fun x y => (x.toUInt32 >>> (y.toUInt32 &&& Int32.toUInt32 31)).toInt32), oS (gPush (.int (858993459))), oBin (fun x y => x &&& y), oBin (fun x y => x + y), oStoreI 0, oLoadI 0, oLoadI 0, oS (gPush (.int 4)), oBin (fun x y => (x.toUInt32 >>> (y.toUInt32 &&& Int32.toUInt32 31)).toInt32), oBin (fun x y => x + y), oS (gPush (.int (252645135))), oBin (fun x y => x &&& y), oStoreI 0, oLoadI 0, oLoadI 0, oS (gPush (.int 8)), oBin (fun x y => (x.toUInt32 >>> (y.toUInt32 &&& Int32.toUInt32 31)).toInt32), oBin (fun x y => x + y), oStoreI 0, oLoadI 0, oLoadI 0, oS (gPush (.int 16)), oBin (fun x y => (x.toUInt32 >>> (y.toUInt32 &&& Int32.toUInt32 31)).toInt32), oBin (fun x y => x + y), oStoreI 0, oLoadI 0, oS (gPush (.int 63)), oBin (fun x y => x &&& y), tIret]]
set_option maxRecDepth 100000 in
set_option maxHeartbeats 4000000 in
theorem mok_J6_bitCount_0f7a4 {E : kE} {σ : List Nat} {l : Launch} {tb : List (List Int32)} (hE : kcl E = kCl) (hn : kn E = 20) (htb : ktb E = tb) : kMOK E (kXX (kb E) σ) σ kZs l kY kWS yJ6_bitCount_0f7a4 (kws yJ6_bitCount_0f7a4 cJ6_bitCount_0f7a4 1 (some .int)) cJ6_bitCount_0f7a4 1 (some .int) (fun cl => bl_J6_bitCount_0f7a4 tb cl) := by
  intro d cl hS p e R s m args below meth c α0 nc0 ns0 res C hf hlo hr hnm hout
  have hXX : kXX (kb E) σ s := C.2.2.2.2.2.2.1.2.2.2.2
  refine ⟨fun b => [0].getD b 0, rfl, kAllB_get (bl := bl_J6_bitCount_0f7a4 tb cl) ⟨?_, trivial⟩⟩
  · exact (ch_cons (pc := 0) (pc' := 1) (ok_iloadn C dJ6_bitCount_0f7a4_0 rfl) <| ch_cons (pc := 1) (pc' := 2) (ok_iloadn C dJ6_bitCount_0f7a4_1 rfl) <| ch_cons (pc := 2) (pc' := 3) (ok_iconst C dJ6_bitCount_0f7a4_2 (by decide)) <| ch_cons (pc := 3) (pc' := 4) (ok_iushr C dJ6_bitCount_0f7a4_3) <| ch_cons (pc := 4) (pc' := 7) (ok_ldcw C dJ6_bitCount_0f7a4_4 (kG_in gw_100)) <| ch_cons (pc := 7) (pc' := 8) (ok_iand C dJ6_bitCount_0f7a4_7) <| ch_cons (pc := 8) (pc' := 9) (ok_isub C dJ6_bitCount_0f7a4_8) <| ch_cons (pc := 9) (pc' := 10) (ok_istoren C dJ6_bitCount_0f7a4_9 rfl (by decide)) <| ch_cons (pc := 10) (pc' := 11) (ok_iloadn C dJ6_bitCount_0f7a4_10 rfl) <| ch_cons (pc := 11) (pc' := 14) (ok_ldcw C dJ6_bitCount_0f7a4_11 (kG_in gw_101)) <| ch_cons (pc := 14) (pc' := 15) (ok_iand C dJ6_bitCount_0f7a4_14) <| ch_cons (pc := 15) (pc' := 16) (ok_iloadn C dJ6_bitCount_0f7a4_15 rfl) <| ch_cons (pc := 16) (pc' := 17) (ok_iconst C dJ6_bitCount_0f7a4_16 (by decide)) <| ch_cons (pc := 17) (pc' := 18) (ok_iushr C dJ6_bitCount_0f7a4_17) <| ch_cons (pc := 18) (pc' := 21) (ok_ldcw C dJ6_bitCount_0f7a4_18 (kG_in gw_101)) <| ch_cons (pc := 21) (pc' := 22) (ok_iand C dJ6_bitCount_0f7a4_21) <| ch_cons (pc := 22) (pc' := 23) (ok_iadd C dJ6_bitCount_0f7a4_22) <| ch_cons (pc := 23) (pc' := 24) (ok_istoren C dJ6_bitCount_0f7a4_23 rfl (by decide)) <| ch_cons (pc := 24) (pc' := 25) (ok_iloadn C dJ6_bitCount_0f7a4_24 rfl) <| ch_cons (pc := 25) (pc' := 26) (ok_iloadn C dJ6_bitCount_0f7a4_25 rfl) <| ch_cons (pc := 26) (pc' := 27) (ok_iconst C dJ6_bitCount_0f7a4_26 (by decide)) <| ch_cons (pc := 27) (pc' := 28) (ok_iushr C dJ6_bitCount_0f7a4_27) <| ch_cons (pc := 28) (pc' := 29) (ok_iadd C dJ6_bitCount_0f7a4_28) <| ch_cons (pc := 29) (pc' := 32) (ok_ldcw C dJ6_bitCount_0f7a4_29 (kG_in gw_102)) <| ch_cons (pc := 32) (pc' := 33) (ok_iand C dJ6_bitCount_0f7a4_32) <| ch_cons (pc := 33) (pc' := 34) (ok_istoren C dJ6_bitCount_0f7a4_33 rfl (by decide)) <| ch_cons (pc := 34) (pc' := 35) (ok_iloadn C dJ6_bitCount_0f7a4_34 rfl) <| ch_cons (pc := 35) (pc' := 36) (ok_iloadn C dJ6_bitCount_0f7a4_35 rfl) <| ch_cons (pc := 36) (pc' := 38) (ok_bipush C dJ6_bitCount_0f7a4_36 (by decide)) <| ch_cons (pc := 38) (pc' := 39) (ok_iushr C dJ6_bitCount_0f7a4_38) <| ch_cons (pc := 39) (pc' := 40) (ok_iadd C dJ6_bitCount_0f7a4_39) <| ch_cons (pc := 40) (pc' := 41) (ok_istoren C dJ6_bitCount_0f7a4_40 rfl (by decide)) <| ch_cons (pc := 41) (pc' := 42) (ok_iloadn C dJ6_bitCount_0f7a4_41 rfl) <| ch_cons (pc := 42) (pc' := 43) (ok_iloadn C dJ6_bitCount_0f7a4_42 rfl) <| ch_cons (pc := 43) (pc' := 45) (ok_bipush C dJ6_bitCount_0f7a4_43 (by decide)) <| ch_cons (pc := 45) (pc' := 46) (ok_iushr C dJ6_bitCount_0f7a4_45) <| ch_cons (pc := 46) (pc' := 47) (ok_iadd C dJ6_bitCount_0f7a4_46) <| ch_cons (pc := 47) (pc' := 48) (ok_istoren C dJ6_bitCount_0f7a4_47 rfl (by decide)) <| ch_cons (pc := 48) (pc' := 49) (ok_iloadn C dJ6_bitCount_0f7a4_48 rfl) <| ch_cons (pc := 49) (pc' := 51) (ok_bipush C dJ6_bitCount_0f7a4_49 (by decide)) <| ch_cons (pc := 51) (pc' := 52) (ok_iand C dJ6_bitCount_0f7a4_51) <| ch_last (pc := 52) (ok_ireturn C hr dJ6_bitCount_0f7a4_52))
/-- Bijectory$Realm.<init>(I)V -/
def bl_X4_init (tb : List (List Int32)) (cl : kCall) : List (List kOp) := [
  [oLoadR 0, oObj, oGetS 2, oLoadI 1, oCall cl 0 2, oS (gPush (.int 0)), oMax true, oStoreI 2, oGetS 3, oLoadI 1, oCall cl 0 2, oS (gPush (.int 0)), oMax true, oStoreI 3, oLoadR 0, oLoadI 1, oPut 20 5 0 .int, oLoadR 0, oLoadI 2, oNewa 20 100, oPut 20 5 1 (.array .int), oLoadR 0, oLoadI 3, oNewa 20 100, oPut 20 5 2 (.array .int), oLoadR 0, oS (gPush (.int 11)), oLoadI 3, oMna 20, oPut 20 5 3 (.array (.array .int)), oLoadR 0, oS (gPush (.int 12)), oLoadI 3, oMna 20, oPut 20 5 4 (.array (.array .int)), oLoadR 0, oS (gPush (.int 12)), oS (gPush (.int 37)), oMna 20, oPut 20 5 5 (.array (.array .int)), tVret]]
set_option maxRecDepth 100000 in
set_option maxHeartbeats 4000000 in
theorem mok_X4_init {E : kE} {σ : List Nat} {l : Launch} {tb : List (List Int32)} (hE : kcl E = kCl) (hn : kn E = 20) (htb : ktb E = tb) : kMOK E (kXX (kb E) σ) σ kZs l kY kWS yX4_init (kws yX4_init cX4_init 4 none) cX4_init 4 none (fun cl => bl_X4_init tb cl) := by
  intro d cl hS p e R s m args below meth c α0 nc0 ns0 res C hf hlo hr hnm hout
  have hXX : kXX (kb E) σ s := C.2.2.2.2.2.2.1.2.2.2.2
  refine ⟨fun b => [0].getD b 0, rfl, kAllB_get (bl := bl_X4_init tb cl) ⟨?_, trivial⟩⟩
  · exact (ch_cons (pc := 0) (pc' := 1) (ok_aloadRn C dX4_init_0 rfl) <| ch_cons (pc := 1) (pc' := 4) (ok_obj C (kG_in gw_103) (kG_in gw_104) (kG_in gw_105) dX4_init_1) <| ch_cons (pc := 4) (pc' := 7) (ok_getsN C zin_2 (xw_3 hXX) dX4_init_4) <| ch_cons (pc := 7) (pc' := 8) (ok_iloadn C dX4_init_7 rfl) <| ch_cons (pc := 8) (pc' := 11) (ok_callS (d := d) C hout hf hlo (sn_0 hS) rfl (kG_s gw_39 gw_106 gw_41 gw_42) (by decide) (by decide +kernel) dX4_init_8) <| ch_cons (pc := 11) (pc' := 12) (ok_iconst C dX4_init_11 (by decide)) <| ch_cons (pc := 12) (pc' := 15) (ok_max C (kG_in gw_107) (kG_in gw_36) (kG_in gw_37) (kG_in gw_38) dX4_init_12) <| ch_cons (pc := 15) (pc' := 16) (ok_istoren C dX4_init_15 rfl (by decide)) <| ch_cons (pc := 16) (pc' := 19) (ok_getsN C zin_3 (xw_4 hXX) dX4_init_16) <| ch_cons (pc := 19) (pc' := 20) (ok_iloadn C dX4_init_19 rfl) <| ch_cons (pc := 20) (pc' := 23) (ok_callS (d := d) C hout hf hlo (sn_0 hS) rfl (kG_s gw_39 gw_106 gw_41 gw_42) (by decide) (by decide +kernel) dX4_init_20) <| ch_cons (pc := 23) (pc' := 24) (ok_iconst C dX4_init_23 (by decide)) <| ch_cons (pc := 24) (pc' := 27) (ok_max C (kG_in gw_107) (kG_in gw_36) (kG_in gw_37) (kG_in gw_38) dX4_init_24) <| ch_cons (pc := 27) (pc' := 28) (ok_istoren C dX4_init_27 rfl (by decide)) <| ch_cons (pc := 28) (pc' := 29) (ok_aloadRn C dX4_init_28 rfl) <| ch_cons (pc := 29) (pc' := 30) (ok_iloadn C dX4_init_29 rfl) <| ch_cons (pc := 30) (pc' := 33) (ok_put C hn (fun w h => kG_in (inG_X4 w h)) tyX4 tyX4_ok nmX4 (kcl_at hE 5 rfl) (by decide) (kG_in gw_108) (fun _ h => h) (Or.inr ⟨rfl, hnm, rfl⟩) rfl dX4_init_30) <| ch_cons (pc := 33) (pc' := 34) (ok_aloadRn C dX4_init_33 rfl) <| ch_cons (pc := 34) (pc' := 35) (ok_iloadn C dX4_init_34 rfl) <| ch_cons (pc := 35) (pc' := 37) (ok_newa C hn (by decide) rfl rfl (by decide) (fun _ h => by cases h) (kG_in gw_109) dX4_init_35) <| ch_cons (pc := 37) (pc' := 40) (ok_put C hn (fun w h => kG_in (inG_X4 w h)) tyX4 tyX4_ok nmX4 (kcl_at hE 5 rfl) (by decide) (kG_in gw_110) (fun _ h => h) (Or.inr ⟨rfl, hnm, rfl⟩) rfl dX4_init_37) <| ch_cons (pc := 40) (pc' := 41) (ok_aloadRn C dX4_init_40 rfl) <| ch_cons (pc := 41) (pc' := 42) (ok_iloadn C dX4_init_41 rfl) <| ch_cons (pc := 42) (pc' := 44) (ok_newa C hn (by decide) rfl rfl (by decide) (fun _ h => by cases h) (kG_in gw_109) dX4_init_42) <| ch_cons (pc := 44) (pc' := 47) (ok_put C hn (fun w h => kG_in (inG_X4 w h)) tyX4 tyX4_ok nmX4 (kcl_at hE 5 rfl) (by decide) (kG_in gw_111) (fun _ h => h) (Or.inr ⟨rfl, hnm, rfl⟩) rfl dX4_init_44) <| ch_cons (pc := 47) (pc' := 48) (ok_aloadRn C dX4_init_47 rfl) <| ch_cons (pc := 48) (pc' := 50) (ok_bipush C dX4_init_48 (by decide)) <| ch_cons (pc := 50) (pc' := 51) (ok_iloadn C dX4_init_50 rfl) <| ch_cons (pc := 51) (pc' := 55) (ok_mna C hn (kG_in gw_112) (xw_5 hXX) (kG_in gw_109) dX4_init_51) <| ch_cons (pc := 55) (pc' := 58) (ok_put C hn (fun w h => kG_in (inG_X4 w h)) tyX4 tyX4_ok nmX4 (kcl_at hE 5 rfl) (by decide) (kG_in gw_113) (fun _ h => h) (Or.inr ⟨rfl, hnm, rfl⟩) rfl dX4_init_55) <| ch_cons (pc := 58) (pc' := 59) (ok_aloadRn C dX4_init_58 rfl) <| ch_cons (pc := 59) (pc' := 61) (ok_bipush C dX4_init_59 (by decide)) <| ch_cons (pc := 61) (pc' := 62) (ok_iloadn C dX4_init_61 rfl) <| ch_cons (pc := 62) (pc' := 66) (ok_mna C hn (kG_in gw_112) (xw_5 hXX) (kG_in gw_109) dX4_init_62) <| ch_cons (pc := 66) (pc' := 69) (ok_put C hn (fun w h => kG_in (inG_X4 w h)) tyX4 tyX4_ok nmX4 (kcl_at hE 5 rfl) (by decide) (kG_in gw_114) (fun _ h => h) (Or.inr ⟨rfl, hnm, rfl⟩) rfl dX4_init_66) <| ch_cons (pc := 69) (pc' := 70) (ok_aloadRn C dX4_init_69 rfl) <| ch_cons (pc := 70) (pc' := 72) (ok_bipush C dX4_init_70 (by decide)) <| ch_cons (pc := 72) (pc' := 74) (ok_bipush C dX4_init_72 (by decide)) <| ch_cons (pc := 74) (pc' := 78) (ok_mna C hn (kG_in gw_112) (xw_5 hXX) (kG_in gw_109) dX4_init_74) <| ch_cons (pc := 78) (pc' := 81) (ok_put C hn (fun w h => kG_in (inG_X4 w h)) tyX4 tyX4_ok nmX4 (kcl_at hE 5 rfl) (by decide) (kG_in gw_115) (fun _ h => h) (Or.inr ⟨rfl, hnm, rfl⟩) rfl dX4_init_78) <| ch_last (pc := 81) (ok_return C hr dX4_init_81))
/-- Bijectory$Realm.of(I)LBijectory$Realm; -/
def bl_X4_of (tb : List (List Int32)) (cl : kCall) : List (List kOp) := [
  [oNew 20 5 6 [.int 0, .null, .null, .null, .null, .null], oS gDup, oLoadI 0, oCallI cl 42 1, oStoreR 1, oLoadR 1, oCallV cl 44 0 5 20, oLoadR 1, oCallV cl 45 0 5 20, oS (gPush (.int 0)), oStoreI 2, tGo 1],
  [oLoadI 2, oS (gPush (.int 11)), tCmp (fun x y => decide (y ≤ x)) 3 2],
  [oLoadR 1, oLoadI 2, oCallV cl 46 1 5 20, oIinc 2 1, tGo 1],
  [oS (gPush (.int 0)), oStoreI 2, tGo 4],
  [oLoadI 2, oS (gPush (.int 3)), tCmp (fun x y => decide (y ≤ x)) 9 5],
  [oS (gPush (.int 0)), oStoreI 3, tGo 6],
  [oLoadI 3, oS (gPush (.int 4)), tCmp (fun x y => decide (y ≤ x)) 8 7],
  [oLoadR 1, oLoadI 2, oLoadI 3, oCallV cl 47 2 5 20, oIinc 3 1, tGo 6],
  [oIinc 2 1, tGo 4],
  [oLoadR 1, tAret]]
set_option maxRecDepth 100000 in
set_option maxHeartbeats 4000000 in
theorem mok_X4_of {E : kE} {σ : List Nat} {l : Launch} {tb : List (List Int32)} (hE : kcl E = kCl) (hn : kn E = 20) (htb : ktb E = tb) : kMOK E (kXX (kb E) σ) σ kZs l kY kWS yX4_of (kws yX4_of cX4_of 4 (some (.object "Bijectory$Realm"))) cX4_of 4 (some (.object "Bijectory$Realm")) (fun cl => bl_X4_of tb cl) := by
  intro d cl hS p e R s m args below meth c α0 nc0 ns0 res C hf hlo hr hnm hout
  have hXX : kXX (kb E) σ s := C.2.2.2.2.2.2.1.2.2.2.2
  refine ⟨fun b => [0, 19, 25, 36, 38, 43, 45, 50, 62, 68].getD b 0, rfl, kAllB_get (bl := bl_X4_of tb cl) ⟨?_, ?_, ?_, ?_, ?_, ?_, ?_, ?_, ?_, ?_, trivial⟩⟩
  · exact (ch_cons (pc := 0) (pc' := 3) (ok_new C hn (fun w h => kG_in (inG_X4 w h)) tyX4 tyX4_ok (kcl_at hE 5 rfl) (kG_in gw_116) (kG_in gw_117) (kG_in gw_118) rfl dX4_of_0) <| ch_cons (pc := 3) (pc' := 4) (ok_dup C dX4_of_3) <| ch_cons (pc := 4) (pc' := 5) (ok_iloadn C dX4_of_4 rfl) <| ch_cons (pc := 5) (pc' := 8) (ok_callI (d := d) C hout hf hlo (sn_42 hS) rfl (kG_ws gw_119) (kG_in gw_118) (kG_in gw_120) (kG_in gw_121) rfl (by decide) (by decide +kernel) dX4_of_5) <| ch_cons (pc := 8) (pc' := 9) (ok_astoreRn C dX4_of_8 rfl (by decide)) <| ch_cons (pc := 9) (pc' := 10) (ok_aloadRn C dX4_of_9 rfl) <| ch_cons (pc := 10) (pc' := 13) (ok_callV (d := d) (maxL := 3) C hn hout hf hlo (sn_44 hS) rfl (kcl_at hE 5 rfl) (kG_v gw_122 gw_123 gw_124 gw_125 gw_118) (by decide) (by decide +kernel) dX4_of_10) <| ch_cons (pc := 13) (pc' := 14) (ok_aloadRn C dX4_of_13 rfl) <| ch_cons (pc := 14) (pc' := 17) (ok_callV (d := d) (maxL := 2) C hn hout hf hlo (sn_45 hS) rfl (kcl_at hE 5 rfl) (kG_v gw_126 gw_127 gw_128 gw_129 gw_118) (by decide) (by decide +kernel) dX4_of_14) <| ch_cons (pc := 17) (pc' := 18) (ok_iconst C dX4_of_17 (by decide)) <| ch_cons (pc := 18) (pc' := 19) (ok_istoren C dX4_of_18 rfl (by decide)) <| ch_last (pc := 19) (ok_fall rfl))
  · exact (ch_cons (pc := 19) (pc' := 20) (ok_iloadn C dX4_of_19 rfl) <| ch_cons (pc := 20) (pc' := 22) (ok_bipush C dX4_of_20 (by decide)) <| ch_last (pc := 22) (ok_icmp_ge (tgt := 36) C dX4_of_22 (by decide) rfl rfl))
  · exact (ch_cons (pc := 25) (pc' := 26) (ok_aloadRn C dX4_of_25 rfl) <| ch_cons (pc := 26) (pc' := 27) (ok_iloadn C dX4_of_26 rfl) <| ch_cons (pc := 27) (pc' := 30) (ok_callV (d := d) (maxL := 5) C hn hout hf hlo (sn_46 hS) rfl (kcl_at hE 5 rfl) (kG_v gw_130 gw_131 gw_132 gw_133 gw_118) (by decide) (by decide +kernel) dX4_of_27) <| ch_cons (pc := 30) (pc' := 33) (ok_iinc C dX4_of_30 (by decide) (by decide)) <| ch_last (pc := 33) (ok_goto (tgt := 19) C dX4_of_33 (by decide) rfl))
  · exact (ch_cons (pc := 36) (pc' := 37) (ok_iconst C dX4_of_36 (by decide)) <| ch_cons (pc := 37) (pc' := 38) (ok_istoren C dX4_of_37 rfl (by decide)) <| ch_last (pc := 38) (ok_fall rfl))
  · exact (ch_cons (pc := 38) (pc' := 39) (ok_iloadn C dX4_of_38 rfl) <| ch_cons (pc := 39) (pc' := 40) (ok_iconst C dX4_of_39 (by decide)) <| ch_last (pc := 40) (ok_icmp_ge (tgt := 68) C dX4_of_40 (by decide) rfl rfl))
  · exact (ch_cons (pc := 43) (pc' := 44) (ok_iconst C dX4_of_43 (by decide)) <| ch_cons (pc := 44) (pc' := 45) (ok_istoren C dX4_of_44 rfl (by decide)) <| ch_last (pc := 45) (ok_fall rfl))
  · exact (ch_cons (pc := 45) (pc' := 46) (ok_iloadn C dX4_of_45 rfl) <| ch_cons (pc := 46) (pc' := 47) (ok_iconst C dX4_of_46 (by decide)) <| ch_last (pc := 47) (ok_icmp_ge (tgt := 62) C dX4_of_47 (by decide) rfl rfl))
  · exact (ch_cons (pc := 50) (pc' := 51) (ok_aloadRn C dX4_of_50 rfl) <| ch_cons (pc := 51) (pc' := 52) (ok_iloadn C dX4_of_51 rfl) <| ch_cons (pc := 52) (pc' := 53) (ok_iloadn C dX4_of_52 rfl) <| ch_cons (pc := 53) (pc' := 56) (ok_callV (d := d) (maxL := 6) C hn hout hf hlo (sn_47 hS) rfl (kcl_at hE 5 rfl) (kG_v gw_134 gw_135 gw_136 gw_137 gw_118) (by decide) (by decide +kernel) dX4_of_53) <| ch_cons (pc := 56) (pc' := 59) (ok_iinc C dX4_of_56 (by decide) (by decide)) <| ch_last (pc := 59) (ok_goto (tgt := 45) C dX4_of_59 (by decide) rfl))
  · exact (ch_cons (pc := 62) (pc' := 65) (ok_iinc C dX4_of_62 (by decide) (by decide)) <| ch_last (pc := 65) (ok_goto (tgt := 38) C dX4_of_65 (by decide) rfl))
  · exact (ch_cons (pc := 68) (pc' := 69) (ok_aloadRn C dX4_of_68 rfl) <| ch_last (pc := 69) (ok_areturn C hr (Or.inl ⟨_, rfl⟩) dX4_of_69))
/-- Bijectory$Realm.listPaths()V -/
def bl_X4_listPaths (tb : List (List Int32)) (cl : kCall) : List (List kOp) := [
  [oS (gPush (.int 0)), oStoreI 1, oS (gPush (.int 0)), oStoreI 2, tGo 1],
  [oLoadI 2, oS (gPush (.int 1)), oS (gPush (.int 2)), oLoadR 0, oGet 20 5 0, oBin (fun x y => x * y), oBin (fun x y => x <<< (y &&& 31)), tCmp (fun x y => decide (y ≤ x)) 5 2],
  [oLoadI 2, oLoadR 0, oGet 20 5 0, oCall cl 4 2, tIf (fun x => decide (x = 0)) 4 3],
  [oLoadR 0, oGet 20 5 1, oLoadI 1, oLoadI 2, oCall cl 2 3, oIinc 1 1, tGo 4],
  [oIinc 2 1, tGo 1],
  [tVret]]
set_option maxRecDepth 100000 in
set_option maxHeartbeats 4000000 in
theorem mok_X4_listPaths {E : kE} {σ : List Nat} {l : Launch} {tb : List (List Int32)} (hE : kcl E = kCl) (hn : kn E = 20) (htb : ktb E = tb) : kMOK E (kXX (kb E) σ) σ kZs l kY kWS yX4_listPaths (kws yX4_listPaths cX4_listPaths 3 none) cX4_listPaths 3 none (fun cl => bl_X4_listPaths tb cl) := by
  intro d cl hS p e R s m args below meth c α0 nc0 ns0 res C hf hlo hr hnm hout
  have hXX : kXX (kb E) σ s := C.2.2.2.2.2.2.1.2.2.2.2
  refine ⟨fun b => [0, 4, 16, 27, 39, 45].getD b 0, rfl, kAllB_get (bl := bl_X4_listPaths tb cl) ⟨?_, ?_, ?_, ?_, ?_, ?_, trivial⟩⟩
  · exact (ch_cons (pc := 0) (pc' := 1) (ok_iconst C dX4_listPaths_0 (by decide)) <| ch_cons (pc := 1) (pc' := 2) (ok_istoren C dX4_listPaths_1 rfl (by decide)) <| ch_cons (pc := 2) (pc' := 3) (ok_iconst C dX4_listPaths_2 (by decide)) <| ch_cons (pc := 3) (pc' := 4) (ok_istoren C dX4_listPaths_3 rfl (by decide)) <| ch_last (pc := 4) (ok_fall rfl))
  · exact (ch_cons (pc := 4) (pc' := 5) (ok_iloadn C dX4_listPaths_4 rfl) <| ch_cons (pc := 5) (pc' := 6) (ok_iconst C dX4_listPaths_5 (by decide)) <| ch_cons (pc := 6) (pc' := 7) (ok_iconst C dX4_listPaths_6 (by decide)) <| ch_cons (pc := 7) (pc' := 8) (ok_aloadRn C dX4_listPaths_7 rfl) <| ch_cons (pc := 8) (pc' := 11) (ok_get C hn (fun w h => kG_in (inG_X4 w h)) (kcl_at hE 5 rfl) (by decide) (kG_in gw_108) (fun _ h => h) dX4_listPaths_8) <| ch_cons (pc := 11) (pc' := 12) (ok_imul C dX4_listPaths_11) <| ch_cons (pc := 12) (pc' := 13) (ok_ishl C dX4_listPaths_12) <| ch_last (pc := 13) (ok_icmp_ge (tgt := 45) C dX4_listPaths_13 (by decide) rfl rfl))
  · exact (ch_cons (pc := 16) (pc' := 17) (ok_iloadn C dX4_listPaths_16 rfl) <| ch_cons (pc := 17) (pc' := 18) (ok_aloadRn C dX4_listPaths_17 rfl) <| ch_cons (pc := 18) (pc' := 21) (ok_get C hn (fun w h => kG_in (inG_X4 w h)) (kcl_at hE 5 rfl) (by decide) (kG_in gw_108) (fun _ h => h) dX4_listPaths_18) <| ch_cons (pc := 21) (pc' := 24) (ok_callS (d := d) C hout hf hlo (sn_4 hS) rfl (kG_s gw_138 gw_139 gw_140 gw_3) (by decide) (by decide +kernel) dX4_listPaths_21) <| ch_last (pc := 24) (ok_if_eq (tgt := 39) C dX4_listPaths_24 (by decide) rfl rfl))
  · exact (ch_cons (pc := 27) (pc' := 28) (ok_aloadRn C dX4_listPaths_27 rfl) <| ch_cons (pc := 28) (pc' := 31) (ok_get C hn (fun w h => kG_in (inG_X4 w h)) (kcl_at hE 5 rfl) (by decide) (kG_in gw_110) (fun _ h => h) dX4_listPaths_28) <| ch_cons (pc := 31) (pc' := 32) (ok_iloadn C dX4_listPaths_31 rfl) <| ch_cons (pc := 32) (pc' := 33) (ok_iloadn C dX4_listPaths_32 rfl) <| ch_cons (pc := 33) (pc' := 36) (ok_callS (d := d) C hout hf hlo (sn_2 hS) rfl (kG_s gw_141 gw_142 gw_143 gw_42) (by decide) (by decide +kernel) dX4_listPaths_33) <| ch_cons (pc := 36) (pc' := 39) (ok_iinc C dX4_listPaths_36 (by decide) (by decide)) <| ch_last (pc := 39) (ok_fall rfl))
  · exact (ch_cons (pc := 39) (pc' := 42) (ok_iinc C dX4_listPaths_39 (by decide) (by decide)) <| ch_last (pc := 42) (ok_goto (tgt := 4) C dX4_listPaths_42 (by decide) rfl))
  · exact (ch_last (pc := 45) (ok_return C hr dX4_listPaths_45))
/-- Bijectory$Realm.listOrders()V -/
def bl_X4_listOrders (tb : List (List Int32)) (cl : kCall) : List (List kOp) := [
  [oS (gPush (.int 0)), oStoreI 1, tGo 1],
  [oLoadI 1, oLoadR 0, oGet 20 5 2, oAlen tb, tCmp (fun x y => decide (y ≤ x)) 3 2],
  [oLoadR 0, oGet 20 5 2, oLoadI 1, oLoadI 1, oLoadR 0, oGet 20 5 0, oCall cl 20 2, oCall cl 2 3, oIinc 1 1, tGo 1],
  [tVret]]
set_option maxRecDepth 100000 in
set_option maxHeartbeats 4000000 in
theorem mok_X4_listOrders {E : kE} {σ : List Nat} {l : Launch} {tb : List (List Int32)} (hE : kcl E = kCl) (hn : kn E = 20) (htb : ktb E = tb) : kMOK E (kXX (kb E) σ) σ kZs l kY kWS yX4_listOrders (kws yX4_listOrders cX4_listOrders 2 none) cX4_listOrders 2 none (fun cl => bl_X4_listOrders tb cl) := by
  intro d cl hS p e R s m args below meth c α0 nc0 ns0 res C hf hlo hr hnm hout
  have hXX : kXX (kb E) σ s := C.2.2.2.2.2.2.1.2.2.2.2
  refine ⟨fun b => [0, 2, 11, 33].getD b 0, rfl, kAllB_get (bl := bl_X4_listOrders tb cl) ⟨?_, ?_, ?_, ?_, trivial⟩⟩
  · exact (ch_cons (pc := 0) (pc' := 1) (ok_iconst C dX4_listOrders_0 (by decide)) <| ch_cons (pc := 1) (pc' := 2) (ok_istoren C dX4_listOrders_1 rfl (by decide)) <| ch_last (pc := 2) (ok_fall rfl))
  · exact (ch_cons (pc := 2) (pc' := 3) (ok_iloadn C dX4_listOrders_2 rfl) <| ch_cons (pc := 3) (pc' := 4) (ok_aloadRn C dX4_listOrders_3 rfl) <| ch_cons (pc := 4) (pc' := 7) (ok_get C hn (fun w h => kG_in (inG_X4 w h)) (kcl_at hE 5 rfl) (by decide) (kG_in gw_111) (fun _ h => h) dX4_listOrders_4) <| ch_cons (pc := 7) (pc' := 8) (ok_alen C htb dX4_listOrders_7) <| ch_last (pc := 8) (ok_icmp_ge (tgt := 33) C dX4_listOrders_8 (by decide) rfl rfl))
  · exact (ch_cons (pc := 11) (pc' := 12) (ok_aloadRn C dX4_listOrders_11 rfl) <| ch_cons (pc := 12) (pc' := 15) (ok_get C hn (fun w h => kG_in (inG_X4 w h)) (kcl_at hE 5 rfl) (by decide) (kG_in gw_111) (fun _ h => h) dX4_listOrders_12) <| ch_cons (pc := 15) (pc' := 16) (ok_iloadn C dX4_listOrders_15 rfl) <| ch_cons (pc := 16) (pc' := 17) (ok_iloadn C dX4_listOrders_16 rfl) <| ch_cons (pc := 17) (pc' := 18) (ok_aloadRn C dX4_listOrders_17 rfl) <| ch_cons (pc := 18) (pc' := 21) (ok_get C hn (fun w h => kG_in (inG_X4 w h)) (kcl_at hE 5 rfl) (by decide) (kG_in gw_108) (fun _ h => h) dX4_listOrders_18) <| ch_cons (pc := 21) (pc' := 24) (ok_callS (d := d) C hout hf hlo (sn_20 hS) rfl (kG_s gw_144 gw_145 gw_146 gw_46) (by decide) (by decide +kernel) dX4_listOrders_21) <| ch_cons (pc := 24) (pc' := 27) (ok_callS (d := d) C hout hf hlo (sn_2 hS) rfl (kG_s gw_141 gw_142 gw_143 gw_42) (by decide) (by decide +kernel) dX4_listOrders_24) <| ch_cons (pc := 27) (pc' := 30) (ok_iinc C dX4_listOrders_27 (by decide) (by decide)) <| ch_last (pc := 30) (ok_goto (tgt := 2) C dX4_listOrders_30 (by decide) rfl))
  · exact (ch_last (pc := 33) (ok_return C hr dX4_listOrders_33))
/-- Bijectory$Realm.listImages(I)V -/
def bl_X4_listImages (tb : List (List Int32)) (cl : kCall) : List (List kOp) := [
  [oGetS 0, oLoadI 1, oCall cl 0 2, oStoreI 2, oGetS 1, oLoadI 1, oCall cl 0 2, oStoreI 3, oS (gPush (.int 0)), oStoreI 4, tGo 1],
  [oLoadI 4, oLoadR 0, oLoadI 2, oCallV cl 51 1 5 20, tCmp (fun x y => decide (y ≤ x)) 3 2],
  [oLoadR 0, oGet 20 5 3, oLoadI 1, oLoadI 4, oLoadR 0, oLoadI 3, oLoadI 1, oLoadR 0, oLoadI 2, oLoadI 4, oCallV cl 52 2 5 20, oLoadR 0, oGet 20 5 0, oCall cl 48 3, oCallV cl 53 2 5 20, oCall cl 3 4, oIinc 4 1, tGo 1],
  [tVret]]
set_option maxRecDepth 100000 in
set_option maxHeartbeats 4000000 in
theorem mok_X4_listImages {E : kE} {σ : List Nat} {l : Launch} {tb : List (List Int32)} (hE : kcl E = kCl) (hn : kn E = 20) (htb : ktb E = tb) : kMOK E (kXX (kb E) σ) σ kZs l kY kWS yX4_listImages (kws yX4_listImages cX4_listImages 5 none) cX4_listImages 5 none (fun cl => bl_X4_listImages tb cl) := by
  intro d cl hS p e R s m args below meth c α0 nc0 ns0 res C hf hlo hr hnm hout
  have hXX : kXX (kb E) σ s := C.2.2.2.2.2.2.1.2.2.2.2
  refine ⟨fun b => [0, 19, 29, 65].getD b 0, rfl, kAllB_get (bl := bl_X4_listImages tb cl) ⟨?_, ?_, ?_, ?_, trivial⟩⟩
  · exact (ch_cons (pc := 0) (pc' := 3) (ok_getsN C zin_0 (xw_6 hXX) dX4_listImages_0) <| ch_cons (pc := 3) (pc' := 4) (ok_iloadn C dX4_listImages_3 rfl) <| ch_cons (pc := 4) (pc' := 7) (ok_callS (d := d) C hout hf hlo (sn_0 hS) rfl (kG_s gw_39 gw_106 gw_41 gw_42) (by decide) (by decide +kernel) dX4_listImages_4) <| ch_cons (pc := 7) (pc' := 8) (ok_istoren C dX4_listImages_7 rfl (by decide)) <| ch_cons (pc := 8) (pc' := 11) (ok_getsN C zin_1 (xw_7 hXX) dX4_listImages_8) <| ch_cons (pc := 11) (pc' := 12) (ok_iloadn C dX4_listImages_11 rfl) <| ch_cons (pc := 12) (pc' := 15) (ok_callS (d := d) C hout hf hlo (sn_0 hS) rfl (kG_s gw_39 gw_106 gw_41 gw_42) (by decide) (by decide +kernel) dX4_listImages_12) <| ch_cons (pc := 15) (pc' := 16) (ok_istoren C dX4_listImages_15 rfl (by decide)) <| ch_cons (pc := 16) (pc' := 17) (ok_iconst C dX4_listImages_16 (by decide)) <| ch_cons (pc := 17) (pc' := 19) (ok_istore C dX4_listImages_17 (by decide)) <| ch_last (pc := 19) (ok_fall rfl))
  · exact (ch_cons (pc := 19) (pc' := 21) (ok_iload C dX4_listImages_19) <| ch_cons (pc := 21) (pc' := 22) (ok_aloadRn C dX4_listImages_21 rfl) <| ch_cons (pc := 22) (pc' := 23) (ok_iloadn C dX4_listImages_22 rfl) <| ch_cons (pc := 23) (pc' := 26) (ok_callV (d := d) (maxL := 2) C hn hout hf hlo (sn_51 hS) rfl (kcl_at hE 5 rfl) (kG_v gw_147 gw_148 gw_149 gw_150 gw_118) (by decide) (by decide +kernel) dX4_listImages_23) <| ch_last (pc := 26) (ok_icmp_ge (tgt := 65) C dX4_listImages_26 (by decide) rfl rfl))
  · exact (ch_cons (pc := 29) (pc' := 30) (ok_aloadRn C dX4_listImages_29 rfl) <| ch_cons (pc := 30) (pc' := 33) (ok_get C hn (fun w h => kG_in (inG_X4 w h)) (kcl_at hE 5 rfl) (by decide) (kG_in gw_113) (fun _ h => h) dX4_listImages_30) <| ch_cons (pc := 33) (pc' := 34) (ok_iloadn C dX4_listImages_33 rfl) <| ch_cons (pc := 34) (pc' := 36) (ok_iload C dX4_listImages_34) <| ch_cons (pc := 36) (pc' := 37) (ok_aloadRn C dX4_listImages_36 rfl) <| ch_cons (pc := 37) (pc' := 38) (ok_iloadn C dX4_listImages_37 rfl) <| ch_cons (pc := 38) (pc' := 39) (ok_iloadn C dX4_listImages_38 rfl) <| ch_cons (pc := 39) (pc' := 40) (ok_aloadRn C dX4_listImages_39 rfl) <| ch_cons (pc := 40) (pc' := 41) (ok_iloadn C dX4_listImages_40 rfl) <| ch_cons (pc := 41) (pc' := 43) (ok_iload C dX4_listImages_41) <| ch_cons (pc := 43) (pc' := 46) (ok_callV (d := d) (maxL := 3) C hn hout hf hlo (sn_52 hS) rfl (kcl_at hE 5 rfl) (kG_v gw_151 gw_152 gw_153 gw_154 gw_118) (by decide) (by decide +kernel) dX4_listImages_43) <| ch_cons (pc := 46) (pc' := 47) (ok_aloadRn C dX4_listImages_46 rfl) <| ch_cons (pc := 47) (pc' := 50) (ok_get C hn (fun w h => kG_in (inG_X4 w h)) (kcl_at hE 5 rfl) (by decide) (kG_in gw_108) (fun _ h => h) dX4_listImages_47) <| ch_cons (pc := 50) (pc' := 53) (ok_callS (d := d) C hout hf hlo (sn_48 hS) rfl (kG_s gw_155 gw_156 gw_157 gw_118) (by decide) (by decide +kernel) dX4_listImages_50) <| ch_cons (pc := 53) (pc' := 56) (ok_callV (d := d) (maxL := 6) C hn hout hf hlo (sn_53 hS) rfl (kcl_at hE 5 rfl) (kG_v gw_158 gw_159 gw_160 gw_161 gw_118) (by decide) (by decide +kernel) dX4_listImages_53) <| ch_cons (pc := 56) (pc' := 59) (ok_callS (d := d) C hout hf hlo (sn_3 hS) rfl (kG_s gw_162 gw_163 gw_164 gw_42) (by decide) (by decide +kernel) dX4_listImages_56) <| ch_cons (pc := 59) (pc' := 62) (ok_iinc C dX4_listImages_59 (by decide) (by decide)) <| ch_last (pc := 62) (ok_goto (tgt := 19) C dX4_listImages_62 (by decide) rfl))
  · exact (ch_last (pc := 65) (ok_return C hr dX4_listImages_65))
/-- Bijectory$Realm.listValues(II)V -/
def bl_X4_listValues (tb : List (List Int32)) (cl : kCall) : List (List kOp) := [
  [oLoadI 1, oS (gPush (.int 4)), oBin (fun x y => x * y), oLoadI 2, oBin (fun x y => x + y), oStoreI 3, oS (gPush (.int 0)), oStoreI 4, tGo 1],
  [oLoadI 4, oLoadR 0, oLoadI 1, oCallV cl 51 1 5 20, tCmp (fun x y => decide (y ≤ x)) 3 2],
  [oLoadI 1, oLoadI 2, oLoadR 0, oLoadI 1, oLoadI 4, oCallV cl 52 2 5 20, oLoadR 0, oGet 20 5 0, oCall cl 49 4, oStoreI 5, oLoadR 0, oGet 20 5 4, oLoadI 3, oLoadI 4, oLoadI 5, oCall cl 3 4, oLoadR 0, oGet 20 5 5, oLoadI 3, oLoadI 5, oLoadR 0, oGet 20 5 5, oLoadI 3, oLoadI 5, oCall cl 1 3, oS (gPush (.int 1)), oBin (fun x y => x + y), oCall cl 3 4, oIinc 4 1, tGo 1],
  [tVret]]
set_option maxRecDepth 100000 in
set_option maxHeartbeats 4000000 in
theorem mok_X4_listValues {E : kE} {σ : List Nat} {l : Launch} {tb : List (List Int32)} (hE : kcl E = kCl) (hn : kn E = 20) (htb : ktb E = tb) : kMOK E (kXX (kb E) σ) σ kZs l kY kWS yX4_listValues (kws yX4_listValues cX4_listValues 6 none) cX4_listValues 6 none (fun cl => bl_X4_listValues tb cl) := by
  intro d cl hS p e R s m args below meth c α0 nc0 ns0 res C hf hlo hr hnm hout
  have hXX : kXX (kb E) σ s := C.2.2.2.2.2.2.1.2.2.2.2
  refine ⟨fun b => [0, 9, 19, 77].getD b 0, rfl, kAllB_get (bl := bl_X4_listValues tb cl) ⟨?_, ?_, ?_, ?_, trivial⟩⟩
  · exact (ch_cons (pc := 0) (pc' := 1) (ok_iloadn C dX4_listValues_0 rfl) <| ch_cons (pc := 1) (pc' := 2) (ok_iconst C dX4_listValues_1 (by decide)) <| ch_cons (pc := 2) (pc' := 3) (ok_imul C dX4_listValues_2) <| ch_cons (pc := 3) (pc' := 4) (ok_iloadn C dX4_listValues_3 rfl) <| ch_cons (pc := 4) (pc' := 5) (ok_iadd C dX4_listValues_4) <| ch_cons (pc := 5) (pc' := 6) (ok_istoren C dX4_listValues_5 rfl (by decide)) <| ch_cons (pc := 6) (pc' := 7) (ok_iconst C dX4_listValues_6 (by decide)) <| ch_cons (pc := 7) (pc' := 9) (ok_istore C dX4_listValues_7 (by decide)) <| ch_last (pc := 9) (ok_fall rfl))
  · exact (ch_cons (pc := 9) (pc' := 11) (ok_iload C dX4_listValues_9) <| ch_cons (pc := 11) (pc' := 12) (ok_aloadRn C dX4_listValues_11 rfl) <| ch_cons (pc := 12) (pc' := 13) (ok_iloadn C dX4_listValues_12 rfl) <| ch_cons (pc := 13) (pc' := 16) (ok_callV (d := d) (maxL := 2) C hn hout hf hlo (sn_51 hS) rfl (kcl_at hE 5 rfl) (kG_v gw_147 gw_148 gw_149 gw_150 gw_118) (by decide) (by decide +kernel) dX4_listValues_13) <| ch_last (pc := 16) (ok_icmp_ge (tgt := 77) C dX4_listValues_16 (by decide) rfl rfl))
  · exact (ch_cons (pc := 19) (pc' := 20) (ok_iloadn C dX4_listValues_19 rfl) <| ch_cons (pc := 20) (pc' := 21) (ok_iloadn C dX4_listValues_20 rfl) <| ch_cons (pc := 21) (pc' := 22) (ok_aloadRn C dX4_listValues_21 rfl) <| ch_cons (pc := 22) (pc' := 23) (ok_iloadn C dX4_listValues_22 rfl) <| ch_cons (pc := 23) (pc' := 25) (ok_iload C dX4_listValues_23) <| ch_cons (pc := 25) (pc' := 28) (ok_callV (d := d) (maxL := 3) C hn hout hf hlo (sn_52 hS) rfl (kcl_at hE 5 rfl) (kG_v gw_151 gw_152 gw_153 gw_154 gw_118) (by decide) (by decide +kernel) dX4_listValues_25) <| ch_cons (pc := 28) (pc' := 29) (ok_aloadRn C dX4_listValues_28 rfl) <| ch_cons (pc := 29) (pc' := 32) (ok_get C hn (fun w h => kG_in (inG_X4 w h)) (kcl_at hE 5 rfl) (by decide) (kG_in gw_108) (fun _ h => h) dX4_listValues_29) <| ch_cons (pc := 32) (pc' := 35) (ok_callS (d := d) C hout hf hlo (sn_49 hS) rfl (kG_s gw_165 gw_166 gw_167 gw_118) (by decide) (by decide +kernel) dX4_listValues_32) <| ch_cons (pc := 35) (pc' := 37) (ok_istore C dX4_listValues_35 (by decide)) <| ch_cons (pc := 37) (pc' := 38) (ok_aloadRn C dX4_listValues_37 rfl) <| ch_cons (pc := 38) (pc' := 41) (ok_get C hn (fun w h => kG_in (inG_X4 w h)) (kcl_at hE 5 rfl) (by decide) (kG_in gw_114) (fun _ h => h) dX4_listValues_38) <| ch_cons (pc := 41) (pc' := 42) (ok_iloadn C dX4_listValues_41 rfl) <| ch_cons (pc := 42) (pc' := 44) (ok_iload C dX4_listValues_42) <| ch_cons (pc := 44) (pc' := 46) (ok_iload C dX4_listValues_44) <| ch_cons (pc := 46) (pc' := 49) (ok_callS (d := d) C hout hf hlo (sn_3 hS) rfl (kG_s gw_162 gw_163 gw_164 gw_42) (by decide) (by decide +kernel) dX4_listValues_46) <| ch_cons (pc := 49) (pc' := 50) (ok_aloadRn C dX4_listValues_49 rfl) <| ch_cons (pc := 50) (pc' := 53) (ok_get C hn (fun w h => kG_in (inG_X4 w h)) (kcl_at hE 5 rfl) (by decide) (kG_in gw_115) (fun _ h => h) dX4_listValues_50) <| ch_cons (pc := 53) (pc' := 54) (ok_iloadn C dX4_listValues_53 rfl) <| ch_cons (pc := 54) (pc' := 56) (ok_iload C dX4_listValues_54) <| ch_cons (pc := 56) (pc' := 57) (ok_aloadRn C dX4_listValues_56 rfl) <| ch_cons (pc := 57) (pc' := 60) (ok_get C hn (fun w h => kG_in (inG_X4 w h)) (kcl_at hE 5 rfl) (by decide) (kG_in gw_115) (fun _ h => h) dX4_listValues_57) <| ch_cons (pc := 60) (pc' := 61) (ok_iloadn C dX4_listValues_60 rfl) <| ch_cons (pc := 61) (pc' := 63) (ok_iload C dX4_listValues_61) <| ch_cons (pc := 63) (pc' := 66) (ok_callS (d := d) C hout hf hlo (sn_1 hS) rfl (kG_s gw_168 gw_169 gw_170 gw_42) (by decide) (by decide +kernel) dX4_listValues_63) <| ch_cons (pc := 66) (pc' := 67) (ok_iconst C dX4_listValues_66 (by decide)) <| ch_cons (pc := 67) (pc' := 68) (ok_iadd C dX4_listValues_67) <| ch_cons (pc := 68) (pc' := 71) (ok_callS (d := d) C hout hf hlo (sn_3 hS) rfl (kG_s gw_162 gw_163 gw_164 gw_42) (by decide) (by decide +kernel) dX4_listValues_68) <| ch_cons (pc := 71) (pc' := 74) (ok_iinc C dX4_listValues_71 (by decide) (by decide)) <| ch_last (pc := 74) (ok_goto (tgt := 9) C dX4_listValues_74 (by decide) rfl))
  · exact (ch_last (pc := 77) (ok_return C hr dX4_listValues_77))
/-- Bijectory$Realm.imageCode(III)I -/
def bl_X4_imageCode (tb : List (List Int32)) (cl : kCall) : List (List kOp) := [
  [oLoadI 0, tTab 0 [10, 1, 10, 2, 3, 4, 5, 6, 7, 8, 9] 10],
  [oLoadI 1, oLoadI 2, oCall cl 10 2, tIret],
  [oLoadI 1, oLoadI 2, oCall cl 37 2, tIret],
  [oLoadI 1, oLoadI 2, oCall cl 11 2, tIret],
  [oLoadI 1, oLoadI 2, oCall cl 12 2, tIret],
  [oLoadI 1, oLoadI 2, oS (gPush (.int 0)), oCall cl 38 3, tIret],
  [oLoadI 1, oLoadI 2, oS (gPush (.int 1)), oLoadI 2, oCall cl 22 4, tIret],
  [oLoadI 1, oLoadI 2, oCall cl 23 2, tIret],
  [oLoadI 1, oLoadI 2, oCall cl 24 2, tIret],
  [oLoadI 1, oLoadI 2, oCall cl 25 2, tIret],
  [oLoadI 1, tIret]]
set_option maxRecDepth 100000 in
set_option maxHeartbeats 4000000 in
theorem mok_X4_imageCode {E : kE} {σ : List Nat} {l : Launch} {tb : List (List Int32)} (hE : kcl E = kCl) (hn : kn E = 20) (htb : ktb E = tb) : kMOK E (kXX (kb E) σ) σ kZs l kY kWS yX4_imageCode (kws yX4_imageCode cX4_imageCode 3 (some .int)) cX4_imageCode 3 (some .int) (fun cl => bl_X4_imageCode tb cl) := by
  intro d cl hS p e R s m args below meth c α0 nc0 ns0 res C hf hlo hr hnm hout
  have hXX : kXX (kb E) σ s := C.2.2.2.2.2.2.1.2.2.2.2
  refine ⟨fun b => [0, 60, 66, 72, 78, 84, 91, 99, 105, 111, 117].getD b 0, rfl, kAllB_get (bl := bl_X4_imageCode tb cl) ⟨?_, ?_, ?_, ?_, ?_, ?_, ?_, ?_, ?_, ?_, ?_, trivial⟩⟩
  · exact (ch_cons (pc := 0) (pc' := 1) (ok_iloadn C dX4_imageCode_0 rfl) <| ch_last (pc := 1) (ok_table (td := 117) C dX4_imageCode_1 (by decide) (by decide) (by decide) rfl))
  · exact (ch_cons (pc := 60) (pc' := 61) (ok_iloadn C dX4_imageCode_60 rfl) <| ch_cons (pc := 61) (pc' := 62) (ok_iloadn C dX4_imageCode_61 rfl) <| ch_cons (pc := 62) (pc' := 65) (ok_callSN (d := d) C hout hf hlo (sn_10 hS) rfl (kG_ws gw_10) (kG_in gw_12) (kG_in gw_3) (xw_8 hXX) (by decide) (by decide +kernel) dX4_imageCode_62) <| ch_last (pc := 65) (ok_ireturn C hr dX4_imageCode_65))
  · exact (ch_cons (pc := 66) (pc' := 67) (ok_iloadn C dX4_imageCode_66 rfl) <| ch_cons (pc := 67) (pc' := 68) (ok_iloadn C dX4_imageCode_67 rfl) <| ch_cons (pc := 68) (pc' := 71) (ok_callSN (d := d) C hout hf hlo (sn_37 hS) rfl (kG_ws gw_81) (kG_in gw_83) (kG_in gw_16) (xw_9 hXX) (by decide) (by decide +kernel) dX4_imageCode_68) <| ch_last (pc := 71) (ok_ireturn C hr dX4_imageCode_71))
  · exact (ch_cons (pc := 72) (pc' := 73) (ok_iloadn C dX4_imageCode_72 rfl) <| ch_cons (pc := 73) (pc' := 74) (ok_iloadn C dX4_imageCode_73 rfl) <| ch_cons (pc := 74) (pc' := 77) (ok_callS (d := d) C hout hf hlo (sn_11 hS) rfl (kG_s gw_171 gw_172 gw_173 gw_3) (by decide) (by decide +kernel) dX4_imageCode_74) <| ch_last (pc := 77) (ok_ireturn C hr dX4_imageCode_77))
  · exact (ch_cons (pc := 78) (pc' := 79) (ok_iloadn C dX4_imageCode_78 rfl) <| ch_cons (pc := 79) (pc' := 80) (ok_iloadn C dX4_imageCode_79 rfl) <| ch_cons (pc := 80) (pc' := 83) (ok_callS (d := d) C hout hf hlo (sn_12 hS) rfl (kG_s gw_174 gw_175 gw_176 gw_3) (by decide) (by decide +kernel) dX4_imageCode_80) <| ch_last (pc := 83) (ok_ireturn C hr dX4_imageCode_83))
  · exact (ch_cons (pc := 84) (pc' := 85) (ok_iloadn C dX4_imageCode_84 rfl) <| ch_cons (pc := 85) (pc' := 86) (ok_iloadn C dX4_imageCode_85 rfl) <| ch_cons (pc := 86) (pc' := 87) (ok_iconst C dX4_imageCode_86 (by decide)) <| ch_cons (pc := 87) (pc' := 90) (ok_callSN (d := d) C hout hf hlo (sn_38 hS) rfl (kG_ws gw_88) (kG_in gw_90) (kG_in gw_16) (xw_10 hXX) (by decide) (by decide +kernel) dX4_imageCode_87) <| ch_last (pc := 90) (ok_ireturn C hr dX4_imageCode_90))
  · exact (ch_cons (pc := 91) (pc' := 92) (ok_iloadn C dX4_imageCode_91 rfl) <| ch_cons (pc := 92) (pc' := 93) (ok_iloadn C dX4_imageCode_92 rfl) <| ch_cons (pc := 93) (pc' := 94) (ok_iconst C dX4_imageCode_93 (by decide)) <| ch_cons (pc := 94) (pc' := 95) (ok_iloadn C dX4_imageCode_94 rfl) <| ch_cons (pc := 95) (pc' := 98) (ok_callSN (d := d) C hout hf hlo (sn_22 hS) rfl (kG_ws gw_50) (kG_in gw_52) (kG_in gw_46) (xw_11 hXX) (by decide) (by decide +kernel) dX4_imageCode_95) <| ch_last (pc := 98) (ok_ireturn C hr dX4_imageCode_98))
  · exact (ch_cons (pc := 99) (pc' := 100) (ok_iloadn C dX4_imageCode_99 rfl) <| ch_cons (pc := 100) (pc' := 101) (ok_iloadn C dX4_imageCode_100 rfl) <| ch_cons (pc := 101) (pc' := 104) (ok_callS (d := d) C hout hf hlo (sn_23 hS) rfl (kG_s gw_177 gw_178 gw_179 gw_46) (by decide) (by decide +kernel) dX4_imageCode_101) <| ch_last (pc := 104) (ok_ireturn C hr dX4_imageCode_104))
  · exact (ch_cons (pc := 105) (pc' := 106) (ok_iloadn C dX4_imageCode_105 rfl) <| ch_cons (pc := 106) (pc' := 107) (ok_iloadn C dX4_imageCode_106 rfl) <| ch_cons (pc := 107) (pc' := 110) (ok_callS (d := d) C hout hf hlo (sn_24 hS) rfl (kG_s gw_180 gw_181 gw_182 gw_46) (by decide) (by decide +kernel) dX4_imageCode_107) <| ch_last (pc := 110) (ok_ireturn C hr dX4_imageCode_110))
  · exact (ch_cons (pc := 111) (pc' := 112) (ok_iloadn C dX4_imageCode_111 rfl) <| ch_cons (pc := 112) (pc' := 113) (ok_iloadn C dX4_imageCode_112 rfl) <| ch_cons (pc := 113) (pc' := 116) (ok_callS (d := d) C hout hf hlo (sn_25 hS) rfl (kG_s gw_183 gw_184 gw_185 gw_46) (by decide) (by decide +kernel) dX4_imageCode_113) <| ch_last (pc := 116) (ok_ireturn C hr dX4_imageCode_116))
  · exact (ch_cons (pc := 117) (pc' := 118) (ok_iloadn C dX4_imageCode_117 rfl) <| ch_last (pc := 118) (ok_ireturn C hr dX4_imageCode_118))
/-- Bijectory$Realm.valueByCode(IIII)I -/
def bl_X4_valueByCode (tb : List (List Int32)) (cl : kCall) : List (List kOp) := [
  [oLoadI 0, tLook [(0, 1), (1, 2)] 3],
  [oLoadI 1, oLoadI 2, oLoadI 3, oCall cl 13 3, tIret],
  [oLoadI 1, oLoadI 2, oLoadI 3, oCall cl 39 3, tIret],
  [oLoadI 1, oLoadI 2, oLoadI 3, oCall cl 26 3, tIret]]
set_option maxRecDepth 100000 in
set_option maxHeartbeats 4000000 in
theorem mok_X4_valueByCode {E : kE} {σ : List Nat} {l : Launch} {tb : List (List Int32)} (hE : kcl E = kCl) (hn : kn E = 20) (htb : ktb E = tb) : kMOK E (kXX (kb E) σ) σ kZs l kY kWS yX4_valueByCode (kws yX4_valueByCode cX4_valueByCode 4 (some .int)) cX4_valueByCode 4 (some .int) (fun cl => bl_X4_valueByCode tb cl) := by
  intro d cl hS p e R s m args below meth c α0 nc0 ns0 res C hf hlo hr hnm hout
  have hXX : kXX (kb E) σ s := C.2.2.2.2.2.2.1.2.2.2.2
  refine ⟨fun b => [0, 28, 35, 42].getD b 0, rfl, kAllB_get (bl := bl_X4_valueByCode tb cl) ⟨?_, ?_, ?_, ?_, trivial⟩⟩
  · exact (ch_cons (pc := 0) (pc' := 1) (ok_iloadn C dX4_valueByCode_0 rfl) <| ch_last (pc := 1) (ok_look (td := 42) C dX4_valueByCode_1 (by decide) (by decide) (by decide) rfl))
  · exact (ch_cons (pc := 28) (pc' := 29) (ok_iloadn C dX4_valueByCode_28 rfl) <| ch_cons (pc := 29) (pc' := 30) (ok_iloadn C dX4_valueByCode_29 rfl) <| ch_cons (pc := 30) (pc' := 31) (ok_iloadn C dX4_valueByCode_30 rfl) <| ch_cons (pc := 31) (pc' := 34) (ok_callS (d := d) C hout hf hlo (sn_13 hS) rfl (kG_s gw_186 gw_187 gw_188 gw_3) (by decide) (by decide +kernel) dX4_valueByCode_31) <| ch_last (pc := 34) (ok_ireturn C hr dX4_valueByCode_34))
  · exact (ch_cons (pc := 35) (pc' := 36) (ok_iloadn C dX4_valueByCode_35 rfl) <| ch_cons (pc := 36) (pc' := 37) (ok_iloadn C dX4_valueByCode_36 rfl) <| ch_cons (pc := 37) (pc' := 38) (ok_iloadn C dX4_valueByCode_37 rfl) <| ch_cons (pc := 38) (pc' := 41) (ok_callSN (d := d) C hout hf hlo (sn_39 hS) rfl (kG_ws gw_92) (kG_in gw_94) (kG_in gw_16) (xw_12 hXX) (by decide) (by decide +kernel) dX4_valueByCode_38) <| ch_last (pc := 41) (ok_ireturn C hr dX4_valueByCode_41))
  · exact (ch_cons (pc := 42) (pc' := 43) (ok_iloadn C dX4_valueByCode_42 rfl) <| ch_cons (pc := 43) (pc' := 44) (ok_iloadn C dX4_valueByCode_43 rfl) <| ch_cons (pc := 44) (pc' := 45) (ok_iloadn C dX4_valueByCode_44 rfl) <| ch_cons (pc := 45) (pc' := 48) (ok_callS (d := d) C hout hf hlo (sn_26 hS) rfl (kG_s gw_189 gw_190 gw_191 gw_46) (by decide) (by decide +kernel) dX4_valueByCode_45) <| ch_last (pc := 48) (ok_ireturn C hr dX4_valueByCode_48))
/-- Bijectory$Realm.codes(I)[I -/
def bl_X4_codes (tb : List (List Int32)) (cl : kCall) : List (List kOp) := [
  [oLoadI 1, oS (gPush (.int 2)), tCmp (fun x y => !decide (x = y)) 2 1],
  [oLoadR 0, oGet 20 5 2, tGo 3],
  [oLoadR 0, oGet 20 5 1, tGo 3],
  [tAret]]
set_option maxRecDepth 100000 in
set_option maxHeartbeats 4000000 in
theorem mok_X4_codes {E : kE} {σ : List Nat} {l : Launch} {tb : List (List Int32)} (hE : kcl E = kCl) (hn : kn E = 20) (htb : ktb E = tb) : kMOK E (kXX (kb E) σ) σ kZs l kY kWS yX4_codes (kws yX4_codes cX4_codes 2 (some (.array .int))) cX4_codes 2 (some (.array .int)) (fun cl => bl_X4_codes tb cl) := by
  intro d cl hS p e R s m args below meth c α0 nc0 ns0 res C hf hlo hr hnm hout
  have hXX : kXX (kb E) σ s := C.2.2.2.2.2.2.1.2.2.2.2
  refine ⟨fun b => [0, 5, 12, 16].getD b 0, rfl, kAllB_get (bl := bl_X4_codes tb cl) ⟨?_, ?_, ?_, ?_, trivial⟩⟩
  · exact (ch_cons (pc := 0) (pc' := 1) (ok_iloadn C dX4_codes_0 rfl) <| ch_cons (pc := 1) (pc' := 2) (ok_iconst C dX4_codes_1 (by decide)) <| ch_last (pc := 2) (ok_icmp_ne (tgt := 12) C dX4_codes_2 (by decide) rfl rfl))
  · exact (ch_cons (pc := 5) (pc' := 6) (ok_aloadRn C dX4_codes_5 rfl) <| ch_cons (pc := 6) (pc' := 9) (ok_get C hn (fun w h => kG_in (inG_X4 w h)) (kcl_at hE 5 rfl) (by decide) (kG_in gw_111) (fun _ h => h) dX4_codes_6) <| ch_last (pc := 9) (ok_goto (tgt := 16) C dX4_codes_9 (by decide) rfl))
  · exact (ch_cons (pc := 12) (pc' := 13) (ok_aloadRn C dX4_codes_12 rfl) <| ch_cons (pc := 13) (pc' := 16) (ok_get C hn (fun w h => kG_in (inG_X4 w h)) (kcl_at hE 5 rfl) (by decide) (kG_in gw_110) (fun _ h => h) dX4_codes_13) <| ch_last (pc := 16) (ok_fall rfl))
  · exact (ch_last (pc := 16) (ok_areturn C hr (Or.inr ⟨_, rfl⟩) dX4_codes_16))
/-- Bijectory$Realm.count(I)I -/
def bl_X4_count (tb : List (List Int32)) (cl : kCall) : List (List kOp) := [
  [oLoadR 0, oLoadI 1, oCallV cl 50 1 5 20, oAlen tb, tIret]]
set_option maxRecDepth 100000 in
set_option maxHeartbeats 4000000 in
theorem mok_X4_count {E : kE} {σ : List Nat} {l : Launch} {tb : List (List Int32)} (hE : kcl E = kCl) (hn : kn E = 20) (htb : ktb E = tb) : kMOK E (kXX (kb E) σ) σ kZs l kY kWS yX4_count (kws yX4_count cX4_count 2 (some .int)) cX4_count 2 (some .int) (fun cl => bl_X4_count tb cl) := by
  intro d cl hS p e R s m args below meth c α0 nc0 ns0 res C hf hlo hr hnm hout
  have hXX : kXX (kb E) σ s := C.2.2.2.2.2.2.1.2.2.2.2
  refine ⟨fun b => [0].getD b 0, rfl, kAllB_get (bl := bl_X4_count tb cl) ⟨?_, trivial⟩⟩
  · exact (ch_cons (pc := 0) (pc' := 1) (ok_aloadRn C dX4_count_0 rfl) <| ch_cons (pc := 1) (pc' := 2) (ok_iloadn C dX4_count_1 rfl) <| ch_cons (pc := 2) (pc' := 5) (ok_callV (d := d) (maxL := 2) C hn hout hf hlo (sn_50 hS) rfl (kcl_at hE 5 rfl) (kG_v gw_192 gw_193 gw_194 gw_195 gw_118) (by decide) (by decide +kernel) dX4_count_2) <| ch_cons (pc := 5) (pc' := 6) (ok_alen C htb dX4_count_5) <| ch_last (pc := 6) (ok_ireturn C hr dX4_count_6))
