/-- BijectoryModel.source(II)I -/
def bl_X12_source (tb : List (List Int32)) (cl : kCall) : List (List kOp) := [
  [oLoadR 0, oLoadR 0, oLoadI 1, oCallV cl 144 1 11 20, oS (gPush (.int 1)), oCallV cl 124 2 11 20, tIf (fun x => !decide (x = 0)) 2 1],
  [oLoadR 0, oLoadR 0, oLoadR 0, oLoadI 1, oStuck],
  [oS (gPush (.int 0)), tIret],
  [oLoadR 0, oLoadI 1, oStuck],
  [oLoadI 4, oLoadR 3, oAlen tb, tCmp (fun x y => decide (y ≤ x)) 8 5],
  [oLoadR 3, oLoadI 4, oIald tb, oLoadI 2, tCmp (fun x y => !decide (x = y)) 7 6],
  [oLoadI 4, tIret],
  [oIinc 4 1, tGo 4],
  [oS (gPush (.int (-1))), tIret]]
set_option maxRecDepth 100000 in
set_option maxHeartbeats 4000000 in
theorem mok_X12_source {E : kE} {σ : List Nat} {l : Launch} {tb : List (List Int32)} (hE : kcl E = kCl) (hn : kn E = 20) (htb : ktb E = tb) : kMOK E (kXX (kb E) σ) σ kZs l kY kWS yX12_source (kws yX12_source cX12_source 5 (some .int)) cX12_source 5 (some .int) (fun cl => bl_X12_source tb cl) := by
  intro d cl hS p e R s m args below meth c α0 nc0 ns0 res C hf hlo hr hnm hout
  have hXX : kXX (kb E) σ s := C.2.2.2.2.2.2.1.2.2.2.2
  refine ⟨fun b => [0, 13, 31, 33, 42, 49, 57, 60, 66].getD b 0, rfl, kAllB_get (bl := bl_X12_source tb cl) ⟨?_, ?_, ?_, ?_, ?_, ?_, ?_, ?_, ?_, trivial⟩⟩
  · exact (ch_cons (pc := 0) (pc' := 1) (ok_aloadRn C dX12_source_0 rfl) <| ch_cons (pc := 1) (pc' := 2) (ok_aloadRn C dX12_source_1 rfl) <| ch_cons (pc := 2) (pc' := 3) (ok_iloadn C dX12_source_2 rfl) <| ch_cons (pc := 3) (pc' := 6) (ok_callV (d := d) (maxL := 2) C hn hout hf hlo (sn_144 hS) rfl (kcl_at hE 11 rfl) (kG_v gw_579 gw_580 gw_581 gw_582 gw_506) (by decide) (by decide +kernel) dX12_source_3) <| ch_cons (pc := 6) (pc' := 7) (ok_iconst C dX12_source_6 (by decide)) <| ch_cons (pc := 7) (pc' := 10) (ok_callV (d := d) (maxL := 3) C hn hout hf hlo (sn_124 hS) rfl (kcl_at hE 11 rfl) (kG_v gw_560 gw_561 gw_562 gw_563 gw_506) (by decide) (by decide +kernel) dX12_source_7) <| ch_last (pc := 10) (ok_if_ne (tgt := 31) C dX12_source_10 (by decide) rfl rfl))
  · exact (ch_cons (pc := 13) (pc' := 14) (ok_aloadRn C dX12_source_13 rfl) <| ch_cons (pc := 14) (pc' := 15) (ok_aloadRn C dX12_source_14 rfl) <| ch_cons (pc := 15) (pc' := 16) (ok_aloadRn C dX12_source_15 rfl) <| ch_cons (pc := 16) (pc' := 17) (ok_iloadn C dX12_source_16 rfl) <| ch_last (pc := 17) (ok_stuck))
  · exact (ch_cons (pc := 31) (pc' := 32) (ok_iconst C dX12_source_31 (by decide)) <| ch_last (pc := 32) (ok_ireturn C hr dX12_source_32))
  · exact (ch_cons (pc := 33) (pc' := 34) (ok_aloadRn C dX12_source_33 rfl) <| ch_cons (pc := 34) (pc' := 35) (ok_iloadn C dX12_source_34 rfl) <| ch_last (pc := 35) (ok_stuck))
  · exact (ch_cons (pc := 42) (pc' := 44) (ok_iload C dX12_source_42) <| ch_cons (pc := 44) (pc' := 45) (ok_aloadRn C dX12_source_44 rfl) <| ch_cons (pc := 45) (pc' := 46) (ok_alen C htb dX12_source_45) <| ch_last (pc := 46) (ok_icmp_ge (tgt := 66) C dX12_source_46 (by decide) rfl rfl))
  · exact (ch_cons (pc := 49) (pc' := 50) (ok_aloadRn C dX12_source_49 rfl) <| ch_cons (pc := 50) (pc' := 52) (ok_iload C dX12_source_50) <| ch_cons (pc := 52) (pc' := 53) (ok_iaload C htb dX12_source_52) <| ch_cons (pc := 53) (pc' := 54) (ok_iloadn C dX12_source_53 rfl) <| ch_last (pc := 54) (ok_icmp_ne (tgt := 60) C dX12_source_54 (by decide) rfl rfl))
  · exact (ch_cons (pc := 57) (pc' := 59) (ok_iload C dX12_source_57) <| ch_last (pc := 59) (ok_ireturn C hr dX12_source_59))
  · exact (ch_cons (pc := 60) (pc' := 63) (ok_iinc C dX12_source_60 (by decide) (by decide)) <| ch_last (pc := 63) (ok_goto (tgt := 42) C dX12_source_63 (by decide) rfl))
  · exact (ch_cons (pc := 66) (pc' := 67) (ok_iconst C dX12_source_66 (by decide)) <| ch_last (pc := 67) (ok_ireturn C hr dX12_source_67))
/-- BijectoryModel.rounds(I)I -/
def bl_X12_rounds_ (tb : List (List Int32)) (cl : kCall) : List (List kOp) := [
  [oLoadR 0, oLoadR 0, oLoadI 1, oCallV cl 144 1 11 20, oS (gPush (.int 1)), oCallV cl 124 2 11 20, tIf (fun x => decide (x = 0)) 2 1],
  [oS (gPush (.int 0)), tGo 3],
  [oLoadR 0, oLoadI 1, oS (gPush (.int 0)), oLoadR 0, oLoadI 1, oStuck],
  [tIret]]
set_option maxRecDepth 100000 in
set_option maxHeartbeats 4000000 in
theorem mok_X12_rounds_ {E : kE} {σ : List Nat} {l : Launch} {tb : List (List Int32)} (hE : kcl E = kCl) (hn : kn E = 20) (htb : ktb E = tb) : kMOK E (kXX (kb E) σ) σ kZs l kY kWS yX12_rounds_ (kws yX12_rounds_ cX12_rounds_ 2 (some .int)) cX12_rounds_ 2 (some .int) (fun cl => bl_X12_rounds_ tb cl) := by
  intro d cl hS p e R s m args below meth c α0 nc0 ns0 res C hf hlo hr hnm hout
  have hXX : kXX (kb E) σ s := C.2.2.2.2.2.2.1.2.2.2.2
  refine ⟨fun b => [0, 13, 17, 29].getD b 0, rfl, kAllB_get (bl := bl_X12_rounds_ tb cl) ⟨?_, ?_, ?_, ?_, trivial⟩⟩
  · exact (ch_cons (pc := 0) (pc' := 1) (ok_aloadRn C dX12_rounds__0 rfl) <| ch_cons (pc := 1) (pc' := 2) (ok_aloadRn C dX12_rounds__1 rfl) <| ch_cons (pc := 2) (pc' := 3) (ok_iloadn C dX12_rounds__2 rfl) <| ch_cons (pc := 3) (pc' := 6) (ok_callV (d := d) (maxL := 2) C hn hout hf hlo (sn_144 hS) rfl (kcl_at hE 11 rfl) (kG_v gw_579 gw_580 gw_581 gw_582 gw_506) (by decide) (by decide +kernel) dX12_rounds__3) <| ch_cons (pc := 6) (pc' := 7) (ok_iconst C dX12_rounds__6 (by decide)) <| ch_cons (pc := 7) (pc' := 10) (ok_callV (d := d) (maxL := 3) C hn hout hf hlo (sn_124 hS) rfl (kcl_at hE 11 rfl) (kG_v gw_560 gw_561 gw_562 gw_563 gw_506) (by decide) (by decide +kernel) dX12_rounds__7) <| ch_last (pc := 10) (ok_if_eq (tgt := 17) C dX12_rounds__10 (by decide) rfl rfl))
  · exact (ch_cons (pc := 13) (pc' := 14) (ok_iconst C dX12_rounds__13 (by decide)) <| ch_last (pc := 14) (ok_goto (tgt := 29) C dX12_rounds__14 (by decide) rfl))
  · exact (ch_cons (pc := 17) (pc' := 18) (ok_aloadRn C dX12_rounds__17 rfl) <| ch_cons (pc := 18) (pc' := 19) (ok_iloadn C dX12_rounds__18 rfl) <| ch_cons (pc := 19) (pc' := 20) (ok_iconst C dX12_rounds__19 (by decide)) <| ch_cons (pc := 20) (pc' := 21) (ok_aloadRn C dX12_rounds__20 rfl) <| ch_cons (pc := 21) (pc' := 22) (ok_iloadn C dX12_rounds__21 rfl) <| ch_last (pc := 22) (ok_stuck))
  · exact (ch_last (pc := 29) (ok_ireturn C hr dX12_rounds__29))
/-- BijectoryModel.period(I)J -/
def bl_X12_period (tb : List (List Int32)) (cl : kCall) : List (List kOp) := [
  [oLoadR 0, oLoadR 0, oLoadI 1, oCallV cl 144 1 11 20, oS (gPush (.int 1)), oCallV cl 124 2 11 20, tIf (fun x => decide (x = 0)) 2 1],
  [oS (gPush (.long 0)), tGo 3],
  [oLoadR 0, oLoadI 1, oS (gPush (.int 1)), oLoadR 0, oLoadI 1, oStuck],
  [tLret]]
set_option maxRecDepth 100000 in
set_option maxHeartbeats 4000000 in
theorem mok_X12_period {E : kE} {σ : List Nat} {l : Launch} {tb : List (List Int32)} (hE : kcl E = kCl) (hn : kn E = 20) (htb : ktb E = tb) : kMOK E (kXX (kb E) σ) σ kZs l kY kWS yX12_period (kws yX12_period cX12_period 2 (some .long)) cX12_period 2 (some .long) (fun cl => bl_X12_period tb cl) := by
  intro d cl hS p e R s m args below meth c α0 nc0 ns0 res C hf hlo hr hnm hout
  have hXX : kXX (kb E) σ s := C.2.2.2.2.2.2.1.2.2.2.2
  refine ⟨fun b => [0, 13, 17, 28].getD b 0, rfl, kAllB_get (bl := bl_X12_period tb cl) ⟨?_, ?_, ?_, ?_, trivial⟩⟩
  · exact (ch_cons (pc := 0) (pc' := 1) (ok_aloadRn C dX12_period_0 rfl) <| ch_cons (pc := 1) (pc' := 2) (ok_aloadRn C dX12_period_1 rfl) <| ch_cons (pc := 2) (pc' := 3) (ok_iloadn C dX12_period_2 rfl) <| ch_cons (pc := 3) (pc' := 6) (ok_callV (d := d) (maxL := 2) C hn hout hf hlo (sn_144 hS) rfl (kcl_at hE 11 rfl) (kG_v gw_579 gw_580 gw_581 gw_582 gw_506) (by decide) (by decide +kernel) dX12_period_3) <| ch_cons (pc := 6) (pc' := 7) (ok_iconst C dX12_period_6 (by decide)) <| ch_cons (pc := 7) (pc' := 10) (ok_callV (d := d) (maxL := 3) C hn hout hf hlo (sn_124 hS) rfl (kcl_at hE 11 rfl) (kG_v gw_560 gw_561 gw_562 gw_563 gw_506) (by decide) (by decide +kernel) dX12_period_7) <| ch_last (pc := 10) (ok_if_eq (tgt := 17) C dX12_period_10 (by decide) rfl rfl))
  · exact (ch_cons (pc := 13) (pc' := 14) (ok_lconst C dX12_period_13 (by decide)) <| ch_last (pc := 14) (ok_goto (tgt := 28) C dX12_period_14 (by decide) rfl))
  · exact (ch_cons (pc := 17) (pc' := 18) (ok_aloadRn C dX12_period_17 rfl) <| ch_cons (pc := 18) (pc' := 19) (ok_iloadn C dX12_period_18 rfl) <| ch_cons (pc := 19) (pc' := 20) (ok_iconst C dX12_period_19 (by decide)) <| ch_cons (pc := 20) (pc' := 21) (ok_aloadRn C dX12_period_20 rfl) <| ch_cons (pc := 21) (pc' := 22) (ok_iloadn C dX12_period_21 rfl) <| ch_last (pc := 22) (ok_stuck))
  · exact (ch_last (pc := 28) (ok_lreturn C hr dX12_period_28))
/-- BijectoryModel.against(III)I -/
def bl_X12_against (tb : List (List Int32)) (cl : kCall) : List (List kOp) := [
  [oLoadR 0, oLoadR 0, oLoadI 1, oCallV cl 144 1 11 20, oS (gPush (.int 1)), oCallV cl 124 2 11 20, tIf (fun x => !decide (x = 0)) 6 1],
  [oLoadR 0, oLoadI 2, oCall cl 147 1, tIf (fun x => !decide (x = 0)) 3 2],
  [oLoadI 3, oCall cl 147 1, tIf (fun x => decide (x = 0)) 4 3],
  [oS (gPush (.int 1)), tGo 5],
  [oS (gPush (.int 0)), tGo 5],
  [oS (gPush (.int 2)), oCallV cl 123 2 11 20, tIf (fun x => decide (x = 0)) 7 6],
  [oS (gPush (.int 0)), tGo 8],
  [oLoadR 0, oLoadI 1, oLoadI 2, oLoadI 3, oStuck],
  [tIret]]
set_option maxRecDepth 100000 in
set_option maxHeartbeats 4000000 in
theorem mok_X12_against {E : kE} {σ : List Nat} {l : Launch} {tb : List (List Int32)} (hE : kcl E = kCl) (hn : kn E = 20) (htb : ktb E = tb) : kMOK E (kXX (kb E) σ) σ kZs l kY kWS yX12_against (kws yX12_against cX12_against 4 (some .int)) cX12_against 4 (some .int) (fun cl => bl_X12_against tb cl) := by
  intro d cl hS p e R s m args below meth c α0 nc0 ns0 res C hf hlo hr hnm hout
  have hXX : kXX (kb E) σ s := C.2.2.2.2.2.2.1.2.2.2.2
  refine ⟨fun b => [0, 13, 21, 28, 32, 33, 40, 44, 51].getD b 0, rfl, kAllB_get (bl := bl_X12_against tb cl) ⟨?_, ?_, ?_, ?_, ?_, ?_, ?_, ?_, ?_, trivial⟩⟩
  · exact (ch_cons (pc := 0) (pc' := 1) (ok_aloadRn C dX12_against_0 rfl) <| ch_cons (pc := 1) (pc' := 2) (ok_aloadRn C dX12_against_1 rfl) <| ch_cons (pc := 2) (pc' := 3) (ok_iloadn C dX12_against_2 rfl) <| ch_cons (pc := 3) (pc' := 6) (ok_callV (d := d) (maxL := 2) C hn hout hf hlo (sn_144 hS) rfl (kcl_at hE 11 rfl) (kG_v gw_579 gw_580 gw_581 gw_582 gw_506) (by decide) (by decide +kernel) dX12_against_3) <| ch_cons (pc := 6) (pc' := 7) (ok_iconst C dX12_against_6 (by decide)) <| ch_cons (pc := 7) (pc' := 10) (ok_callV (d := d) (maxL := 3) C hn hout hf hlo (sn_124 hS) rfl (kcl_at hE 11 rfl) (kG_v gw_560 gw_561 gw_562 gw_563 gw_506) (by decide) (by decide +kernel) dX12_against_7) <| ch_last (pc := 10) (ok_if_ne (tgt := 40) C dX12_against_10 (by decide) rfl rfl))
  · exact (ch_cons (pc := 13) (pc' := 14) (ok_aloadRn C dX12_against_13 rfl) <| ch_cons (pc := 14) (pc' := 15) (ok_iloadn C dX12_against_14 rfl) <| ch_cons (pc := 15) (pc' := 18) (ok_callS (d := d) C hout hf hlo (sn_147 hS) rfl (kG_s gw_597 gw_598 gw_599 gw_506) (by decide) (by decide +kernel) dX12_against_15) <| ch_last (pc := 18) (ok_if_ne (tgt := 28) C dX12_against_18 (by decide) rfl rfl))
  · exact (ch_cons (pc := 21) (pc' := 22) (ok_iloadn C dX12_against_21 rfl) <| ch_cons (pc := 22) (pc' := 25) (ok_callS (d := d) C hout hf hlo (sn_147 hS) rfl (kG_s gw_597 gw_598 gw_599 gw_506) (by decide) (by decide +kernel) dX12_against_22) <| ch_last (pc := 25) (ok_if_eq (tgt := 32) C dX12_against_25 (by decide) rfl rfl))
  · exact (ch_cons (pc := 28) (pc' := 29) (ok_iconst C dX12_against_28 (by decide)) <| ch_last (pc := 29) (ok_goto (tgt := 33) C dX12_against_29 (by decide) rfl))
  · exact (ch_cons (pc := 32) (pc' := 33) (ok_iconst C dX12_against_32 (by decide)) <| ch_last (pc := 33) (ok_fall rfl))
  · exact (ch_cons (pc := 33) (pc' := 34) (ok_iconst C dX12_against_33 (by decide)) <| ch_cons (pc := 34) (pc' := 37) (ok_callV (d := d) (maxL := 3) C hn hout hf hlo (sn_123 hS) rfl (kcl_at hE 11 rfl) (kG_v gw_508 gw_509 gw_510 gw_511 gw_506) (by decide) (by decide +kernel) dX12_against_34) <| ch_last (pc := 37) (ok_if_eq (tgt := 44) C dX12_against_37 (by decide) rfl rfl))
  · exact (ch_cons (pc := 40) (pc' := 41) (ok_iconst C dX12_against_40 (by decide)) <| ch_last (pc := 41) (ok_goto (tgt := 51) C dX12_against_41 (by decide) rfl))
  · exact (ch_cons (pc := 44) (pc' := 45) (ok_aloadRn C dX12_against_44 rfl) <| ch_cons (pc := 45) (pc' := 46) (ok_iloadn C dX12_against_45 rfl) <| ch_cons (pc := 46) (pc' := 47) (ok_iloadn C dX12_against_46 rfl) <| ch_cons (pc := 47) (pc' := 48) (ok_iloadn C dX12_against_47 rfl) <| ch_last (pc := 48) (ok_stuck))
  · exact (ch_last (pc := 51) (ok_ireturn C hr dX12_against_51))
/-- BijectoryModel.cancels(II)Z -/
def bl_X12_cancels (tb : List (List Int32)) (cl : kCall) : List (List kOp) := [
  [oLoadR 0, oLoadR 0, oLoadI 1, oCallV cl 144 1 11 20, oS (gPush (.int 1)), oCallV cl 124 2 11 20, tIf (fun x => !decide (x = 0)) 3 1],
  [oLoadR 0, oLoadI 2, oCall cl 147 1, oS (gPush (.int 2)), oCallV cl 123 2 11 20, tIf (fun x => !decide (x = 0)) 3 2],
  [oLoadR 0, oLoadI 1, oStuck],
  [oS (gPush (.int 0)), tZret],
  [oLoadR 0, oLoadI 1, oStuck],
  [oLoadI 5, oLoadR 3, oAlen tb, tCmp (fun x y => decide (y ≤ x)) 11 6],
  [oLoadR 3, oLoadR 3, oLoadI 5, oIald tb, oIald tb, oLoadI 5, tCmp (fun x y => !decide (x = y)) 9 7],
  [oLoadR 3, oLoadI 5, oIald tb, oLoadI 5, tCmp (fun x y => decide (x = y)) 10 8],
  [oLoadR 4, oLoadI 5, oIald tb, oCall cl 141 1, oLoadR 4, oLoadR 3, oLoadI 5, oIald tb, oIald tb, oCall cl 141 1, tCmp (fun x y => !decide (x = y)) 10 9],
  [oS (gPush (.int 0)), tZret],
  [oIinc 5 1, tGo 5],
  [oS (gPush (.int 1)), tZret]]
set_option maxRecDepth 100000 in
set_option maxHeartbeats 4000000 in
theorem mok_X12_cancels {E : kE} {σ : List Nat} {l : Launch} {tb : List (List Int32)} (hE : kcl E = kCl) (hn : kn E = 20) (htb : ktb E = tb) : kMOK E (kXX (kb E) σ) σ kZs l kY kWS yX12_cancels (kws yX12_cancels cX12_cancels 6 (some .boolean)) cX12_cancels 6 (some .boolean) (fun cl => bl_X12_cancels tb cl) := by
  intro d cl hS p e R s m args below meth c α0 nc0 ns0 res C hf hlo hr hnm hout
  have hXX : kXX (kb E) σ s := C.2.2.2.2.2.2.1.2.2.2.2
  refine ⟨fun b => [0, 13, 25, 33, 35, 56, 63, 74, 83, 104, 106, 112].getD b 0, rfl, kAllB_get (bl := bl_X12_cancels tb cl) ⟨?_, ?_, ?_, ?_, ?_, ?_, ?_, ?_, ?_, ?_, ?_, ?_, trivial⟩⟩
  · exact (ch_cons (pc := 0) (pc' := 1) (ok_aloadRn C dX12_cancels_0 rfl) <| ch_cons (pc := 1) (pc' := 2) (ok_aloadRn C dX12_cancels_1 rfl) <| ch_cons (pc := 2) (pc' := 3) (ok_iloadn C dX12_cancels_2 rfl) <| ch_cons (pc := 3) (pc' := 6) (ok_callV (d := d) (maxL := 2) C hn hout hf hlo (sn_144 hS) rfl (kcl_at hE 11 rfl) (kG_v gw_579 gw_580 gw_581 gw_582 gw_506) (by decide) (by decide +kernel) dX12_cancels_3) <| ch_cons (pc := 6) (pc' := 7) (ok_iconst C dX12_cancels_6 (by decide)) <| ch_cons (pc := 7) (pc' := 10) (ok_callV (d := d) (maxL := 3) C hn hout hf hlo (sn_124 hS) rfl (kcl_at hE 11 rfl) (kG_v gw_560 gw_561 gw_562 gw_563 gw_506) (by decide) (by decide +kernel) dX12_cancels_7) <| ch_last (pc := 10) (ok_if_ne (tgt := 33) C dX12_cancels_10 (by decide) rfl rfl))
  · exact (ch_cons (pc := 13) (pc' := 14) (ok_aloadRn C dX12_cancels_13 rfl) <| ch_cons (pc := 14) (pc' := 15) (ok_iloadn C dX12_cancels_14 rfl) <| ch_cons (pc := 15) (pc' := 18) (ok_callS (d := d) C hout hf hlo (sn_147 hS) rfl (kG_s gw_597 gw_598 gw_599 gw_506) (by decide) (by decide +kernel) dX12_cancels_15) <| ch_cons (pc := 18) (pc' := 19) (ok_iconst C dX12_cancels_18 (by decide)) <| ch_cons (pc := 19) (pc' := 22) (ok_callV (d := d) (maxL := 3) C hn hout hf hlo (sn_123 hS) rfl (kcl_at hE 11 rfl) (kG_v gw_508 gw_509 gw_510 gw_511 gw_506) (by decide) (by decide +kernel) dX12_cancels_19) <| ch_last (pc := 22) (ok_if_ne (tgt := 33) C dX12_cancels_22 (by decide) rfl rfl))
  · exact (ch_cons (pc := 25) (pc' := 26) (ok_aloadRn C dX12_cancels_25 rfl) <| ch_cons (pc := 26) (pc' := 27) (ok_iloadn C dX12_cancels_26 rfl) <| ch_last (pc := 27) (ok_stuck))
  · exact (ch_cons (pc := 33) (pc' := 34) (ok_iconst C dX12_cancels_33 (by decide)) <| ch_last (pc := 34) (ok_zreturn C hr dX12_cancels_34))
  · exact (ch_cons (pc := 35) (pc' := 36) (ok_aloadRn C dX12_cancels_35 rfl) <| ch_cons (pc := 36) (pc' := 37) (ok_iloadn C dX12_cancels_36 rfl) <| ch_last (pc := 37) (ok_stuck))
  · exact (ch_cons (pc := 56) (pc' := 58) (ok_iload C dX12_cancels_56) <| ch_cons (pc := 58) (pc' := 59) (ok_aloadRn C dX12_cancels_58 rfl) <| ch_cons (pc := 59) (pc' := 60) (ok_alen C htb dX12_cancels_59) <| ch_last (pc := 60) (ok_icmp_ge (tgt := 112) C dX12_cancels_60 (by decide) rfl rfl))
  · exact (ch_cons (pc := 63) (pc' := 64) (ok_aloadRn C dX12_cancels_63 rfl) <| ch_cons (pc := 64) (pc' := 65) (ok_aloadRn C dX12_cancels_64 rfl) <| ch_cons (pc := 65) (pc' := 67) (ok_iload C dX12_cancels_65) <| ch_cons (pc := 67) (pc' := 68) (ok_iaload C htb dX12_cancels_67) <| ch_cons (pc := 68) (pc' := 69) (ok_iaload C htb dX12_cancels_68) <| ch_cons (pc := 69) (pc' := 71) (ok_iload C dX12_cancels_69) <| ch_last (pc := 71) (ok_icmp_ne (tgt := 104) C dX12_cancels_71 (by decide) rfl rfl))
  · exact (ch_cons (pc := 74) (pc' := 75) (ok_aloadRn C dX12_cancels_74 rfl) <| ch_cons (pc := 75) (pc' := 77) (ok_iload C dX12_cancels_75) <| ch_cons (pc := 77) (pc' := 78) (ok_iaload C htb dX12_cancels_77) <| ch_cons (pc := 78) (pc' := 80) (ok_iload C dX12_cancels_78) <| ch_last (pc := 80) (ok_icmp_eq (tgt := 106) C dX12_cancels_80 (by decide) rfl rfl))
  · exact (ch_cons (pc := 83) (pc' := 85) (ok_aloadR C dX12_cancels_83) <| ch_cons (pc := 85) (pc' := 87) (ok_iload C dX12_cancels_85) <| ch_cons (pc := 87) (pc' := 88) (ok_iaload C htb dX12_cancels_87) <| ch_cons (pc := 88) (pc' := 91) (ok_callS (d := d) C hout hf hlo (sn_141 hS) rfl (kG_s gw_614 gw_615 gw_616 gw_506) (by decide) (by decide +kernel) dX12_cancels_88) <| ch_cons (pc := 91) (pc' := 93) (ok_aloadR C dX12_cancels_91) <| ch_cons (pc := 93) (pc' := 94) (ok_aloadRn C dX12_cancels_93 rfl) <| ch_cons (pc := 94) (pc' := 96) (ok_iload C dX12_cancels_94) <| ch_cons (pc := 96) (pc' := 97) (ok_iaload C htb dX12_cancels_96) <| ch_cons (pc := 97) (pc' := 98) (ok_iaload C htb dX12_cancels_97) <| ch_cons (pc := 98) (pc' := 101) (ok_callS (d := d) C hout hf hlo (sn_141 hS) rfl (kG_s gw_614 gw_615 gw_616 gw_506) (by decide) (by decide +kernel) dX12_cancels_98) <| ch_last (pc := 101) (ok_icmp_ne (tgt := 106) C dX12_cancels_101 (by decide) rfl rfl))
  · exact (ch_cons (pc := 104) (pc' := 105) (ok_iconst C dX12_cancels_104 (by decide)) <| ch_last (pc := 105) (ok_zreturn C hr dX12_cancels_105))
  · exact (ch_cons (pc := 106) (pc' := 109) (ok_iinc C dX12_cancels_106 (by decide) (by decide)) <| ch_last (pc := 109) (ok_goto (tgt := 56) C dX12_cancels_109 (by decide) rfl))
  · exact (ch_cons (pc := 112) (pc' := 113) (ok_iconst C dX12_cancels_112 (by decide)) <| ch_last (pc := 113) (ok_zreturn C hr dX12_cancels_113))
/-- BijectoryModel.ofWalker(II)I -/
def bl_X12_ofWalker (tb : List (List Int32)) (cl : kCall) : List (List kOp) := [
  [oLoadR 0, oLoadI 1, oS (gPush (.int 0)), oLoadR 0, oGet 20 11 4, oCallV cl 188 0 2 20, oS (gPush (.int 1)), oBin (fun x y => x - y), oCall cl 120 3, tIf (fun x => !decide (x = 0)) 2 1],
  [oS (gPush (.int 1)), tGo 3],
  [oS (gPush (.int 0)), tGo 3],
  [oS (gPush (.int 1)), oCallV cl 124 2 11 20, tIf (fun x => !decide (x = 0)) 8 4],
  [oLoadR 0, oLoadI 2, oS (gPush (.int 0)), oS (gPush (.int 4)), oCall cl 120 3, tIf (fun x => !decide (x = 0)) 6 5],
  [oS (gPush (.int 1)), tGo 7],
  [oS (gPush (.int 0)), tGo 7],
  [oS (gPush (.int 2)), oCallV cl 123 2 11 20, tIf (fun x => decide (x = 0)) 9 8],
  [oS (gPush (.int 0)), tGo 10],
  [oLoadR 0, oLoadR 0, oGet 20 11 4, oLoadI 1, oStuck],
  [tIret]]
set_option maxRecDepth 100000 in
set_option maxHeartbeats 4000000 in
theorem mok_X12_ofWalker {E : kE} {σ : List Nat} {l : Launch} {tb : List (List Int32)} (hE : kcl E = kCl) (hn : kn E = 20) (htb : ktb E = tb) : kMOK E (kXX (kb E) σ) σ kZs l kY kWS yX12_ofWalker (kws yX12_ofWalker cX12_ofWalker 3 (some .int)) cX12_ofWalker 3 (some .int) (fun cl => bl_X12_ofWalker tb cl) := by
  intro d cl hS p e R s m args below meth c α0 nc0 ns0 res C hf hlo hr hnm hout
  have hXX : kXX (kb E) σ s := C.2.2.2.2.2.2.1.2.2.2.2
  refine ⟨fun b => [0, 18, 22, 23, 30, 40, 44, 45, 52, 56, 72].getD b 0, rfl, kAllB_get (bl := bl_X12_ofWalker tb cl) ⟨?_, ?_, ?_, ?_, ?_, ?_, ?_, ?_, ?_, ?_, ?_, trivial⟩⟩
  · exact (ch_cons (pc := 0) (pc' := 1) (ok_aloadRn C dX12_ofWalker_0 rfl) <| ch_cons (pc := 1) (pc' := 2) (ok_iloadn C dX12_ofWalker_1 rfl) <| ch_cons (pc := 2) (pc' := 3) (ok_iconst C dX12_ofWalker_2 (by decide)) <| ch_cons (pc := 3) (pc' := 4) (ok_aloadRn C dX12_ofWalker_3 rfl) <| ch_cons (pc := 4) (pc' := 7) (ok_get C hn (fun w h => kG_in (inG_X12 w h)) (kcl_at hE 11 rfl) (by decide) (kG_in gw_497) (fun _ h => h) dX12_ofWalker_4) <| ch_cons (pc := 7) (pc' := 10) (ok_callV (d := d) (maxL := 1) C hn hout hf hlo (sn_188 hS) rfl (kcl_at hE 2 rfl) (kG_v gw_564 gw_565 gw_566 gw_567 gw_492) (by decide) (by decide +kernel) dX12_ofWalker_7) <| ch_cons (pc := 10) (pc' := 11) (ok_iconst C dX12_ofWalker_10 (by decide)) <| ch_cons (pc := 11) (pc' := 12) (ok_isub C dX12_ofWalker_11) <| ch_cons (pc := 12) (pc' := 15) (ok_callS (d := d) C hout hf hlo (sn_120 hS) rfl (kG_s gw_557 gw_558 gw_559 gw_506) (by decide) (by decide +kernel) dX12_ofWalker_12) <| ch_last (pc := 15) (ok_if_ne (tgt := 22) C dX12_ofWalker_15 (by decide) rfl rfl))
  · exact (ch_cons (pc := 18) (pc' := 19) (ok_iconst C dX12_ofWalker_18 (by decide)) <| ch_last (pc := 19) (ok_goto (tgt := 23) C dX12_ofWalker_19 (by decide) rfl))
  · exact (ch_cons (pc := 22) (pc' := 23) (ok_iconst C dX12_ofWalker_22 (by decide)) <| ch_last (pc := 23) (ok_fall rfl))
  · exact (ch_cons (pc := 23) (pc' := 24) (ok_iconst C dX12_ofWalker_23 (by decide)) <| ch_cons (pc := 24) (pc' := 27) (ok_callV (d := d) (maxL := 3) C hn hout hf hlo (sn_124 hS) rfl (kcl_at hE 11 rfl) (kG_v gw_560 gw_561 gw_562 gw_563 gw_506) (by decide) (by decide +kernel) dX12_ofWalker_24) <| ch_last (pc := 27) (ok_if_ne (tgt := 52) C dX12_ofWalker_27 (by decide) rfl rfl))
  · exact (ch_cons (pc := 30) (pc' := 31) (ok_aloadRn C dX12_ofWalker_30 rfl) <| ch_cons (pc := 31) (pc' := 32) (ok_iloadn C dX12_ofWalker_31 rfl) <| ch_cons (pc := 32) (pc' := 33) (ok_iconst C dX12_ofWalker_32 (by decide)) <| ch_cons (pc := 33) (pc' := 34) (ok_iconst C dX12_ofWalker_33 (by decide)) <| ch_cons (pc := 34) (pc' := 37) (ok_callS (d := d) C hout hf hlo (sn_120 hS) rfl (kG_s gw_557 gw_558 gw_559 gw_506) (by decide) (by decide +kernel) dX12_ofWalker_34) <| ch_last (pc := 37) (ok_if_ne (tgt := 44) C dX12_ofWalker_37 (by decide) rfl rfl))
  · exact (ch_cons (pc := 40) (pc' := 41) (ok_iconst C dX12_ofWalker_40 (by decide)) <| ch_last (pc := 41) (ok_goto (tgt := 45) C dX12_ofWalker_41 (by decide) rfl))
  · exact (ch_cons (pc := 44) (pc' := 45) (ok_iconst C dX12_ofWalker_44 (by decide)) <| ch_last (pc := 45) (ok_fall rfl))
  · exact (ch_cons (pc := 45) (pc' := 46) (ok_iconst C dX12_ofWalker_45 (by decide)) <| ch_cons (pc := 46) (pc' := 49) (ok_callV (d := d) (maxL := 3) C hn hout hf hlo (sn_123 hS) rfl (kcl_at hE 11 rfl) (kG_v gw_508 gw_509 gw_510 gw_511 gw_506) (by decide) (by decide +kernel) dX12_ofWalker_46) <| ch_last (pc := 49) (ok_if_eq (tgt := 56) C dX12_ofWalker_49 (by decide) rfl rfl))
  · exact (ch_cons (pc := 52) (pc' := 53) (ok_iconst C dX12_ofWalker_52 (by decide)) <| ch_last (pc := 53) (ok_goto (tgt := 72) C dX12_ofWalker_53 (by decide) rfl))
  · exact (ch_cons (pc := 56) (pc' := 57) (ok_aloadRn C dX12_ofWalker_56 rfl) <| ch_cons (pc := 57) (pc' := 58) (ok_aloadRn C dX12_ofWalker_57 rfl) <| ch_cons (pc := 58) (pc' := 61) (ok_get C hn (fun w h => kG_in (inG_X12 w h)) (kcl_at hE 11 rfl) (by decide) (kG_in gw_497) (fun _ h => h) dX12_ofWalker_58) <| ch_cons (pc := 61) (pc' := 62) (ok_iloadn C dX12_ofWalker_61 rfl) <| ch_last (pc := 62) (ok_stuck))
  · exact (ch_last (pc := 72) (ok_ireturn C hr dX12_ofWalker_72))
/-- BijectoryModel.ofClaim(II)I -/
def bl_X12_ofClaim (tb : List (List Int32)) (cl : kCall) : List (List kOp) := [
  [oLoadR 0, oLoadI 1, oS (gPush (.int 0)), oLoadR 0, oGet 20 11 5, oCallV cl 188 0 2 20, oS (gPush (.int 1)), oBin (fun x y => x - y), oCall cl 120 3, tIf (fun x => !decide (x = 0)) 2 1],
  [oS (gPush (.int 1)), tGo 3],
  [oS (gPush (.int 0)), tGo 3],
  [oS (gPush (.int 1)), oCallV cl 124 2 11 20, tIf (fun x => !decide (x = 0)) 8 4],
  [oLoadR 0, oLoadI 2, oS (gPush (.int 0)), oS (gPush (.int 4)), oCall cl 120 3, tIf (fun x => !decide (x = 0)) 6 5],
  [oS (gPush (.int 1)), tGo 7],
  [oS (gPush (.int 0)), tGo 7],
  [oS (gPush (.int 2)), oCallV cl 123 2 11 20, tIf (fun x => decide (x = 0)) 9 8],
  [oS (gPush (.int 0)), tGo 10],
  [oLoadR 0, oLoadR 0, oGet 20 11 5, oLoadI 1, oStuck],
  [tIret]]
set_option maxRecDepth 100000 in
set_option maxHeartbeats 4000000 in
theorem mok_X12_ofClaim {E : kE} {σ : List Nat} {l : Launch} {tb : List (List Int32)} (hE : kcl E = kCl) (hn : kn E = 20) (htb : ktb E = tb) : kMOK E (kXX (kb E) σ) σ kZs l kY kWS yX12_ofClaim (kws yX12_ofClaim cX12_ofClaim 3 (some .int)) cX12_ofClaim 3 (some .int) (fun cl => bl_X12_ofClaim tb cl) := by
  intro d cl hS p e R s m args below meth c α0 nc0 ns0 res C hf hlo hr hnm hout
  have hXX : kXX (kb E) σ s := C.2.2.2.2.2.2.1.2.2.2.2
  refine ⟨fun b => [0, 18, 22, 23, 30, 40, 44, 45, 52, 56, 72].getD b 0, rfl, kAllB_get (bl := bl_X12_ofClaim tb cl) ⟨?_, ?_, ?_, ?_, ?_, ?_, ?_, ?_, ?_, ?_, ?_, trivial⟩⟩
  · exact (ch_cons (pc := 0) (pc' := 1) (ok_aloadRn C dX12_ofClaim_0 rfl) <| ch_cons (pc := 1) (pc' := 2) (ok_iloadn C dX12_ofClaim_1 rfl) <| ch_cons (pc := 2) (pc' := 3) (ok_iconst C dX12_ofClaim_2 (by decide)) <| ch_cons (pc := 3) (pc' := 4) (ok_aloadRn C dX12_ofClaim_3 rfl) <| ch_cons (pc := 4) (pc' := 7) (ok_get C hn (fun w h => kG_in (inG_X12 w h)) (kcl_at hE 11 rfl) (by decide) (kG_in gw_498) (fun _ h => h) dX12_ofClaim_4) <| ch_cons (pc := 7) (pc' := 10) (ok_callV (d := d) (maxL := 1) C hn hout hf hlo (sn_188 hS) rfl (kcl_at hE 2 rfl) (kG_v gw_564 gw_565 gw_566 gw_567 gw_492) (by decide) (by decide +kernel) dX12_ofClaim_7) <| ch_cons (pc := 10) (pc' := 11) (ok_iconst C dX12_ofClaim_10 (by decide)) <| ch_cons (pc := 11) (pc' := 12) (ok_isub C dX12_ofClaim_11) <| ch_cons (pc := 12) (pc' := 15) (ok_callS (d := d) C hout hf hlo (sn_120 hS) rfl (kG_s gw_557 gw_558 gw_559 gw_506) (by decide) (by decide +kernel) dX12_ofClaim_12) <| ch_last (pc := 15) (ok_if_ne (tgt := 22) C dX12_ofClaim_15 (by decide) rfl rfl))
  · exact (ch_cons (pc := 18) (pc' := 19) (ok_iconst C dX12_ofClaim_18 (by decide)) <| ch_last (pc := 19) (ok_goto (tgt := 23) C dX12_ofClaim_19 (by decide) rfl))
  · exact (ch_cons (pc := 22) (pc' := 23) (ok_iconst C dX12_ofClaim_22 (by decide)) <| ch_last (pc := 23) (ok_fall rfl))
  · exact (ch_cons (pc := 23) (pc' := 24) (ok_iconst C dX12_ofClaim_23 (by decide)) <| ch_cons (pc := 24) (pc' := 27) (ok_callV (d := d) (maxL := 3) C hn hout hf hlo (sn_124 hS) rfl (kcl_at hE 11 rfl) (kG_v gw_560 gw_561 gw_562 gw_563 gw_506) (by decide) (by decide +kernel) dX12_ofClaim_24) <| ch_last (pc := 27) (ok_if_ne (tgt := 52) C dX12_ofClaim_27 (by decide) rfl rfl))
  · exact (ch_cons (pc := 30) (pc' := 31) (ok_aloadRn C dX12_ofClaim_30 rfl) <| ch_cons (pc := 31) (pc' := 32) (ok_iloadn C dX12_ofClaim_31 rfl) <| ch_cons (pc := 32) (pc' := 33) (ok_iconst C dX12_ofClaim_32 (by decide)) <| ch_cons (pc := 33) (pc' := 34) (ok_iconst C dX12_ofClaim_33 (by decide)) <| ch_cons (pc := 34) (pc' := 37) (ok_callS (d := d) C hout hf hlo (sn_120 hS) rfl (kG_s gw_557 gw_558 gw_559 gw_506) (by decide) (by decide +kernel) dX12_ofClaim_34) <| ch_last (pc := 37) (ok_if_ne (tgt := 44) C dX12_ofClaim_37 (by decide) rfl rfl))
  · exact (ch_cons (pc := 40) (pc' := 41) (ok_iconst C dX12_ofClaim_40 (by decide)) <| ch_last (pc := 41) (ok_goto (tgt := 45) C dX12_ofClaim_41 (by decide) rfl))
  · exact (ch_cons (pc := 44) (pc' := 45) (ok_iconst C dX12_ofClaim_44 (by decide)) <| ch_last (pc := 45) (ok_fall rfl))
  · exact (ch_cons (pc := 45) (pc' := 46) (ok_iconst C dX12_ofClaim_45 (by decide)) <| ch_cons (pc := 46) (pc' := 49) (ok_callV (d := d) (maxL := 3) C hn hout hf hlo (sn_123 hS) rfl (kcl_at hE 11 rfl) (kG_v gw_508 gw_509 gw_510 gw_511 gw_506) (by decide) (by decide +kernel) dX12_ofClaim_46) <| ch_last (pc := 49) (ok_if_eq (tgt := 56) C dX12_ofClaim_49 (by decide) rfl rfl))
  · exact (ch_cons (pc := 52) (pc' := 53) (ok_iconst C dX12_ofClaim_52 (by decide)) <| ch_last (pc := 53) (ok_goto (tgt := 72) C dX12_ofClaim_53 (by decide) rfl))
  · exact (ch_cons (pc := 56) (pc' := 57) (ok_aloadRn C dX12_ofClaim_56 rfl) <| ch_cons (pc := 57) (pc' := 58) (ok_aloadRn C dX12_ofClaim_57 rfl) <| ch_cons (pc := 58) (pc' := 61) (ok_get C hn (fun w h => kG_in (inG_X12 w h)) (kcl_at hE 11 rfl) (by decide) (kG_in gw_498) (fun _ h => h) dX12_ofClaim_58) <| ch_cons (pc := 61) (pc' := 62) (ok_iloadn C dX12_ofClaim_61 rfl) <| ch_last (pc := 62) (ok_stuck))
  · exact (ch_last (pc := 72) (ok_ireturn C hr dX12_ofClaim_72))
/-- BijectoryModel.refuted()I -/
def bl_X12_refuted (tb : List (List Int32)) (cl : kCall) : List (List kOp) := [
  [oS (gPush (.int 0)), oStoreI 1, oLoadR 0, oGet 20 11 5, oCallV cl 192 0 2 20, oStoreR 2, tGo 1],
  [oLoadR 2, oCallF cl 184 0 1 20, tIf (fun x => decide (x = 0)) 6 2],
  [oLoadR 2, oStuck],
  [oS (gPush (.int 1)), tGo 5],
  [oS (gPush (.int 0)), tGo 5],
  [oBin (fun x y => x + y), oStoreI 1, tGo 1],
  [oLoadI 1, tIret]]
set_option maxRecDepth 100000 in
set_option maxHeartbeats 4000000 in
theorem mok_X12_refuted {E : kE} {σ : List Nat} {l : Launch} {tb : List (List Int32)} (hE : kcl E = kCl) (hn : kn E = 20) (htb : ktb E = tb) : kMOK E (kXX (kb E) σ) σ kZs l kY kWS yX12_refuted (kws yX12_refuted cX12_refuted 4 (some .int)) cX12_refuted 4 (some .int) (fun cl => bl_X12_refuted tb cl) := by
  intro d cl hS p e R s m args below meth c α0 nc0 ns0 res C hf hlo hr hnm hout
  have hXX : kXX (kb E) σ s := C.2.2.2.2.2.2.1.2.2.2.2
  refine ⟨fun b => [0, 10, 19, 37, 41, 42, 47].getD b 0, rfl, kAllB_get (bl := bl_X12_refuted tb cl) ⟨?_, ?_, ?_, ?_, ?_, ?_, ?_, trivial⟩⟩
  · exact (ch_cons (pc := 0) (pc' := 1) (ok_iconst C dX12_refuted_0 (by decide)) <| ch_cons (pc := 1) (pc' := 2) (ok_istoren C dX12_refuted_1 rfl (by decide)) <| ch_cons (pc := 2) (pc' := 3) (ok_aloadRn C dX12_refuted_2 rfl) <| ch_cons (pc := 3) (pc' := 6) (ok_get C hn (fun w h => kG_in (inG_X12 w h)) (kcl_at hE 11 rfl) (by decide) (kG_in gw_498) (fun _ h => h) dX12_refuted_3) <| ch_cons (pc := 6) (pc' := 9) (ok_callV (d := d) (maxL := 1) C hn hout hf hlo (sn_192 hS) rfl (kcl_at hE 2 rfl) (kG_v gw_640 gw_641 gw_642 gw_643 gw_492) (by decide) (by decide +kernel) dX12_refuted_6) <| ch_cons (pc := 9) (pc' := 10) (ok_astoreRn C dX12_refuted_9 rfl (by decide)) <| ch_last (pc := 10) (ok_fall rfl))
  · exact (ch_cons (pc := 10) (pc' := 11) (ok_aloadRn C dX12_refuted_10 rfl) <| ch_cons (pc := 11) (pc' := 16) (ok_callF (d := d) (maxL := 1) (x := ⟨"java/util/Iterator", "hasNext", "()Z"⟩) C hn hf hlo (sn_184 hS) rfl (kcl_at hE 1 rfl) (fw_ok hXX) (kG_F gw_644 gw_645 gw_646 gw_647 gw_648) (by decide) (by decide +kernel) dX12_refuted_11) <| ch_last (pc := 16) (ok_if_eq (tgt := 47) C dX12_refuted_16 (by decide) rfl rfl))
  · exact (ch_cons (pc := 19) (pc' := 20) (ok_aloadRn C dX12_refuted_19 rfl) <| ch_last (pc := 20) (ok_stuck))
  · exact (ch_cons (pc := 37) (pc' := 38) (ok_iconst C dX12_refuted_37 (by decide)) <| ch_last (pc := 38) (ok_goto (tgt := 42) C dX12_refuted_38 (by decide) rfl))
  · exact (ch_cons (pc := 41) (pc' := 42) (ok_iconst C dX12_refuted_41 (by decide)) <| ch_last (pc := 42) (ok_fall rfl))
  · exact (ch_cons (pc := 42) (pc' := 43) (ok_iadd C dX12_refuted_42) <| ch_cons (pc := 43) (pc' := 44) (ok_istoren C dX12_refuted_43 rfl (by decide)) <| ch_last (pc := 44) (ok_goto (tgt := 10) C dX12_refuted_44 (by decide) rfl))
  · exact (ch_cons (pc := 47) (pc' := 48) (ok_iloadn C dX12_refuted_47 rfl) <| ch_last (pc := 48) (ok_ireturn C hr dX12_refuted_48))
/-- BijectoryModel.manyNow(I)I -/
def bl_X12_manyNow (tb : List (List Int32)) (cl : kCall) : List (List kOp) := [
  [oLoadI 1, tTab 0 [1, 2, 3, 4, 5, 6] 7],
  [oLoadR 0, oGet 20 11 1, tIret],
  [oLoadR 0, oGet 20 11 3, oCallV cl 188 0 2 20, tIret],
  [oLoadR 0, oGet 20 11 4, oCallV cl 188 0 2 20, tIret],
  [oLoadR 0, oGet 20 11 5, oCallV cl 188 0 2 20, tIret],
  [oLoadR 0, oCallV cl 175 0 11 20, tIret],
  [oLoadR 0, oGet 20 11 6, tIret],
  [oLoadR 0, oGet 20 11 7, tIret]]
set_option maxRecDepth 100000 in
set_option maxHeartbeats 4000000 in
theorem mok_X12_manyNow {E : kE} {σ : List Nat} {l : Launch} {tb : List (List Int32)} (hE : kcl E = kCl) (hn : kn E = 20) (htb : ktb E = tb) : kMOK E (kXX (kb E) σ) σ kZs l kY kWS yX12_manyNow (kws yX12_manyNow cX12_manyNow 2 (some .int)) cX12_manyNow 2 (some .int) (fun cl => bl_X12_manyNow tb cl) := by
  intro d cl hS p e R s m args below meth c α0 nc0 ns0 res C hf hlo hr hnm hout
  have hXX : kXX (kb E) σ s := C.2.2.2.2.2.2.1.2.2.2.2
  refine ⟨fun b => [0, 40, 45, 53, 61, 69, 74, 79].getD b 0, rfl, kAllB_get (bl := bl_X12_manyNow tb cl) ⟨?_, ?_, ?_, ?_, ?_, ?_, ?_, ?_, trivial⟩⟩
  · exact (ch_cons (pc := 0) (pc' := 1) (ok_iloadn C dX12_manyNow_0 rfl) <| ch_last (pc := 1) (ok_table (td := 79) C dX12_manyNow_1 (by decide) (by decide) (by decide) rfl))
  · exact (ch_cons (pc := 40) (pc' := 41) (ok_aloadRn C dX12_manyNow_40 rfl) <| ch_cons (pc := 41) (pc' := 44) (ok_get C hn (fun w h => kG_in (inG_X12 w h)) (kcl_at hE 11 rfl) (by decide) (kG_in gw_515) (fun _ h => h) dX12_manyNow_41) <| ch_last (pc := 44) (ok_ireturn C hr dX12_manyNow_44))
  · exact (ch_cons (pc := 45) (pc' := 46) (ok_aloadRn C dX12_manyNow_45 rfl) <| ch_cons (pc := 46) (pc' := 49) (ok_get C hn (fun w h => kG_in (inG_X12 w h)) (kcl_at hE 11 rfl) (by decide) (kG_in gw_496) (fun _ h => h) dX12_manyNow_46) <| ch_cons (pc := 49) (pc' := 52) (ok_callV (d := d) (maxL := 1) C hn hout hf hlo (sn_188 hS) rfl (kcl_at hE 2 rfl) (kG_v gw_564 gw_565 gw_566 gw_567 gw_492) (by decide) (by decide +kernel) dX12_manyNow_49) <| ch_last (pc := 52) (ok_ireturn C hr dX12_manyNow_52))
  · exact (ch_cons (pc := 53) (pc' := 54) (ok_aloadRn C dX12_manyNow_53 rfl) <| ch_cons (pc := 54) (pc' := 57) (ok_get C hn (fun w h => kG_in (inG_X12 w h)) (kcl_at hE 11 rfl) (by decide) (kG_in gw_497) (fun _ h => h) dX12_manyNow_54) <| ch_cons (pc := 57) (pc' := 60) (ok_callV (d := d) (maxL := 1) C hn hout hf hlo (sn_188 hS) rfl (kcl_at hE 2 rfl) (kG_v gw_564 gw_565 gw_566 gw_567 gw_492) (by decide) (by decide +kernel) dX12_manyNow_57) <| ch_last (pc := 60) (ok_ireturn C hr dX12_manyNow_60))
  · exact (ch_cons (pc := 61) (pc' := 62) (ok_aloadRn C dX12_manyNow_61 rfl) <| ch_cons (pc := 62) (pc' := 65) (ok_get C hn (fun w h => kG_in (inG_X12 w h)) (kcl_at hE 11 rfl) (by decide) (kG_in gw_498) (fun _ h => h) dX12_manyNow_62) <| ch_cons (pc := 65) (pc' := 68) (ok_callV (d := d) (maxL := 1) C hn hout hf hlo (sn_188 hS) rfl (kcl_at hE 2 rfl) (kG_v gw_564 gw_565 gw_566 gw_567 gw_492) (by decide) (by decide +kernel) dX12_manyNow_65) <| ch_last (pc := 68) (ok_ireturn C hr dX12_manyNow_68))
  · exact (ch_cons (pc := 69) (pc' := 70) (ok_aloadRn C dX12_manyNow_69 rfl) <| ch_cons (pc := 70) (pc' := 73) (ok_callV (d := d) (maxL := 4) C hn hout hf hlo (sn_175 hS) rfl (kcl_at hE 11 rfl) (kG_v gw_649 gw_650 gw_651 gw_652 gw_506) (by decide) (by decide +kernel) dX12_manyNow_70) <| ch_last (pc := 73) (ok_ireturn C hr dX12_manyNow_73))
  · exact (ch_cons (pc := 74) (pc' := 75) (ok_aloadRn C dX12_manyNow_74 rfl) <| ch_cons (pc := 75) (pc' := 78) (ok_get C hn (fun w h => kG_in (inG_X12 w h)) (kcl_at hE 11 rfl) (by decide) (kG_in gw_653) (fun _ h => h) dX12_manyNow_75) <| ch_last (pc := 78) (ok_ireturn C hr dX12_manyNow_78))
  · exact (ch_cons (pc := 79) (pc' := 80) (ok_aloadRn C dX12_manyNow_79 rfl) <| ch_cons (pc := 80) (pc' := 83) (ok_get C hn (fun w h => kG_in (inG_X12 w h)) (kcl_at hE 11 rfl) (by decide) (kG_in gw_654) (fun _ h => h) dX12_manyNow_80) <| ch_last (pc := 83) (ok_ireturn C hr dX12_manyNow_83))
/-- BijectoryModel.many(I)I -/
def bl_X12_many (tb : List (List Int32)) (cl : kCall) : List (List kOp) := [
  [oLoadR 0, oLoadI 1, oS (gPush (.int 0)), oS (gPush (.int 6)), oCall cl 120 3, tIf (fun x => !decide (x = 0)) 2 1],
  [oS (gPush (.int 1)), tGo 3],
  [oS (gPush (.int 0)), tGo 3],
  [oS (gPush (.int 1)), oCallV cl 124 2 11 20, tIf (fun x => decide (x = 0)) 5 4],
  [oS (gPush (.int 0)), tGo 6],
  [oLoadR 0, oLoadI 1, oCallV cl 176 1 11 20, tGo 6],
  [tIret]]
set_option maxRecDepth 100000 in
set_option maxHeartbeats 4000000 in
theorem mok_X12_many {E : kE} {σ : List Nat} {l : Launch} {tb : List (List Int32)} (hE : kcl E = kCl) (hn : kn E = 20) (htb : ktb E = tb) : kMOK E (kXX (kb E) σ) σ kZs l kY kWS yX12_many (kws yX12_many cX12_many 2 (some .int)) cX12_many 2 (some .int) (fun cl => bl_X12_many tb cl) := by
  intro d cl hS p e R s m args below meth c α0 nc0 ns0 res C hf hlo hr hnm hout
  have hXX : kXX (kb E) σ s := C.2.2.2.2.2.2.1.2.2.2.2
  refine ⟨fun b => [0, 11, 15, 16, 23, 27, 32].getD b 0, rfl, kAllB_get (bl := bl_X12_many tb cl) ⟨?_, ?_, ?_, ?_, ?_, ?_, ?_, trivial⟩⟩
  · exact (ch_cons (pc := 0) (pc' := 1) (ok_aloadRn C dX12_many_0 rfl) <| ch_cons (pc := 1) (pc' := 2) (ok_iloadn C dX12_many_1 rfl) <| ch_cons (pc := 2) (pc' := 3) (ok_iconst C dX12_many_2 (by decide)) <| ch_cons (pc := 3) (pc' := 5) (ok_bipush C dX12_many_3 (by decide)) <| ch_cons (pc := 5) (pc' := 8) (ok_callS (d := d) C hout hf hlo (sn_120 hS) rfl (kG_s gw_557 gw_558 gw_559 gw_506) (by decide) (by decide +kernel) dX12_many_5) <| ch_last (pc := 8) (ok_if_ne (tgt := 15) C dX12_many_8 (by decide) rfl rfl))
  · exact (ch_cons (pc := 11) (pc' := 12) (ok_iconst C dX12_many_11 (by decide)) <| ch_last (pc := 12) (ok_goto (tgt := 16) C dX12_many_12 (by decide) rfl))
  · exact (ch_cons (pc := 15) (pc' := 16) (ok_iconst C dX12_many_15 (by decide)) <| ch_last (pc := 16) (ok_fall rfl))
  · exact (ch_cons (pc := 16) (pc' := 17) (ok_iconst C dX12_many_16 (by decide)) <| ch_cons (pc := 17) (pc' := 20) (ok_callV (d := d) (maxL := 3) C hn hout hf hlo (sn_124 hS) rfl (kcl_at hE 11 rfl) (kG_v gw_560 gw_561 gw_562 gw_563 gw_506) (by decide) (by decide +kernel) dX12_many_17) <| ch_last (pc := 20) (ok_if_eq (tgt := 27) C dX12_many_20 (by decide) rfl rfl))
  · exact (ch_cons (pc := 23) (pc' := 24) (ok_iconst C dX12_many_23 (by decide)) <| ch_last (pc := 24) (ok_goto (tgt := 32) C dX12_many_24 (by decide) rfl))
  · exact (ch_cons (pc := 27) (pc' := 28) (ok_aloadRn C dX12_many_27 rfl) <| ch_cons (pc := 28) (pc' := 29) (ok_iloadn C dX12_many_28 rfl) <| ch_cons (pc := 29) (pc' := 32) (ok_callV (d := d) (maxL := 2) C hn hout hf hlo (sn_176 hS) rfl (kcl_at hE 11 rfl) (kG_v gw_655 gw_656 gw_657 gw_658 gw_506) (by decide) (by decide +kernel) dX12_many_29) <| ch_last (pc := 32) (ok_fall rfl))
  · exact (ch_last (pc := 32) (ok_ireturn C hr dX12_many_32))
/-- BijectoryModel.mean(II)D -/
def bl_X12_mean (tb : List (List Int32)) (cl : kCall) : List (List kOp) := [
  [oLoadR 0, oLoadI 1, oCall cl 146 1, oS (gPush (.int 1)), oCallV cl 124 2 11 20, tIf (fun x => !decide (x = 0)) 2 1],
  [oLoadR 0, oLoadI 2, oCall cl 147 1, oS (gPush (.int 2)), oCallV cl 123 2 11 20, tIf (fun x => decide (x = 0)) 3 2],
  [oS (gPush (.double FP.dconst0)), tDret],
  [oS (gPush (.int 0)), oStoreI 3, oLoadR 0, oLoadI 1, oLoadI 2, oCallV cl 140 2 11 20, oStoreR 4, oLoadR 4, oAlen tb, oStoreI 5, oS (gPush (.int 0)), oStoreI 6, tGo 4],
  [oLoadI 6, oLoadI 5, tCmp (fun x y => decide (y ≤ x)) 6 5],
  [oLoadR 4, oLoadI 6, oIald tb, oStoreI 7, oLoadI 3, oLoadI 7, oBin (fun x y => x + y), oStoreI 3, oIinc 6 1, tGo 4],
  [oLoadI 3, oS gI2d, oLoadR 0, oGet 20 11 2, oLoadI 1, oAald 20, oAlen tb, oS gI2d, oS gDdiv, tDret]]
set_option maxRecDepth 100000 in
set_option maxHeartbeats 4000000 in
theorem mok_X12_mean {E : kE} {σ : List Nat} {l : Launch} {tb : List (List Int32)} (hE : kcl E = kCl) (hn : kn E = 20) (htb : ktb E = tb) : kMOK E (kXX (kb E) σ) σ kZs l kY kWS yX12_mean (kws yX12_mean cX12_mean 8 (some .double)) cX12_mean 8 (some .double) (fun cl => bl_X12_mean tb cl) := by
  intro d cl hS p e R s m args below meth c α0 nc0 ns0 res C hf hlo hr hnm hout
  have hXX : kXX (kb E) σ s := C.2.2.2.2.2.2.1.2.2.2.2
  refine ⟨fun b => [0, 12, 24, 26, 44, 51, 69].getD b 0, rfl, kAllB_get (bl := bl_X12_mean tb cl) ⟨?_, ?_, ?_, ?_, ?_, ?_, ?_, trivial⟩⟩
  · exact (ch_cons (pc := 0) (pc' := 1) (ok_aloadRn C dX12_mean_0 rfl) <| ch_cons (pc := 1) (pc' := 2) (ok_iloadn C dX12_mean_1 rfl) <| ch_cons (pc := 2) (pc' := 5) (ok_callS (d := d) C hout hf hlo (sn_146 hS) rfl (kG_s gw_584 gw_585 gw_586 gw_506) (by decide) (by decide +kernel) dX12_mean_2) <| ch_cons (pc := 5) (pc' := 6) (ok_iconst C dX12_mean_5 (by decide)) <| ch_cons (pc := 6) (pc' := 9) (ok_callV (d := d) (maxL := 3) C hn hout hf hlo (sn_124 hS) rfl (kcl_at hE 11 rfl) (kG_v gw_560 gw_561 gw_562 gw_563 gw_506) (by decide) (by decide +kernel) dX12_mean_6) <| ch_last (pc := 9) (ok_if_ne (tgt := 24) C dX12_mean_9 (by decide) rfl rfl))
  · exact (ch_cons (pc := 12) (pc' := 13) (ok_aloadRn C dX12_mean_12 rfl) <| ch_cons (pc := 13) (pc' := 14) (ok_iloadn C dX12_mean_13 rfl) <| ch_cons (pc := 14) (pc' := 17) (ok_callS (d := d) C hout hf hlo (sn_147 hS) rfl (kG_s gw_597 gw_598 gw_599 gw_506) (by decide) (by decide +kernel) dX12_mean_14) <| ch_cons (pc := 17) (pc' := 18) (ok_iconst C dX12_mean_17 (by decide)) <| ch_cons (pc := 18) (pc' := 21) (ok_callV (d := d) (maxL := 3) C hn hout hf hlo (sn_123 hS) rfl (kcl_at hE 11 rfl) (kG_v gw_508 gw_509 gw_510 gw_511 gw_506) (by decide) (by decide +kernel) dX12_mean_18) <| ch_last (pc := 21) (ok_if_eq (tgt := 26) C dX12_mean_21 (by decide) rfl rfl))
  · exact (ch_cons (pc := 24) (pc' := 25) (ok_dconst0 C dX12_mean_24) <| ch_last (pc := 25) (ok_dreturn C hr dX12_mean_25))
  · exact (ch_cons (pc := 26) (pc' := 27) (ok_iconst C dX12_mean_26 (by decide)) <| ch_cons (pc := 27) (pc' := 28) (ok_istoren C dX12_mean_27 rfl (by decide)) <| ch_cons (pc := 28) (pc' := 29) (ok_aloadRn C dX12_mean_28 rfl) <| ch_cons (pc := 29) (pc' := 30) (ok_iloadn C dX12_mean_29 rfl) <| ch_cons (pc := 30) (pc' := 31) (ok_iloadn C dX12_mean_30 rfl) <| ch_cons (pc := 31) (pc' := 34) (ok_callV (d := d) (maxL := 5) C hn hout hf hlo (sn_140 hS) rfl (kcl_at hE 11 rfl) (kG_v gw_610 gw_611 gw_612 gw_613 gw_506) (by decide) (by decide +kernel) dX12_mean_31) <| ch_cons (pc := 34) (pc' := 36) (ok_astoreR C dX12_mean_34 (by decide)) <| ch_cons (pc := 36) (pc' := 38) (ok_aloadR C dX12_mean_36) <| ch_cons (pc := 38) (pc' := 39) (ok_alen C htb dX12_mean_38) <| ch_cons (pc := 39) (pc' := 41) (ok_istore C dX12_mean_39 (by decide)) <| ch_cons (pc := 41) (pc' := 42) (ok_iconst C dX12_mean_41 (by decide)) <| ch_cons (pc := 42) (pc' := 44) (ok_istore C dX12_mean_42 (by decide)) <| ch_last (pc := 44) (ok_fall rfl))
  · exact (ch_cons (pc := 44) (pc' := 46) (ok_iload C dX12_mean_44) <| ch_cons (pc := 46) (pc' := 48) (ok_iload C dX12_mean_46) <| ch_last (pc := 48) (ok_icmp_ge (tgt := 69) C dX12_mean_48 (by decide) rfl rfl))
  · exact (ch_cons (pc := 51) (pc' := 53) (ok_aloadR C dX12_mean_51) <| ch_cons (pc := 53) (pc' := 55) (ok_iload C dX12_mean_53) <| ch_cons (pc := 55) (pc' := 56) (ok_iaload C htb dX12_mean_55) <| ch_cons (pc := 56) (pc' := 58) (ok_istore C dX12_mean_56 (by decide)) <| ch_cons (pc := 58) (pc' := 59) (ok_iloadn C dX12_mean_58 rfl) <| ch_cons (pc := 59) (pc' := 61) (ok_iload C dX12_mean_59) <| ch_cons (pc := 61) (pc' := 62) (ok_iadd C dX12_mean_61) <| ch_cons (pc := 62) (pc' := 63) (ok_istoren C dX12_mean_62 rfl (by decide)) <| ch_cons (pc := 63) (pc' := 66) (ok_iinc C dX12_mean_63 (by decide) (by decide)) <| ch_last (pc := 66) (ok_goto (tgt := 44) C dX12_mean_66 (by decide) rfl))
  · exact (ch_cons (pc := 69) (pc' := 70) (ok_iloadn C dX12_mean_69 rfl) <| ch_cons (pc := 70) (pc' := 71) (ok_i2d C dX12_mean_70) <| ch_cons (pc := 71) (pc' := 72) (ok_aloadRn C dX12_mean_71 rfl) <| ch_cons (pc := 72) (pc' := 75) (ok_get C hn (fun w h => kG_in (inG_X12 w h)) (kcl_at hE 11 rfl) (by decide) (kG_in gw_489) (fun _ h => h) dX12_mean_72) <| ch_cons (pc := 75) (pc' := 76) (ok_iloadn C dX12_mean_75 rfl) <| ch_cons (pc := 76) (pc' := 77) (ok_aaload C hn dX12_mean_76) <| ch_cons (pc := 77) (pc' := 78) (ok_alen C htb dX12_mean_77) <| ch_cons (pc := 78) (pc' := 79) (ok_i2d C dX12_mean_78) <| ch_cons (pc := 79) (pc' := 80) (ok_ddiv C dX12_mean_79) <| ch_last (pc := 80) (ok_dreturn C hr dX12_mean_80))
/-- BijectoryModel.add(JJ)J -/
def bl_X12_add (tb : List (List Int32)) (cl : kCall) : List (List kOp) := [
  [oLoadL 0, oS (gPush (.long (31))), oBinL (fun x y => x * y), oLoadL 2, oBinL (fun x y => x + y), tLret]]
set_option maxRecDepth 100000 in
set_option maxHeartbeats 4000000 in
theorem mok_X12_add {E : kE} {σ : List Nat} {l : Launch} {tb : List (List Int32)} (hE : kcl E = kCl) (hn : kn E = 20) (htb : ktb E = tb) : kMOK E (kXX (kb E) σ) σ kZs l kY kWS yX12_add (kws yX12_add cX12_add 4 (some .long)) cX12_add 4 (some .long) (fun cl => bl_X12_add tb cl) := by
  intro d cl hS p e R s m args below meth c α0 nc0 ns0 res C hf hlo hr hnm hout
  have hXX : kXX (kb E) σ s := C.2.2.2.2.2.2.1.2.2.2.2
  refine ⟨fun b => [0].getD b 0, rfl, kAllB_get (bl := bl_X12_add tb cl) ⟨?_, trivial⟩⟩
  · exact (ch_cons (pc := 0) (pc' := 1) (ok_lloadn C dX12_add_0 rfl) <| ch_cons (pc := 1) (pc' := 4) (ok_ldc2 C dX12_add_1 (kG_in gw_659)) <| ch_cons (pc := 4) (pc' := 5) (ok_lmul C dX12_add_4) <| ch_cons (pc := 5) (pc' := 6) (ok_lloadn C dX12_add_5 rfl) <| ch_cons (pc := 6) (pc' := 7) (ok_ladd C dX12_add_6) <| ch_last (pc := 7) (ok_lreturn C hr dX12_add_7))
/-- BijectoryModel.digest()J -/
def bl_X12_digest (tb : List (List Int32)) (cl : kCall) : List (List kOp) := [
  [oLoadR 0, oS (gPush (.int 0)), oPut 20 11 0 .int, oS (gPush (.long (9503))), oStoreL 1, oS (gPush (.int 0)), oStoreI 3, tGo 1],
  [oLoadI 3, oS (gPush (.int 7)), tCmp (fun x y => decide (y ≤ x)) 3 2],
  [oLoadL 1, oLoadR 0, oLoadI 3, oCallV cl 176 1 11 20, oS gI2l, oCall cl 179 2, oStoreL 1, oIinc 3 1, tGo 1],
  [oS (gPush (.int 0)), oStoreI 3, tGo 4],
  [oLoadI 3, oS (gPush (.int 3)), tCmp (fun x y => decide (y ≤ x)) 9 5],
  [oLoadL 1, oLoadR 0, oGet 20 11 2, oLoadI 3, oAald 20, oAlen tb, oS gI2l, oCall cl 179 2, oStoreL 1, oS (gPush (.int 0)), oStoreI 4, tGo 6],
  [oLoadI 4, oS (gPush (.int 4)), tCmp (fun x y => decide (y ≤ x)) 8 7],
  [oLoadL 1, oLoadR 0, oLoadI 3, oLoadI 4, oCallV cl 158 2 11 20, oS gI2l, oCall cl 179 2, oStoreL 1, oIinc 4 1, tGo 6],
  [oIinc 3 1, tGo 4],
  [oS (gPush (.int 0)), oStoreI 3, tGo 10],
  [oLoadI 3, oLoadR 0, oGet 20 11 3, oCallV cl 188 0 2 20, tCmp (fun x y => decide (y ≤ x)) 12 11],
  [oLoadR 0, oLoadL 1, oLoadI 3, oStuck],
  [oS (gPush (.int 0)), oStoreI 3, tGo 13],
  [oLoadI 3, oLoadR 0, oGet 20 11 4, oCallV cl 188 0 2 20, tCmp (fun x y => decide (y ≤ x)) 18 14],
  [oS (gPush (.int 0)), oStoreI 4, tGo 15],
  [oLoadI 4, oS (gPush (.int 5)), tCmp (fun x y => decide (y ≤ x)) 17 16],
  [oLoadL 1, oLoadR 0, oLoadR 0, oGet 20 11 4, oLoadI 3, oStuck],
  [oIinc 3 1, tGo 13],
  [oS (gPush (.int 0)), oStoreI 3, tGo 19],
  [oLoadI 3, oLoadR 0, oGet 20 11 5, oCallV cl 188 0 2 20, tCmp (fun x y => decide (y ≤ x)) 24 20],
  [oS (gPush (.int 0)), oStoreI 4, tGo 21],
  [oLoadI 4, oS (gPush (.int 5)), tCmp (fun x y => decide (y ≤ x)) 23 22],
  [oLoadL 1, oLoadR 0, oLoadR 0, oGet 20 11 5, oLoadI 3, oStuck],
  [oIinc 3 1, tGo 19],
  [oLoadL 1, oLoadR 0, oS (gPush (.int 1)), oCallV cl 164 1 11 20, oS gI2l, oCall cl 179 2, tLret]]
set_option maxRecDepth 100000 in
set_option maxHeartbeats 4000000 in
theorem mok_X12_digest {E : kE} {σ : List Nat} {l : Launch} {tb : List (List Int32)} (hE : kcl E = kCl) (hn : kn E = 20) (htb : ktb E = tb) : kMOK E (kXX (kb E) σ) σ kZs l kY kWS yX12_digest (kws yX12_digest cX12_digest 5 (some .long)) cX12_digest 5 (some .long) (fun cl => bl_X12_digest tb cl) := by
  intro d cl hS p e R s m args below meth c α0 nc0 ns0 res C hf hlo hr hnm hout
  have hXX : kXX (kb E) σ s := C.2.2.2.2.2.2.1.2.2.2.2
  refine ⟨fun b => [0, 11, 17, 34, 36, 41, 57, 63, 82, 88, 90, 101, 114, 116, 127, 130, 136, 165, 171, 173, 184, 187, 193, 222, 228].getD b 0, rfl, kAllB_get (bl := bl_X12_digest tb cl) ⟨?_, ?_, ?_, ?_, ?_, ?_, ?_, ?_, ?_, ?_, ?_, ?_, ?_, ?_, ?_, ?_, ?_, ?_, ?_, ?_, ?_, ?_, ?_, ?_, ?_, trivial⟩⟩
  · exact (ch_cons (pc := 0) (pc' := 1) (ok_aloadRn C dX12_digest_0 rfl) <| ch_cons (pc := 1) (pc' := 2) (ok_iconst C dX12_digest_1 (by decide)) <| ch_cons (pc := 2) (pc' := 5) (ok_put C hn (fun w h => kG_in (inG_X12 w h)) tyX12 tyX12_ok nmX12 (kcl_at hE 11 rfl) (by decide) (kG_in gw_507) (fun _ h => h) (Or.inl rfl) rfl dX12_digest_2) <| ch_cons (pc := 5) (pc' := 8) (ok_ldc2 C dX12_digest_5 (kG_in gw_660)) <| ch_cons (pc := 8) (pc' := 9) (ok_lstoren C dX12_digest_8 rfl (by decide)) <| ch_cons (pc := 9) (pc' := 10) (ok_iconst C dX12_digest_9 (by decide)) <| ch_cons (pc := 10) (pc' := 11) (ok_istoren C dX12_digest_10 rfl (by decide)) <| ch_last (pc := 11) (ok_fall rfl))
  · exact (ch_cons (pc := 11) (pc' := 12) (ok_iloadn C dX12_digest_11 rfl) <| ch_cons (pc := 12) (pc' := 14) (ok_bipush C dX12_digest_12 (by decide)) <| ch_last (pc := 14) (ok_icmp_ge (tgt := 34) C dX12_digest_14 (by decide) rfl rfl))
  · exact (ch_cons (pc := 17) (pc' := 18) (ok_lloadn C dX12_digest_17 rfl) <| ch_cons (pc := 18) (pc' := 19) (ok_aloadRn C dX12_digest_18 rfl) <| ch_cons (pc := 19) (pc' := 20) (ok_iloadn C dX12_digest_19 rfl) <| ch_cons (pc := 20) (pc' := 23) (ok_callV (d := d) (maxL := 2) C hn hout hf hlo (sn_176 hS) rfl (kcl_at hE 11 rfl) (kG_v gw_655 gw_656 gw_657 gw_658 gw_506) (by decide) (by decide +kernel) dX12_digest_20) <| ch_cons (pc := 23) (pc' := 24) (ok_i2l C dX12_digest_23) <| ch_cons (pc := 24) (pc' := 27) (ok_callS (d := d) C hout hf hlo (sn_179 hS) rfl (kG_s gw_661 gw_662 gw_663 gw_506) (by decide) (by decide +kernel) dX12_digest_24) <| ch_cons (pc := 27) (pc' := 28) (ok_lstoren C dX12_digest_27 rfl (by decide)) <| ch_cons (pc := 28) (pc' := 31) (ok_iinc C dX12_digest_28 (by decide) (by decide)) <| ch_last (pc := 31) (ok_goto (tgt := 11) C dX12_digest_31 (by decide) rfl))
  · exact (ch_cons (pc := 34) (pc' := 35) (ok_iconst C dX12_digest_34 (by decide)) <| ch_cons (pc := 35) (pc' := 36) (ok_istoren C dX12_digest_35 rfl (by decide)) <| ch_last (pc := 36) (ok_fall rfl))
  · exact (ch_cons (pc := 36) (pc' := 37) (ok_iloadn C dX12_digest_36 rfl) <| ch_cons (pc := 37) (pc' := 38) (ok_iconst C dX12_digest_37 (by decide)) <| ch_last (pc := 38) (ok_icmp_ge (tgt := 88) C dX12_digest_38 (by decide) rfl rfl))
  · exact (ch_cons (pc := 41) (pc' := 42) (ok_lloadn C dX12_digest_41 rfl) <| ch_cons (pc := 42) (pc' := 43) (ok_aloadRn C dX12_digest_42 rfl) <| ch_cons (pc := 43) (pc' := 46) (ok_get C hn (fun w h => kG_in (inG_X12 w h)) (kcl_at hE 11 rfl) (by decide) (kG_in gw_489) (fun _ h => h) dX12_digest_43) <| ch_cons (pc := 46) (pc' := 47) (ok_iloadn C dX12_digest_46 rfl) <| ch_cons (pc := 47) (pc' := 48) (ok_aaload C hn dX12_digest_47) <| ch_cons (pc := 48) (pc' := 49) (ok_alen C htb dX12_digest_48) <| ch_cons (pc := 49) (pc' := 50) (ok_i2l C dX12_digest_49) <| ch_cons (pc := 50) (pc' := 53) (ok_callS (d := d) C hout hf hlo (sn_179 hS) rfl (kG_s gw_661 gw_662 gw_663 gw_506) (by decide) (by decide +kernel) dX12_digest_50) <| ch_cons (pc := 53) (pc' := 54) (ok_lstoren C dX12_digest_53 rfl (by decide)) <| ch_cons (pc := 54) (pc' := 55) (ok_iconst C dX12_digest_54 (by decide)) <| ch_cons (pc := 55) (pc' := 57) (ok_istore C dX12_digest_55 (by decide)) <| ch_last (pc := 57) (ok_fall rfl))
  · exact (ch_cons (pc := 57) (pc' := 59) (ok_iload C dX12_digest_57) <| ch_cons (pc := 59) (pc' := 60) (ok_iconst C dX12_digest_59 (by decide)) <| ch_last (pc := 60) (ok_icmp_ge (tgt := 82) C dX12_digest_60 (by decide) rfl rfl))
  · exact (ch_cons (pc := 63) (pc' := 64) (ok_lloadn C dX12_digest_63 rfl) <| ch_cons (pc := 64) (pc' := 65) (ok_aloadRn C dX12_digest_64 rfl) <| ch_cons (pc := 65) (pc' := 66) (ok_iloadn C dX12_digest_65 rfl) <| ch_cons (pc := 66) (pc' := 68) (ok_iload C dX12_digest_66) <| ch_cons (pc := 68) (pc' := 71) (ok_callV (d := d) (maxL := 8) C hn hout hf hlo (sn_158 hS) rfl (kcl_at hE 11 rfl) (kG_v gw_617 gw_618 gw_619 gw_620 gw_506) (by decide) (by decide +kernel) dX12_digest_68) <| ch_cons (pc := 71) (pc' := 72) (ok_i2l C dX12_digest_71) <| ch_cons (pc := 72) (pc' := 75) (ok_callS (d := d) C hout hf hlo (sn_179 hS) rfl (kG_s gw_661 gw_662 gw_663 gw_506) (by decide) (by decide +kernel) dX12_digest_72) <| ch_cons (pc := 75) (pc' := 76) (ok_lstoren C dX12_digest_75 rfl (by decide)) <| ch_cons (pc := 76) (pc' := 79) (ok_iinc C dX12_digest_76 (by decide) (by decide)) <| ch_last (pc := 79) (ok_goto (tgt := 57) C dX12_digest_79 (by decide) rfl))
  · exact (ch_cons (pc := 82) (pc' := 85) (ok_iinc C dX12_digest_82 (by decide) (by decide)) <| ch_last (pc := 85) (ok_goto (tgt := 36) C dX12_digest_85 (by decide) rfl))
  · exact (ch_cons (pc := 88) (pc' := 89) (ok_iconst C dX12_digest_88 (by decide)) <| ch_cons (pc := 89) (pc' := 90) (ok_istoren C dX12_digest_89 rfl (by decide)) <| ch_last (pc := 90) (ok_fall rfl))
  · exact (ch_cons (pc := 90) (pc' := 91) (ok_iloadn C dX12_digest_90 rfl) <| ch_cons (pc := 91) (pc' := 92) (ok_aloadRn C dX12_digest_91 rfl) <| ch_cons (pc := 92) (pc' := 95) (ok_get C hn (fun w h => kG_in (inG_X12 w h)) (kcl_at hE 11 rfl) (by decide) (kG_in gw_496) (fun _ h => h) dX12_digest_92) <| ch_cons (pc := 95) (pc' := 98) (ok_callV (d := d) (maxL := 1) C hn hout hf hlo (sn_188 hS) rfl (kcl_at hE 2 rfl) (kG_v gw_564 gw_565 gw_566 gw_567 gw_492) (by decide) (by decide +kernel) dX12_digest_95) <| ch_last (pc := 98) (ok_icmp_ge (tgt := 114) C dX12_digest_98 (by decide) rfl rfl))
  · exact (ch_cons (pc := 101) (pc' := 102) (ok_aloadRn C dX12_digest_101 rfl) <| ch_cons (pc := 102) (pc' := 103) (ok_lloadn C dX12_digest_102 rfl) <| ch_cons (pc := 103) (pc' := 104) (ok_iloadn C dX12_digest_103 rfl) <| ch_last (pc := 104) (ok_stuck))
  · exact (ch_cons (pc := 114) (pc' := 115) (ok_iconst C dX12_digest_114 (by decide)) <| ch_cons (pc := 115) (pc' := 116) (ok_istoren C dX12_digest_115 rfl (by decide)) <| ch_last (pc := 116) (ok_fall rfl))
  · exact (ch_cons (pc := 116) (pc' := 117) (ok_iloadn C dX12_digest_116 rfl) <| ch_cons (pc := 117) (pc' := 118) (ok_aloadRn C dX12_digest_117 rfl) <| ch_cons (pc := 118) (pc' := 121) (ok_get C hn (fun w h => kG_in (inG_X12 w h)) (kcl_at hE 11 rfl) (by decide) (kG_in gw_497) (fun _ h => h) dX12_digest_118) <| ch_cons (pc := 121) (pc' := 124) (ok_callV (d := d) (maxL := 1) C hn hout hf hlo (sn_188 hS) rfl (kcl_at hE 2 rfl) (kG_v gw_564 gw_565 gw_566 gw_567 gw_492) (by decide) (by decide +kernel) dX12_digest_121) <| ch_last (pc := 124) (ok_icmp_ge (tgt := 171) C dX12_digest_124 (by decide) rfl rfl))
  · exact (ch_cons (pc := 127) (pc' := 128) (ok_iconst C dX12_digest_127 (by decide)) <| ch_cons (pc := 128) (pc' := 130) (ok_istore C dX12_digest_128 (by decide)) <| ch_last (pc := 130) (ok_fall rfl))
  · exact (ch_cons (pc := 130) (pc' := 132) (ok_iload C dX12_digest_130) <| ch_cons (pc := 132) (pc' := 133) (ok_iconst C dX12_digest_132 (by decide)) <| ch_last (pc := 133) (ok_icmp_ge (tgt := 165) C dX12_digest_133 (by decide) rfl rfl))
  · exact (ch_cons (pc := 136) (pc' := 137) (ok_lloadn C dX12_digest_136 rfl) <| ch_cons (pc := 137) (pc' := 138) (ok_aloadRn C dX12_digest_137 rfl) <| ch_cons (pc := 138) (pc' := 139) (ok_aloadRn C dX12_digest_138 rfl) <| ch_cons (pc := 139) (pc' := 142) (ok_get C hn (fun w h => kG_in (inG_X12 w h)) (kcl_at hE 11 rfl) (by decide) (kG_in gw_497) (fun _ h => h) dX12_digest_139) <| ch_cons (pc := 142) (pc' := 143) (ok_iloadn C dX12_digest_142 rfl) <| ch_last (pc := 143) (ok_stuck))
  · exact (ch_cons (pc := 165) (pc' := 168) (ok_iinc C dX12_digest_165 (by decide) (by decide)) <| ch_last (pc := 168) (ok_goto (tgt := 116) C dX12_digest_168 (by decide) rfl))
  · exact (ch_cons (pc := 171) (pc' := 172) (ok_iconst C dX12_digest_171 (by decide)) <| ch_cons (pc := 172) (pc' := 173) (ok_istoren C dX12_digest_172 rfl (by decide)) <| ch_last (pc := 173) (ok_fall rfl))
  · exact (ch_cons (pc := 173) (pc' := 174) (ok_iloadn C dX12_digest_173 rfl) <| ch_cons (pc := 174) (pc' := 175) (ok_aloadRn C dX12_digest_174 rfl) <| ch_cons (pc := 175) (pc' := 178) (ok_get C hn (fun w h => kG_in (inG_X12 w h)) (kcl_at hE 11 rfl) (by decide) (kG_in gw_498) (fun _ h => h) dX12_digest_175) <| ch_cons (pc := 178) (pc' := 181) (ok_callV (d := d) (maxL := 1) C hn hout hf hlo (sn_188 hS) rfl (kcl_at hE 2 rfl) (kG_v gw_564 gw_565 gw_566 gw_567 gw_492) (by decide) (by decide +kernel) dX12_digest_178) <| ch_last (pc := 181) (ok_icmp_ge (tgt := 228) C dX12_digest_181 (by decide) rfl rfl))
  · exact (ch_cons (pc := 184) (pc' := 185) (ok_iconst C dX12_digest_184 (by decide)) <| ch_cons (pc := 185) (pc' := 187) (ok_istore C dX12_digest_185 (by decide)) <| ch_last (pc := 187) (ok_fall rfl))
  · exact (ch_cons (pc := 187) (pc' := 189) (ok_iload C dX12_digest_187) <| ch_cons (pc := 189) (pc' := 190) (ok_iconst C dX12_digest_189 (by decide)) <| ch_last (pc := 190) (ok_icmp_ge (tgt := 222) C dX12_digest_190 (by decide) rfl rfl))
  · exact (ch_cons (pc := 193) (pc' := 194) (ok_lloadn C dX12_digest_193 rfl) <| ch_cons (pc := 194) (pc' := 195) (ok_aloadRn C dX12_digest_194 rfl) <| ch_cons (pc := 195) (pc' := 196) (ok_aloadRn C dX12_digest_195 rfl) <| ch_cons (pc := 196) (pc' := 199) (ok_get C hn (fun w h => kG_in (inG_X12 w h)) (kcl_at hE 11 rfl) (by decide) (kG_in gw_498) (fun _ h => h) dX12_digest_196) <| ch_cons (pc := 199) (pc' := 200) (ok_iloadn C dX12_digest_199 rfl) <| ch_last (pc := 200) (ok_stuck))
  · exact (ch_cons (pc := 222) (pc' := 225) (ok_iinc C dX12_digest_222 (by decide) (by decide)) <| ch_last (pc := 225) (ok_goto (tgt := 173) C dX12_digest_225 (by decide) rfl))
  · exact (ch_cons (pc := 228) (pc' := 229) (ok_lloadn C dX12_digest_228 rfl) <| ch_cons (pc := 229) (pc' := 230) (ok_aloadRn C dX12_digest_229 rfl) <| ch_cons (pc := 230) (pc' := 231) (ok_iconst C dX12_digest_230 (by decide)) <| ch_cons (pc := 231) (pc' := 234) (ok_callV (d := d) (maxL := 9) C hn hout hf hlo (sn_164 hS) rfl (kcl_at hE 11 rfl) (kG_v gw_636 gw_637 gw_638 gw_639 gw_506) (by decide) (by decide +kernel) dX12_digest_231) <| ch_cons (pc := 234) (pc' := 235) (ok_i2l C dX12_digest_234) <| ch_cons (pc := 235) (pc' := 238) (ok_callS (d := d) C hout hf hlo (sn_179 hS) rfl (kG_s gw_661 gw_662 gw_663 gw_506) (by decide) (by decide +kernel) dX12_digest_235) <| ch_last (pc := 238) (ok_lreturn C hr dX12_digest_238))
/-- java/util/AbstractCollection.<init>()V -/
def bl_Jxa1e45_init_da8c8 (tb : List (List Int32)) (cl : kCall) : List (List kOp) := [
  [oLoadR 0, oObj, tVret]]
set_option maxRecDepth 100000 in
set_option maxHeartbeats 4000000 in
theorem mok_Jxa1e45_init_da8c8 {E : kE} {σ : List Nat} {l : Launch} {tb : List (List Int32)} (hE : kcl E = kCl) (hn : kn E = 20) (htb : ktb E = tb) : kMOK E (kXX (kb E) σ) σ kZs l kY kWS yJxa1e45_init_da8c8 (kws yJxa1e45_init_da8c8 cJxa1e45_init_da8c8 1 none) cJxa1e45_init_da8c8 1 none (fun cl => bl_Jxa1e45_init_da8c8 tb cl) := by
  intro d cl hS p e R s m args below meth c α0 nc0 ns0 res C hf hlo hr hnm hout
  have hXX : kXX (kb E) σ s := C.2.2.2.2.2.2.1.2.2.2.2
  refine ⟨fun b => [0].getD b 0, rfl, kAllB_get (bl := bl_Jxa1e45_init_da8c8 tb cl) ⟨?_, trivial⟩⟩
  · exact (ch_cons (pc := 0) (pc' := 1) (ok_aloadRn C dJxa1e45_init_da8c8_0 rfl) <| ch_cons (pc := 1) (pc' := 4) (ok_obj C (kG_in gw_664) (kG_in gw_104) (kG_in gw_105) dJxa1e45_init_da8c8_1) <| ch_last (pc := 4) (ok_return C hr dJxa1e45_init_da8c8_4))
/-- java/util/AbstractList.<init>()V -/
def bl_Jxc12de_init_da8c8 (tb : List (List Int32)) (cl : kCall) : List (List kOp) := [
  [oLoadR 0, oCallI cl 181 0, oLoadR 0, oS (gPush (.int 0)), oPut 20 2 0 .int, tVret]]
set_option maxRecDepth 100000 in
set_option maxHeartbeats 4000000 in
theorem mok_Jxc12de_init_da8c8 {E : kE} {σ : List Nat} {l : Launch} {tb : List (List Int32)} (hE : kcl E = kCl) (hn : kn E = 20) (htb : ktb E = tb) : kMOK E (kXX (kb E) σ) σ kZs l kY kWS yJxc12de_init_da8c8 (kws yJxc12de_init_da8c8 cJxc12de_init_da8c8 1 none) cJxc12de_init_da8c8 1 none (fun cl => bl_Jxc12de_init_da8c8 tb cl) := by
  intro d cl hS p e R s m args below meth c α0 nc0 ns0 res C hf hlo hr hnm hout
  have hXX : kXX (kb E) σ s := C.2.2.2.2.2.2.1.2.2.2.2
  refine ⟨fun b => [0].getD b 0, rfl, kAllB_get (bl := bl_Jxc12de_init_da8c8 tb cl) ⟨?_, trivial⟩⟩
  · exact (ch_cons (pc := 0) (pc' := 1) (ok_aloadRn C dJxc12de_init_da8c8_0 rfl) <| ch_cons (pc := 1) (pc' := 4) (ok_callI (d := d) C hout hf hlo (sn_181 hS) rfl (kG_ws gw_665) (kG_in gw_666) (kG_in gw_667) (kG_in gw_668) rfl (by decide) (by decide +kernel) dJxc12de_init_da8c8_1) <| ch_cons (pc := 4) (pc' := 5) (ok_aloadRn C dJxc12de_init_da8c8_4 rfl) <| ch_cons (pc := 5) (pc' := 6) (ok_iconst C dJxc12de_init_da8c8_5 (by decide)) <| ch_cons (pc := 6) (pc' := 9) (ok_put C hn (fun w h => kG_in (inG_Jx4a65c w h)) tyJx4a65c tyJx4a65c_ok nmJx4a65c (kcl_at hE 2 rfl) (by decide) (kG_in gw_669) (fun _ h => h) (Or.inl rfl) rfl dJxc12de_init_da8c8_6) <| ch_last (pc := 9) (ok_return C hr dJxc12de_init_da8c8_9))
/-- java/util/ArrayList$Itr.<init>(Ljava/util/ArrayList;)V -/
def bl_Jx35411_init_45d68 (tb : List (List Int32)) (cl : kCall) : List (List kOp) := [
  [oLoadR 0, oLoadR 1, oPut 20 1 3 (.object "java/util/ArrayList"), oLoadR 0, oObj, oLoadR 0, oS (gPush (.int (-1))), oPut 20 1 1 .int, oLoadR 0, oLoadR 0, oGet 20 1 3, oGet 20 2 0, oPut 20 1 2 .int, tVret]]
set_option maxRecDepth 100000 in
set_option maxHeartbeats 4000000 in
theorem mok_Jx35411_init_45d68 {E : kE} {σ : List Nat} {l : Launch} {tb : List (List Int32)} (hE : kcl E = kCl) (hn : kn E = 20) (htb : ktb E = tb) : kMOK E (kXX (kb E) σ) σ kZs l kY kWS yJx35411_init_45d68 (kws yJx35411_init_45d68 cJx35411_init_45d68 2 none) cJx35411_init_45d68 2 none (fun cl => bl_Jx35411_init_45d68 tb cl) := by
  intro d cl hS p e R s m args below meth c α0 nc0 ns0 res C hf hlo hr hnm hout
  have hXX : kXX (kb E) σ s := C.2.2.2.2.2.2.1.2.2.2.2
  refine ⟨fun b => [0].getD b 0, rfl, kAllB_get (bl := bl_Jx35411_init_45d68 tb cl) ⟨?_, trivial⟩⟩
  · exact (ch_cons (pc := 0) (pc' := 1) (ok_aloadRn C dJx35411_init_45d68_0 rfl) <| ch_cons (pc := 1) (pc' := 2) (ok_aloadRn C dJx35411_init_45d68_1 rfl) <| ch_cons (pc := 2) (pc' := 5) (ok_put C hn (fun w h => kG_in (inG_Jx35411 w h)) tyJx35411 tyJx35411_ok nmJx35411 (kcl_at hE 1 rfl) (by decide) (kG_in gw_670) (fun _ h => h) (Or.inr ⟨rfl, hnm, rfl⟩) rfl dJx35411_init_45d68_2) <| ch_cons (pc := 5) (pc' := 6) (ok_aloadRn C dJx35411_init_45d68_5 rfl) <| ch_cons (pc := 6) (pc' := 9) (ok_obj C (kG_in gw_671) (kG_in gw_104) (kG_in gw_105) dJx35411_init_45d68_6) <| ch_cons (pc := 9) (pc' := 10) (ok_aloadRn C dJx35411_init_45d68_9 rfl) <| ch_cons (pc := 10) (pc' := 11) (ok_iconst C dJx35411_init_45d68_10 (by decide)) <| ch_cons (pc := 11) (pc' := 14) (ok_put C hn (fun w h => kG_in (inG_Jx35411 w h)) tyJx35411 tyJx35411_ok nmJx35411 (kcl_at hE 1 rfl) (by decide) (kG_in gw_672) (fun _ h => h) (Or.inl rfl) rfl dJx35411_init_45d68_11) <| ch_cons (pc := 14) (pc' := 15) (ok_aloadRn C dJx35411_init_45d68_14 rfl) <| ch_cons (pc := 15) (pc' := 16) (ok_aloadRn C dJx35411_init_45d68_15 rfl) <| ch_cons (pc := 16) (pc' := 19) (ok_get C hn (fun w h => kG_in (inG_Jx35411 w h)) (kcl_at hE 1 rfl) (by decide) (kG_in gw_670) (fun _ h => h) dJx35411_init_45d68_16) <| ch_cons (pc := 19) (pc' := 22) (ok_get C hn (fun w h => kG_in (inG_Jx4a65c w h)) (kcl_at hE 2 rfl) (by decide) (kG_in gw_674) (fun x h => u_same (C.2.2.2.2.1 _ (kG_in gw_673)) x h) dJx35411_init_45d68_19) <| ch_cons (pc := 22) (pc' := 25) (ok_put C hn (fun w h => kG_in (inG_Jx35411 w h)) tyJx35411 tyJx35411_ok nmJx35411 (kcl_at hE 1 rfl) (by decide) (kG_in gw_675) (fun _ h => h) (Or.inl rfl) rfl dJx35411_init_45d68_22) <| ch_last (pc := 25) (ok_return C hr dJx35411_init_45d68_25))
/-- java/util/ArrayList$Itr.hasNext()Z -/
def bl_Jx35411_hasNext_aae02 (tb : List (List Int32)) (cl : kCall) : List (List kOp) := [
  [oLoadR 0, oGet 20 1 0, oLoadR 0, oGet 20 1 3, oGet 20 2 2, tCmp (fun x y => decide (x = y)) 2 1],
  [oS (gPush (.int 1)), tGo 3],
  [oS (gPush (.int 0)), tGo 3],
  [tZret]]
set_option maxRecDepth 100000 in
set_option maxHeartbeats 4000000 in
theorem mok_Jx35411_hasNext_aae02 {E : kE} {σ : List Nat} {l : Launch} {tb : List (List Int32)} (hE : kcl E = kCl) (hn : kn E = 20) (htb : ktb E = tb) : kMOK E (kXX (kb E) σ) σ kZs l kY kWS yJx35411_hasNext_aae02 (kws yJx35411_hasNext_aae02 cJx35411_hasNext_aae02 1 (some .boolean)) cJx35411_hasNext_aae02 1 (some .boolean) (fun cl => bl_Jx35411_hasNext_aae02 tb cl) := by
  intro d cl hS p e R s m args below meth c α0 nc0 ns0 res C hf hlo hr hnm hout
  have hXX : kXX (kb E) σ s := C.2.2.2.2.2.2.1.2.2.2.2
  refine ⟨fun b => [0, 14, 18, 19].getD b 0, rfl, kAllB_get (bl := bl_Jx35411_hasNext_aae02 tb cl) ⟨?_, ?_, ?_, ?_, trivial⟩⟩
  · exact (ch_cons (pc := 0) (pc' := 1) (ok_aloadRn C dJx35411_hasNext_aae02_0 rfl) <| ch_cons (pc := 1) (pc' := 4) (ok_get C hn (fun w h => kG_in (inG_Jx35411 w h)) (kcl_at hE 1 rfl) (by decide) (kG_in gw_676) (fun _ h => h) dJx35411_hasNext_aae02_1) <| ch_cons (pc := 4) (pc' := 5) (ok_aloadRn C dJx35411_hasNext_aae02_4 rfl) <| ch_cons (pc := 5) (pc' := 8) (ok_get C hn (fun w h => kG_in (inG_Jx35411 w h)) (kcl_at hE 1 rfl) (by decide) (kG_in gw_670) (fun _ h => h) dJx35411_hasNext_aae02_5) <| ch_cons (pc := 8) (pc' := 11) (ok_getN C hn (fun w h => kG_in (inG_Jx4a65c w h)) (kcl_at hE 2 rfl) (by decide) (xw_20 hXX) (fun _ h => h) dJx35411_hasNext_aae02_8) <| ch_last (pc := 11) (ok_icmp_eq (tgt := 18) C dJx35411_hasNext_aae02_11 (by decide) rfl rfl))
  · exact (ch_cons (pc := 14) (pc' := 15) (ok_iconst C dJx35411_hasNext_aae02_14 (by decide)) <| ch_last (pc := 15) (ok_goto (tgt := 19) C dJx35411_hasNext_aae02_15 (by decide) rfl))
  · exact (ch_cons (pc := 18) (pc' := 19) (ok_iconst C dJx35411_hasNext_aae02_18 (by decide)) <| ch_last (pc := 19) (ok_fall rfl))
  · exact (ch_last (pc := 19) (ok_zreturn C hr dJx35411_hasNext_aae02_19))
/-- java/util/ArrayList.<init>()V -/
def bl_Jx4a65c_init_da8c8 (tb : List (List Int32)) (cl : kCall) : List (List kOp) := [
  [oLoadR 0, oCallI cl 182 0, oLoadR 0, oGetS 8, oPut 20 2 1 (.array (.object "java/lang/Object")), tVret]]
set_option maxRecDepth 100000 in
set_option maxHeartbeats 4000000 in
theorem mok_Jx4a65c_init_da8c8 {E : kE} {σ : List Nat} {l : Launch} {tb : List (List Int32)} (hE : kcl E = kCl) (hn : kn E = 20) (htb : ktb E = tb) : kMOK E (kXX (kb E) σ) σ kZs l kY kWS yJx4a65c_init_da8c8 (kws yJx4a65c_init_da8c8 cJx4a65c_init_da8c8 1 none) cJx4a65c_init_da8c8 1 none (fun cl => bl_Jx4a65c_init_da8c8 tb cl) := by
  intro d cl hS p e R s m args below meth c α0 nc0 ns0 res C hf hlo hr hnm hout
  have hXX : kXX (kb E) σ s := C.2.2.2.2.2.2.1.2.2.2.2
  refine ⟨fun b => [0].getD b 0, rfl, kAllB_get (bl := bl_Jx4a65c_init_da8c8 tb cl) ⟨?_, trivial⟩⟩
  · exact (ch_cons (pc := 0) (pc' := 1) (ok_aloadRn C dJx4a65c_init_da8c8_0 rfl) <| ch_cons (pc := 1) (pc' := 4) (ok_callI (d := d) C hout hf hlo (sn_182 hS) rfl (kG_ws gw_677) (kG_in gw_678) (kG_in gw_679) (kG_in gw_680) rfl (by decide) (by decide +kernel) dJx4a65c_init_da8c8_1) <| ch_cons (pc := 4) (pc' := 5) (ok_aloadRn C dJx4a65c_init_da8c8_4 rfl) <| ch_cons (pc := 5) (pc' := 8) (ok_getZ C (e0_ok hXX) (kG_in gw_681) dJx4a65c_init_da8c8_5) <| ch_cons (pc := 8) (pc' := 11) (ok_put C hn (fun w h => kG_in (inG_Jx4a65c w h)) tyJx4a65c tyJx4a65c_ok nmJx4a65c (kcl_at hE 2 rfl) (by decide) (kG_in gw_682) (fun _ h => h) (Or.inl rfl) rfl dJx4a65c_init_da8c8_8) <| ch_last (pc := 11) (ok_return C hr dJx4a65c_init_da8c8_11))
/-- java/util/ArrayList.grow(I)[Ljava/lang/Object; -/
def bl_Jx4a65c_grow_92f84 (tb : List (List Int32)) (cl : kCall) : List (List kOp) := [
  [oLoadR 0, oGet 20 2 1, oAlen tb, oStoreI 2, oLoadI 2, tIf (fun x => decide (0 < x)) 2 1],
  [oLoadR 0, oGet 20 2 1, oGetS 8, tSame 3],
  [oLoadI 2, oLoadI 1, oLoadI 2, oBin (fun x y => x - y), oLoadI 2, oS (gPush (.int 1)), oBin (fun x y => x >>> (y &&& 31)), oStuck],
  [oLoadR 0, oS (gPush (.int 10)), oLoadI 1, oMax true, oNewq 20 109, oS gDupX1, oPut 20 2 1 (.array (.object "java/lang/Object")), tAret]]
set_option maxRecDepth 100000 in
set_option maxHeartbeats 4000000 in
theorem mok_Jx4a65c_grow_92f84 {E : kE} {σ : List Nat} {l : Launch} {tb : List (List Int32)} (hE : kcl E = kCl) (hn : kn E = 20) (htb : ktb E = tb) : kMOK E (kXX (kb E) σ) σ kZs l kY kWS yJx4a65c_grow_92f84 (kws yJx4a65c_grow_92f84 cJx4a65c_grow_92f84 4 (some (.array (.object "java/lang/Object")))) cJx4a65c_grow_92f84 4 (some (.array (.object "java/lang/Object"))) (fun cl => bl_Jx4a65c_grow_92f84 tb cl) := by
  intro d cl hS p e R s m args below meth c α0 nc0 ns0 res C hf hlo hr hnm hout
  have hXX : kXX (kb E) σ s := C.2.2.2.2.2.2.1.2.2.2.2
  refine ⟨fun b => [0, 10, 20, 45].getD b 0, rfl, kAllB_get (bl := bl_Jx4a65c_grow_92f84 tb cl) ⟨?_, ?_, ?_, ?_, trivial⟩⟩
  · exact (ch_cons (pc := 0) (pc' := 1) (ok_aloadRn C dJx4a65c_grow_92f84_0 rfl) <| ch_cons (pc := 1) (pc' := 4) (ok_get C hn (fun w h => kG_in (inG_Jx4a65c w h)) (kcl_at hE 2 rfl) (by decide) (kG_in gw_682) (fun _ h => h) dJx4a65c_grow_92f84_1) <| ch_cons (pc := 4) (pc' := 5) (ok_alen C htb dJx4a65c_grow_92f84_4) <| ch_cons (pc := 5) (pc' := 6) (ok_istoren C dJx4a65c_grow_92f84_5 rfl (by decide)) <| ch_cons (pc := 6) (pc' := 7) (ok_iloadn C dJx4a65c_grow_92f84_6 rfl) <| ch_last (pc := 7) (ok_if_gt (tgt := 20) C dJx4a65c_grow_92f84_7 (by decide) rfl rfl))
  · exact (ch_cons (pc := 10) (pc' := 11) (ok_aloadRn C dJx4a65c_grow_92f84_10 rfl) <| ch_cons (pc := 11) (pc' := 14) (ok_get C hn (fun w h => kG_in (inG_Jx4a65c w h)) (kcl_at hE 2 rfl) (by decide) (kG_in gw_682) (fun _ h => h) dJx4a65c_grow_92f84_11) <| ch_cons (pc := 14) (pc' := 17) (ok_getZ C (e0_ok hXX) (kG_in gw_681) dJx4a65c_grow_92f84_14) <| ch_last (pc := 17) (ok_acmp_eq (tgt := 45) C dJx4a65c_grow_92f84_17 (by decide) rfl))
  · exact (ch_cons (pc := 20) (pc' := 21) (ok_iloadn C dJx4a65c_grow_92f84_20 rfl) <| ch_cons (pc := 21) (pc' := 22) (ok_iloadn C dJx4a65c_grow_92f84_21 rfl) <| ch_cons (pc := 22) (pc' := 23) (ok_iloadn C dJx4a65c_grow_92f84_22 rfl) <| ch_cons (pc := 23) (pc' := 24) (ok_isub C dJx4a65c_grow_92f84_23) <| ch_cons (pc := 24) (pc' := 25) (ok_iloadn C dJx4a65c_grow_92f84_24 rfl) <| ch_cons (pc := 25) (pc' := 26) (ok_iconst C dJx4a65c_grow_92f84_25 (by decide)) <| ch_cons (pc := 26) (pc' := 27) (ok_ishr C dJx4a65c_grow_92f84_26) <| ch_last (pc := 27) (ok_stuck))
  · exact (ch_cons (pc := 45) (pc' := 46) (ok_aloadRn C dJx4a65c_grow_92f84_45 rfl) <| ch_cons (pc := 46) (pc' := 48) (ok_bipush C dJx4a65c_grow_92f84_46 (by decide)) <| ch_cons (pc := 48) (pc' := 49) (ok_iloadn C dJx4a65c_grow_92f84_48 rfl) <| ch_cons (pc := 49) (pc' := 52) (ok_max C (kG_in gw_683) (kG_in gw_36) (kG_in gw_37) (kG_in gw_38) dJx4a65c_grow_92f84_49) <| ch_cons (pc := 52) (pc' := 55) (ok_newq C hn (by decide) rfl (kG_in gw_684) (xw_21 hXX) dJx4a65c_grow_92f84_52) <| ch_cons (pc := 55) (pc' := 56) (ok_dupx1 C dJx4a65c_grow_92f84_55) <| ch_cons (pc := 56) (pc' := 59) (ok_put C hn (fun w h => kG_in (inG_Jx4a65c w h)) tyJx4a65c tyJx4a65c_ok nmJx4a65c (kcl_at hE 2 rfl) (by decide) (kG_in gw_682) (fun _ h => h) (Or.inl rfl) rfl dJx4a65c_grow_92f84_56) <| ch_last (pc := 59) (ok_areturn C hr (Or.inr ⟨_, rfl⟩) dJx4a65c_grow_92f84_59))
/-- java/util/ArrayList.grow()[Ljava/lang/Object; -/
def bl_Jx4a65c_grow_d5877 (tb : List (List Int32)) (cl : kCall) : List (List kOp) := [
  [oLoadR 0, oLoadR 0, oGet 20 2 2, oS (gPush (.int 1)), oBin (fun x y => x + y), oCallV cl 186 1 2 20, tAret]]
set_option maxRecDepth 100000 in
set_option maxHeartbeats 4000000 in
theorem mok_Jx4a65c_grow_d5877 {E : kE} {σ : List Nat} {l : Launch} {tb : List (List Int32)} (hE : kcl E = kCl) (hn : kn E = 20) (htb : ktb E = tb) : kMOK E (kXX (kb E) σ) σ kZs l kY kWS yJx4a65c_grow_d5877 (kws yJx4a65c_grow_d5877 cJx4a65c_grow_d5877 1 (some (.array (.object "java/lang/Object")))) cJx4a65c_grow_d5877 1 (some (.array (.object "java/lang/Object"))) (fun cl => bl_Jx4a65c_grow_d5877 tb cl) := by
  intro d cl hS p e R s m args below meth c α0 nc0 ns0 res C hf hlo hr hnm hout
  have hXX : kXX (kb E) σ s := C.2.2.2.2.2.2.1.2.2.2.2
  refine ⟨fun b => [0].getD b 0, rfl, kAllB_get (bl := bl_Jx4a65c_grow_d5877 tb cl) ⟨?_, trivial⟩⟩
  · exact (ch_cons (pc := 0) (pc' := 1) (ok_aloadRn C dJx4a65c_grow_d5877_0 rfl) <| ch_cons (pc := 1) (pc' := 2) (ok_aloadRn C dJx4a65c_grow_d5877_1 rfl) <| ch_cons (pc := 2) (pc' := 5) (ok_get C hn (fun w h => kG_in (inG_Jx4a65c w h)) (kcl_at hE 2 rfl) (by decide) (kG_in gw_685) (fun _ h => h) dJx4a65c_grow_d5877_2) <| ch_cons (pc := 5) (pc' := 6) (ok_iconst C dJx4a65c_grow_d5877_5 (by decide)) <| ch_cons (pc := 6) (pc' := 7) (ok_iadd C dJx4a65c_grow_d5877_6) <| ch_cons (pc := 7) (pc' := 10) (ok_callV (d := d) (maxL := 4) C hn hout hf hlo (sn_186 hS) rfl (kcl_at hE 2 rfl) (kG_v gw_686 gw_687 gw_688 gw_689 gw_492) (by decide) (by decide +kernel) dJx4a65c_grow_d5877_7) <| ch_last (pc := 10) (ok_areturn C hr (Or.inr ⟨_, rfl⟩) dJx4a65c_grow_d5877_10))
/-- java/util/ArrayList.size()I -/
def bl_Jx4a65c_size_8abf5 (tb : List (List Int32)) (cl : kCall) : List (List kOp) := [
  [oLoadR 0, oGet 20 2 2, tIret]]
set_option maxRecDepth 100000 in
set_option maxHeartbeats 4000000 in
theorem mok_Jx4a65c_size_8abf5 {E : kE} {σ : List Nat} {l : Launch} {tb : List (List Int32)} (hE : kcl E = kCl) (hn : kn E = 20) (htb : ktb E = tb) : kMOK E (kXX (kb E) σ) σ kZs l kY kWS yJx4a65c_size_8abf5 (kws yJx4a65c_size_8abf5 cJx4a65c_size_8abf5 1 (some .int)) cJx4a65c_size_8abf5 1 (some .int) (fun cl => bl_Jx4a65c_size_8abf5 tb cl) := by
  intro d cl hS p e R s m args below meth c α0 nc0 ns0 res C hf hlo hr hnm hout
  have hXX : kXX (kb E) σ s := C.2.2.2.2.2.2.1.2.2.2.2
  refine ⟨fun b => [0].getD b 0, rfl, kAllB_get (bl := bl_Jx4a65c_size_8abf5 tb cl) ⟨?_, trivial⟩⟩
  · exact (ch_cons (pc := 0) (pc' := 1) (ok_aloadRn C dJx4a65c_size_8abf5_0 rfl) <| ch_cons (pc := 1) (pc' := 4) (ok_get C hn (fun w h => kG_in (inG_Jx4a65c w h)) (kcl_at hE 2 rfl) (by decide) (kG_in gw_685) (fun _ h => h) dJx4a65c_size_8abf5_1) <| ch_last (pc := 4) (ok_ireturn C hr dJx4a65c_size_8abf5_4))
/-- java/util/ArrayList.add(Ljava/lang/Object;[Ljava/lang/Object;I)V -/
def bl_Jx4a65c_add_72be8 (tb : List (List Int32)) (cl : kCall) : List (List kOp) := [
  [oLoadI 3, oLoadR 2, oAlen tb, tCmp (fun x y => !decide (x = y)) 2 1],
  [oLoadR 0, oCallV cl 187 0 2 20, oStoreR 2, tGo 2],
  [oLoadR 2, oLoadI 3, oLoadR 1, oAstO 20 kpa, oLoadR 0, oLoadI 3, oS (gPush (.int 1)), oBin (fun x y => x + y), oPut 20 2 2 .int, tVret]]
set_option maxRecDepth 100000 in
set_option maxHeartbeats 4000000 in
theorem mok_Jx4a65c_add_72be8 {E : kE} {σ : List Nat} {l : Launch} {tb : List (List Int32)} (hE : kcl E = kCl) (hn : kn E = 20) (htb : ktb E = tb) : kMOK E (kXX (kb E) σ) σ kZs l kY kWS yJx4a65c_add_72be8 (kws yJx4a65c_add_72be8 cJx4a65c_add_72be8 4 none) cJx4a65c_add_72be8 4 none (fun cl => bl_Jx4a65c_add_72be8 tb cl) := by
  intro d cl hS p e R s m args below meth c α0 nc0 ns0 res C hf hlo hr hnm hout
  have hXX : kXX (kb E) σ s := C.2.2.2.2.2.2.1.2.2.2.2
  refine ⟨fun b => [0, 6, 11].getD b 0, rfl, kAllB_get (bl := bl_Jx4a65c_add_72be8 tb cl) ⟨?_, ?_, ?_, trivial⟩⟩
  · exact (ch_cons (pc := 0) (pc' := 1) (ok_iloadn C dJx4a65c_add_72be8_0 rfl) <| ch_cons (pc := 1) (pc' := 2) (ok_aloadRn C dJx4a65c_add_72be8_1 rfl) <| ch_cons (pc := 2) (pc' := 3) (ok_alen C htb dJx4a65c_add_72be8_2) <| ch_last (pc := 3) (ok_icmp_ne (tgt := 11) C dJx4a65c_add_72be8_3 (by decide) rfl rfl))
  · exact (ch_cons (pc := 6) (pc' := 7) (ok_aloadRn C dJx4a65c_add_72be8_6 rfl) <| ch_cons (pc := 7) (pc' := 10) (ok_callV (d := d) (maxL := 1) C hn hout hf hlo (sn_187 hS) rfl (kcl_at hE 2 rfl) (kG_v gw_690 gw_691 gw_692 gw_693 gw_492) (by decide) (by decide +kernel) dJx4a65c_add_72be8_7) <| ch_cons (pc := 10) (pc' := 11) (ok_astoreRn C dJx4a65c_add_72be8_10 rfl (by decide)) <| ch_last (pc := 11) (ok_fall rfl))
  · exact (ch_cons (pc := 11) (pc' := 12) (ok_aloadRn C dJx4a65c_add_72be8_11 rfl) <| ch_cons (pc := 12) (pc' := 13) (ok_iloadn C dJx4a65c_add_72be8_12 rfl) <| ch_cons (pc := 13) (pc' := 14) (ok_aloadRn C dJx4a65c_add_72be8_13 rfl) <| ch_cons (pc := 14) (pc' := 15) (ok_aastoreO C hn (kpa_ok hE hXX) (io_ok hXX) (xw_22 hXX) dJx4a65c_add_72be8_14) <| ch_cons (pc := 15) (pc' := 16) (ok_aloadRn C dJx4a65c_add_72be8_15 rfl) <| ch_cons (pc := 16) (pc' := 17) (ok_iloadn C dJx4a65c_add_72be8_16 rfl) <| ch_cons (pc := 17) (pc' := 18) (ok_iconst C dJx4a65c_add_72be8_17 (by decide)) <| ch_cons (pc := 18) (pc' := 19) (ok_iadd C dJx4a65c_add_72be8_18) <| ch_cons (pc := 19) (pc' := 22) (ok_put C hn (fun w h => kG_in (inG_Jx4a65c w h)) tyJx4a65c tyJx4a65c_ok nmJx4a65c (kcl_at hE 2 rfl) (by decide) (kG_in gw_685) (fun _ h => h) (Or.inl rfl) rfl dJx4a65c_add_72be8_19) <| ch_last (pc := 22) (ok_return C hr dJx4a65c_add_72be8_22))
/-- java/util/ArrayList.add(Ljava/lang/Object;)Z -/
def bl_Jx4a65c_add_9ea2d (tb : List (List Int32)) (cl : kCall) : List (List kOp) := [
  [oLoadR 0, oS gDup, oGet 20 2 0, oS (gPush (.int 1)), oBin (fun x y => x + y), oPut 20 2 0 .int, oLoadR 0, oLoadR 1, oLoadR 0, oGet 20 2 1, oLoadR 0, oGet 20 2 2, oCallV cl 189 3 2 20, oS (gPush (.int 1)), tZret]]
set_option maxRecDepth 100000 in
set_option maxHeartbeats 4000000 in
theorem mok_Jx4a65c_add_9ea2d {E : kE} {σ : List Nat} {l : Launch} {tb : List (List Int32)} (hE : kcl E = kCl) (hn : kn E = 20) (htb : ktb E = tb) : kMOK E (kXX (kb E) σ) σ kZs l kY kWS yJx4a65c_add_9ea2d (kws yJx4a65c_add_9ea2d cJx4a65c_add_9ea2d 2 (some .boolean)) cJx4a65c_add_9ea2d 2 (some .boolean) (fun cl => bl_Jx4a65c_add_9ea2d tb cl) := by
  intro d cl hS p e R s m args below meth c α0 nc0 ns0 res C hf hlo hr hnm hout
  have hXX : kXX (kb E) σ s := C.2.2.2.2.2.2.1.2.2.2.2
  refine ⟨fun b => [0].getD b 0, rfl, kAllB_get (bl := bl_Jx4a65c_add_9ea2d tb cl) ⟨?_, trivial⟩⟩
  · exact (ch_cons (pc := 0) (pc' := 1) (ok_aloadRn C dJx4a65c_add_9ea2d_0 rfl) <| ch_cons (pc := 1) (pc' := 2) (ok_dup C dJx4a65c_add_9ea2d_1) <| ch_cons (pc := 2) (pc' := 5) (ok_get C hn (fun w h => kG_in (inG_Jx4a65c w h)) (kcl_at hE 2 rfl) (by decide) (kG_in gw_694) (fun x h => u_same (C.2.2.2.2.1 _ (kG_in gw_673)) x h) dJx4a65c_add_9ea2d_2) <| ch_cons (pc := 5) (pc' := 6) (ok_iconst C dJx4a65c_add_9ea2d_5 (by decide)) <| ch_cons (pc := 6) (pc' := 7) (ok_iadd C dJx4a65c_add_9ea2d_6) <| ch_cons (pc := 7) (pc' := 10) (ok_put C hn (fun w h => kG_in (inG_Jx4a65c w h)) tyJx4a65c tyJx4a65c_ok nmJx4a65c (kcl_at hE 2 rfl) (by decide) (kG_in gw_694) (fun x h => u_same (C.2.2.2.2.1 _ (kG_in gw_673)) x h) (Or.inl rfl) rfl dJx4a65c_add_9ea2d_7) <| ch_cons (pc := 10) (pc' := 11) (ok_aloadRn C dJx4a65c_add_9ea2d_10 rfl) <| ch_cons (pc := 11) (pc' := 12) (ok_aloadRn C dJx4a65c_add_9ea2d_11 rfl) <| ch_cons (pc := 12) (pc' := 13) (ok_aloadRn C dJx4a65c_add_9ea2d_12 rfl) <| ch_cons (pc := 13) (pc' := 16) (ok_get C hn (fun w h => kG_in (inG_Jx4a65c w h)) (kcl_at hE 2 rfl) (by decide) (kG_in gw_682) (fun _ h => h) dJx4a65c_add_9ea2d_13) <| ch_cons (pc := 16) (pc' := 17) (ok_aloadRn C dJx4a65c_add_9ea2d_16 rfl) <| ch_cons (pc := 17) (pc' := 20) (ok_get C hn (fun w h => kG_in (inG_Jx4a65c w h)) (kcl_at hE 2 rfl) (by decide) (kG_in gw_685) (fun _ h => h) dJx4a65c_add_9ea2d_17) <| ch_cons (pc := 20) (pc' := 23) (ok_callV (d := d) (maxL := 4) C hn hout hf hlo (sn_189 hS) rfl (kcl_at hE 2 rfl) (kG_v gw_695 gw_696 gw_697 gw_698 gw_492) (by decide) (by decide +kernel) dJx4a65c_add_9ea2d_20) <| ch_cons (pc := 23) (pc' := 24) (ok_iconst C dJx4a65c_add_9ea2d_23 (by decide)) <| ch_last (pc := 24) (ok_zreturn C hr dJx4a65c_add_9ea2d_24))
/-- java/util/ArrayList.clear()V -/
def bl_Jx4a65c_clear_da8c8 (tb : List (List Int32)) (cl : kCall) : List (List kOp) := [
  [oLoadR 0, oS gDup, oGet 20 2 0, oS (gPush (.int 1)), oBin (fun x y => x + y), oPut 20 2 0 .int, oLoadR 0, oGet 20 2 1, oStoreR 1, oLoadR 0, oGet 20 2 2, oStoreI 2, oLoadR 0, oS (gPush (.int 0)), oS gDupX1, oPut 20 2 2 .int, oStoreI 3, tGo 1],
  [oLoadI 3, oLoadI 2, tCmp (fun x y => decide (y ≤ x)) 3 2],
  [oLoadR 1, oLoadI 3, oS (gPush .null), oStuck],
  [tVret]]
set_option maxRecDepth 100000 in
set_option maxHeartbeats 4000000 in
theorem mok_Jx4a65c_clear_da8c8 {E : kE} {σ : List Nat} {l : Launch} {tb : List (List Int32)} (hE : kcl E = kCl) (hn : kn E = 20) (htb : ktb E = tb) : kMOK E (kXX (kb E) σ) σ kZs l kY kWS yJx4a65c_clear_da8c8 (kws yJx4a65c_clear_da8c8 cJx4a65c_clear_da8c8 4 none) cJx4a65c_clear_da8c8 4 none (fun cl => bl_Jx4a65c_clear_da8c8 tb cl) := by
  intro d cl hS p e R s m args below meth c α0 nc0 ns0 res C hf hlo hr hnm hout
  have hXX : kXX (kb E) σ s := C.2.2.2.2.2.2.1.2.2.2.2
  refine ⟨fun b => [0, 27, 32, 42].getD b 0, rfl, kAllB_get (bl := bl_Jx4a65c_clear_da8c8 tb cl) ⟨?_, ?_, ?_, ?_, trivial⟩⟩
  · exact (ch_cons (pc := 0) (pc' := 1) (ok_aloadRn C dJx4a65c_clear_da8c8_0 rfl) <| ch_cons (pc := 1) (pc' := 2) (ok_dup C dJx4a65c_clear_da8c8_1) <| ch_cons (pc := 2) (pc' := 5) (ok_get C hn (fun w h => kG_in (inG_Jx4a65c w h)) (kcl_at hE 2 rfl) (by decide) (kG_in gw_694) (fun x h => u_same (C.2.2.2.2.1 _ (kG_in gw_673)) x h) dJx4a65c_clear_da8c8_2) <| ch_cons (pc := 5) (pc' := 6) (ok_iconst C dJx4a65c_clear_da8c8_5 (by decide)) <| ch_cons (pc := 6) (pc' := 7) (ok_iadd C dJx4a65c_clear_da8c8_6) <| ch_cons (pc := 7) (pc' := 10) (ok_put C hn (fun w h => kG_in (inG_Jx4a65c w h)) tyJx4a65c tyJx4a65c_ok nmJx4a65c (kcl_at hE 2 rfl) (by decide) (kG_in gw_694) (fun x h => u_same (C.2.2.2.2.1 _ (kG_in gw_673)) x h) (Or.inl rfl) rfl dJx4a65c_clear_da8c8_7) <| ch_cons (pc := 10) (pc' := 11) (ok_aloadRn C dJx4a65c_clear_da8c8_10 rfl) <| ch_cons (pc := 11) (pc' := 14) (ok_get C hn (fun w h => kG_in (inG_Jx4a65c w h)) (kcl_at hE 2 rfl) (by decide) (kG_in gw_682) (fun _ h => h) dJx4a65c_clear_da8c8_11) <| ch_cons (pc := 14) (pc' := 15) (ok_astoreRn C dJx4a65c_clear_da8c8_14 rfl (by decide)) <| ch_cons (pc := 15) (pc' := 16) (ok_aloadRn C dJx4a65c_clear_da8c8_15 rfl) <| ch_cons (pc := 16) (pc' := 19) (ok_get C hn (fun w h => kG_in (inG_Jx4a65c w h)) (kcl_at hE 2 rfl) (by decide) (kG_in gw_685) (fun _ h => h) dJx4a65c_clear_da8c8_16) <| ch_cons (pc := 19) (pc' := 20) (ok_istoren C dJx4a65c_clear_da8c8_19 rfl (by decide)) <| ch_cons (pc := 20) (pc' := 21) (ok_aloadRn C dJx4a65c_clear_da8c8_20 rfl) <| ch_cons (pc := 21) (pc' := 22) (ok_iconst C dJx4a65c_clear_da8c8_21 (by decide)) <| ch_cons (pc := 22) (pc' := 23) (ok_dupx1 C dJx4a65c_clear_da8c8_22) <| ch_cons (pc := 23) (pc' := 26) (ok_put C hn (fun w h => kG_in (inG_Jx4a65c w h)) tyJx4a65c tyJx4a65c_ok nmJx4a65c (kcl_at hE 2 rfl) (by decide) (kG_in gw_685) (fun _ h => h) (Or.inl rfl) rfl dJx4a65c_clear_da8c8_23) <| ch_cons (pc := 26) (pc' := 27) (ok_istoren C dJx4a65c_clear_da8c8_26 rfl (by decide)) <| ch_last (pc := 27) (ok_fall rfl))
  · exact (ch_cons (pc := 27) (pc' := 28) (ok_iloadn C dJx4a65c_clear_da8c8_27 rfl) <| ch_cons (pc := 28) (pc' := 29) (ok_iloadn C dJx4a65c_clear_da8c8_28 rfl) <| ch_last (pc := 29) (ok_icmp_ge (tgt := 42) C dJx4a65c_clear_da8c8_29 (by decide) rfl rfl))
  · exact (ch_cons (pc := 32) (pc' := 33) (ok_aloadRn C dJx4a65c_clear_da8c8_32 rfl) <| ch_cons (pc := 33) (pc' := 34) (ok_iloadn C dJx4a65c_clear_da8c8_33 rfl) <| ch_cons (pc := 34) (pc' := 35) (ok_null C dJx4a65c_clear_da8c8_34) <| ch_last (pc := 35) (ok_stuck))
  · exact (ch_last (pc := 42) (ok_return C hr dJx4a65c_clear_da8c8_42))
/-- java/util/ArrayList.iterator()Ljava/util/Iterator; -/
def bl_Jx4a65c_iterator_32c93 (tb : List (List Int32)) (cl : kCall) : List (List kOp) := [
  [oNew 20 1 4 [.int 0, .int 0, .int 0, .null], oS gDup, oLoadR 0, oCallI cl 183 1, tAret]]
set_option maxRecDepth 100000 in
set_option maxHeartbeats 4000000 in
theorem mok_Jx4a65c_iterator_32c93 {E : kE} {σ : List Nat} {l : Launch} {tb : List (List Int32)} (hE : kcl E = kCl) (hn : kn E = 20) (htb : ktb E = tb) : kMOK E (kXX (kb E) σ) σ kZs l kY kWS yJx4a65c_iterator_32c93 (kws yJx4a65c_iterator_32c93 cJx4a65c_iterator_32c93 1 (some (.object "java/util/Iterator"))) cJx4a65c_iterator_32c93 1 (some (.object "java/util/Iterator")) (fun cl => bl_Jx4a65c_iterator_32c93 tb cl) := by
  intro d cl hS p e R s m args below meth c α0 nc0 ns0 res C hf hlo hr hnm hout
  have hXX : kXX (kb E) σ s := C.2.2.2.2.2.2.1.2.2.2.2
  refine ⟨fun b => [0].getD b 0, rfl, kAllB_get (bl := bl_Jx4a65c_iterator_32c93 tb cl) ⟨?_, trivial⟩⟩
  · exact (ch_cons (pc := 0) (pc' := 3) (ok_new C hn (fun w h => kG_in (inG_Jx35411 w h)) tyJx35411 tyJx35411_ok (kcl_at hE 1 rfl) (kG_in gw_699) (kG_in gw_700) (kG_in gw_648) rfl dJx4a65c_iterator_32c93_0) <| ch_cons (pc := 3) (pc' := 4) (ok_dup C dJx4a65c_iterator_32c93_3) <| ch_cons (pc := 4) (pc' := 5) (ok_aloadRn C dJx4a65c_iterator_32c93_4 rfl) <| ch_cons (pc := 5) (pc' := 8) (ok_callI (d := d) C hout hf hlo (sn_183 hS) rfl (kG_ws gw_701) (kG_in gw_648) (kG_in gw_702) (kG_in gw_703) rfl (by decide) (by decide +kernel) dJx4a65c_iterator_32c93_5) <| ch_last (pc := 8) (ok_areturn C hr (Or.inl ⟨_, rfl⟩) dJx4a65c_iterator_32c93_8))
/-- BijectoryLaw.size(LBijectory;I[J)I -/
def bl_L_size (tb : List (List Int32)) (cl : kCall) : List (List kOp) := [
  [oLoadR 2, oS (gPush (.int 0)), oLoadR 0, oLoadI 1, oCallVX cl 76 1 8 20 (hkL [(0, 3, 3)]) 1],
  [oS gI2l, oLast 20, tGo 4],
  [oStuck],
  [oS (gPush (.int 1)), tIret],
  [oS (gPush (.int 0)), tIret]]
set_option maxRecDepth 100000 in
set_option maxHeartbeats 4000000 in
theorem mok_L_size {E : kE} {σ : List Nat} {l : Launch} {tb : List (List Int32)} (hE : kcl E = kCl) (hn : kn E = 20) (htb : ktb E = tb) : kMOKH E (kXX (kb E) σ) σ kZs l kY kWS yL_size (kwsH yL_size cL_size 4 (some .int) [(0, 9, 12, 13)]) cL_size 4 (some .int) [(0, 9, 12, 13)] (fun cl => bl_L_size tb cl) := by
  intro d cl hS p e R s m args below meth c α0 nc0 ns0 res C hf hlo hr hnm htab
  have hXX : kXX (kb E) σ s := C.2.2.2.2.2.2.1.2.2.2.2
  refine ⟨fun b => [0, 7, 12, 13, 15].getD b 0, rfl, kAllB_get (bl := bl_L_size tb cl) ⟨?_, ?_, ?_, ?_, ?_, trivial⟩⟩
  · exact (ch_cons (pc := 0) (pc' := 1) (ok_aloadRn C dL_size_0 rfl) <| ch_cons (pc := 1) (pc' := 2) (ok_iconst C dL_size_1 (by decide)) <| ch_cons (pc := 2) (pc' := 3) (ok_aloadRn C dL_size_2 rfl) <| ch_cons (pc := 3) (pc' := 4) (ok_iloadn C dL_size_3 rfl) <| ch_last (pc := 4) (ok_callVX (d := d) (maxL := 4) C hn (hkL_all (List.forall_mem_cons.mpr ⟨k_catch (k := 0) (i := 3) C [] ⟨0, 9, 12, 13⟩ [] (htab.trans rfl) (fun _ h => absurd h List.not_mem_nil) rfl (by decide) (kG_in gw_705) (xw_23 hXX) (by decide) (Or.inl ⟨3, rfl, dL_size_12, rfl⟩), (fun _ h => absurd h List.not_mem_nil)⟩)) rfl hf hlo (sn_76 hS) rfl (kcl_at hE 8 rfl) (kG_v gw_704 gw_706 gw_707 gw_708 gw_300) (by decide) (by decide +kernel) dL_size_4))
  · exact (ch_cons (pc := 7) (pc' := 8) (ok_i2l C dL_size_7) <| ch_cons (pc := 8) (pc' := 9) (ok_lastore C hn dL_size_8) <| ch_last (pc := 9) (ok_goto (tgt := 15) C dL_size_9 (by decide) rfl))
  · exact (ch_last (pc := 12) (ok_stuck))
  · exact (ch_cons (pc := 13) (pc' := 14) (ok_iconst C dL_size_13 (by decide)) <| ch_last (pc := 14) (ok_ireturn C hr dL_size_14))
  · exact (ch_cons (pc := 15) (pc' := 16) (ok_iconst C dL_size_15 (by decide)) <| ch_last (pc := 16) (ok_ireturn C hr dL_size_16))
/-- BijectoryLaw.map(LBijectory;I[J)I -/
def bl_L_map (tb : List (List Int32)) (cl : kCall) : List (List kOp) := [
  [oLoadR 2, oS (gPush (.int 0)), oLoadR 0, oLoadI 1, oCallVX cl 77 1 8 20 (hkL [(0, 3, 3), (1, 5, 3)]) 1],
  [oS gI2l, oLast 20, tGo 6],
  [oStuck],
  [oS (gPush (.int 1)), tIret],
  [oStuck],
  [oS (gPush (.int 2)), tIret],
  [oS (gPush (.int 0)), tIret]]
set_option maxRecDepth 100000 in
set_option maxHeartbeats 4000000 in
theorem mok_L_map {E : kE} {σ : List Nat} {l : Launch} {tb : List (List Int32)} (hE : kcl E = kCl) (hn : kn E = 20) (htb : ktb E = tb) : kMOKH E (kXX (kb E) σ) σ kZs l kY kWS yL_map (kwsH yL_map cL_map 4 (some .int) [(0, 9, 12, 13), (0, 9, 15, 18)]) cL_map 4 (some .int) [(0, 9, 12, 13), (0, 9, 15, 18)] (fun cl => bl_L_map tb cl) := by
  intro d cl hS p e R s m args below meth c α0 nc0 ns0 res C hf hlo hr hnm htab
  have hXX : kXX (kb E) σ s := C.2.2.2.2.2.2.1.2.2.2.2
  refine ⟨fun b => [0, 7, 12, 13, 15, 16, 18].getD b 0, rfl, kAllB_get (bl := bl_L_map tb cl) ⟨?_, ?_, ?_, ?_, ?_, ?_, ?_, trivial⟩⟩
  · exact (ch_cons (pc := 0) (pc' := 1) (ok_aloadRn C dL_map_0 rfl) <| ch_cons (pc := 1) (pc' := 2) (ok_iconst C dL_map_1 (by decide)) <| ch_cons (pc := 2) (pc' := 3) (ok_aloadRn C dL_map_2 rfl) <| ch_cons (pc := 3) (pc' := 4) (ok_iloadn C dL_map_3 rfl) <| ch_last (pc := 4) (ok_callVX (d := d) (maxL := 2) C hn (hkL_all (List.forall_mem_cons.mpr ⟨k_catch (k := 0) (i := 3) C [] ⟨0, 9, 12, 13⟩ [⟨0, 9, 15, 18⟩] (htab.trans rfl) (fun _ h => absurd h List.not_mem_nil) rfl (by decide) (kG_in gw_705) (xw_23 hXX) (by decide) (Or.inl ⟨3, rfl, dL_map_12, rfl⟩), (List.forall_mem_cons.mpr ⟨k_catch (k := 1) (i := 3) C [⟨0, 9, 12, 13⟩] ⟨0, 9, 15, 18⟩ [] (htab.trans rfl) (List.forall_mem_cons.mpr ⟨Or.inr ⟨by decide, "java/lang/IllegalArgumentException", C.2.2.2.2.1 _ (kG_in gw_705), nc_0 hXX⟩, (fun _ h => absurd h List.not_mem_nil)⟩) rfl (by decide) (kG_in gw_710) (xw_24 hXX) (by decide) (Or.inl ⟨3, rfl, dL_map_15, rfl⟩), (fun _ h => absurd h List.not_mem_nil)⟩)⟩)) rfl hf hlo (sn_77 hS) rfl (kcl_at hE 8 rfl) (kG_v gw_709 gw_711 gw_712 gw_713 gw_300) (by decide) (by decide +kernel) dL_map_4))
  · exact (ch_cons (pc := 7) (pc' := 8) (ok_i2l C dL_map_7) <| ch_cons (pc := 8) (pc' := 9) (ok_lastore C hn dL_map_8) <| ch_last (pc := 9) (ok_goto (tgt := 18) C dL_map_9 (by decide) rfl))
  · exact (ch_last (pc := 12) (ok_stuck))
  · exact (ch_cons (pc := 13) (pc' := 14) (ok_iconst C dL_map_13 (by decide)) <| ch_last (pc := 14) (ok_ireturn C hr dL_map_14))
  · exact (ch_last (pc := 15) (ok_stuck))
  · exact (ch_cons (pc := 16) (pc' := 17) (ok_iconst C dL_map_16 (by decide)) <| ch_last (pc := 17) (ok_ireturn C hr dL_map_17))
  · exact (ch_cons (pc := 18) (pc' := 19) (ok_iconst C dL_map_18 (by decide)) <| ch_last (pc := 19) (ok_ireturn C hr dL_map_19))
/-- BijectoryLaw.then(LBijectory;II[J)I -/
def bl_L_then (tb : List (List Int32)) (cl : kCall) : List (List kOp) := [
  [oLoadR 3, oS (gPush (.int 0)), oLoadR 0, oLoadI 1, oLoadI 2, oCallVX cl 78 2 8 20 (hkL [(2, 3, 4), (0, 5, 4), (1, 7, 4)]) 1],
  [oS gI2l, oLast 20, tGo 8],
  [oStuck],
  [oS (gPush (.int 1)), tIret],
  [oStuck],
  [oS (gPush (.int 2)), tIret],
  [oStuck],
  [oS (gPush (.int 3)), tIret],
  [oS (gPush (.int 0)), tIret]]
set_option maxRecDepth 100000 in
set_option maxHeartbeats 4000000 in
theorem mok_L_then {E : kE} {σ : List Nat} {l : Launch} {tb : List (List Int32)} (hE : kcl E = kCl) (hn : kn E = 20) (htb : ktb E = tb) : kMOKH E (kXX (kb E) σ) σ kZs l kY kWS yL_then (kwsH yL_then cL_then 5 (some .int) [(0, 10, 13, 24), (0, 10, 17, 13), (0, 10, 21, 18)]) cL_then 5 (some .int) [(0, 10, 13, 24), (0, 10, 17, 13), (0, 10, 21, 18)] (fun cl => bl_L_then tb cl) := by
  intro d cl hS p e R s m args below meth c α0 nc0 ns0 res C hf hlo hr hnm htab
  have hXX : kXX (kb E) σ s := C.2.2.2.2.2.2.1.2.2.2.2
  refine ⟨fun b => [0, 8, 13, 15, 17, 19, 21, 23, 25].getD b 0, rfl, kAllB_get (bl := bl_L_then tb cl) ⟨?_, ?_, ?_, ?_, ?_, ?_, ?_, ?_, ?_, trivial⟩⟩
  · exact (ch_cons (pc := 0) (pc' := 1) (ok_aloadRn C dL_then_0 rfl) <| ch_cons (pc := 1) (pc' := 2) (ok_iconst C dL_then_1 (by decide)) <| ch_cons (pc := 2) (pc' := 3) (ok_aloadRn C dL_then_2 rfl) <| ch_cons (pc := 3) (pc' := 4) (ok_iloadn C dL_then_3 rfl) <| ch_cons (pc := 4) (pc' := 5) (ok_iloadn C dL_then_4 rfl) <| ch_last (pc := 5) (ok_callVX (d := d) (maxL := 4) C hn (hkL_all (List.forall_mem_cons.mpr ⟨k_catch (k := 2) (i := 4) C [] ⟨0, 10, 13, 24⟩ [⟨0, 10, 17, 13⟩, ⟨0, 10, 21, 18⟩] (htab.trans rfl) (fun _ h => absurd h List.not_mem_nil) rfl (by decide) (kG_in gw_715) (xw_25 hXX) (by decide) (Or.inr ⟨dL_then_13, rfl⟩), (List.forall_mem_cons.mpr ⟨k_catch (k := 0) (i := 4) C [⟨0, 10, 13, 24⟩] ⟨0, 10, 17, 13⟩ [⟨0, 10, 21, 18⟩] (htab.trans rfl) (List.forall_mem_cons.mpr ⟨Or.inr ⟨by decide, "java/lang/IndexOutOfBoundsException", C.2.2.2.2.1 _ (kG_in gw_715), nc_2 hXX⟩, (fun _ h => absurd h List.not_mem_nil)⟩) rfl (by decide) (kG_in gw_705) (xw_23 hXX) (by decide) (Or.inr ⟨dL_then_17, rfl⟩), (List.forall_mem_cons.mpr ⟨k_catch (k := 1) (i := 4) C [⟨0, 10, 13, 24⟩, ⟨0, 10, 17, 13⟩] ⟨0, 10, 21, 18⟩ [] (htab.trans rfl) (List.forall_mem_cons.mpr ⟨Or.inr ⟨by decide, "java/lang/IndexOutOfBoundsException", C.2.2.2.2.1 _ (kG_in gw_715), nc_1 hXX⟩, (List.forall_mem_cons.mpr ⟨Or.inr ⟨by decide, "java/lang/IllegalArgumentException", C.2.2.2.2.1 _ (kG_in gw_705), nc_0 hXX⟩, (fun _ h => absurd h List.not_mem_nil)⟩)⟩) rfl (by decide) (kG_in gw_710) (xw_24 hXX) (by decide) (Or.inr ⟨dL_then_21, rfl⟩), (fun _ h => absurd h List.not_mem_nil)⟩)⟩)⟩)) rfl hf hlo (sn_78 hS) rfl (kcl_at hE 8 rfl) (kG_v gw_714 gw_716 gw_717 gw_718 gw_300) (by decide) (by decide +kernel) dL_then_5))
  · exact (ch_cons (pc := 8) (pc' := 9) (ok_i2l C dL_then_8) <| ch_cons (pc := 9) (pc' := 10) (ok_lastore C hn dL_then_9) <| ch_last (pc := 10) (ok_goto (tgt := 25) C dL_then_10 (by decide) rfl))
  · exact (ch_last (pc := 13) (ok_stuck))
  · exact (ch_cons (pc := 15) (pc' := 16) (ok_iconst C dL_then_15 (by decide)) <| ch_last (pc := 16) (ok_ireturn C hr dL_then_16))
  · exact (ch_last (pc := 17) (ok_stuck))
  · exact (ch_cons (pc := 19) (pc' := 20) (ok_iconst C dL_then_19 (by decide)) <| ch_last (pc := 20) (ok_ireturn C hr dL_then_20))
  · exact (ch_last (pc := 21) (ok_stuck))
  · exact (ch_cons (pc := 23) (pc' := 24) (ok_iconst C dL_then_23 (by decide)) <| ch_last (pc := 24) (ok_ireturn C hr dL_then_24))
  · exact (ch_cons (pc := 25) (pc' := 26) (ok_iconst C dL_then_25 (by decide)) <| ch_last (pc := 26) (ok_ireturn C hr dL_then_26))
