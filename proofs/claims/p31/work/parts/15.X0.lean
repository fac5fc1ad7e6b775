/-- Bijectory$Chart.<init>(I)V -/
def bl_X0_init (tb : List (List Int32)) (cl : kCall) : List (List kOp) := [
  [oLoadR 0, oObj, oLoadR 0, oS (gPush (.int 6)), oNewa 6 100, oPut 6 0 2 (.array .int), oLoadR 0, oGet 6 0 2, oAlen tb, tIf (fun x => decide (x ≤ 0)) 2 1],
  [oLoadR 0, oGet 6 0 2, oS (gPush (.int 0)), oLoadI 1, oIast 6, tGo 2],
  [oLoadR 0, oS (gPush (.int 1)), oPut 6 0 3 .int, oLoadR 0, oGetS 0, oLoadI 1, oCall cl 0 2, oPut 6 0 0 .int, oLoadR 0, oGetS 1, oLoadI 1, oCall cl 0 2, oPut 6 0 1 .int, tVret]]
set_option maxRecDepth 100000 in
set_option maxHeartbeats 4000000 in
theorem mok_X0_init {E : kE} {σ : List Nat} {l : Launch} {tb : List (List Int32)} (hE : kcl E = kCl) (hn : kn E = 6) (htb : ktb E = tb) : kMOK E (kXX (kb E)) σ kZs l kY kWS yX0_init (kws yX0_init cX0_init 2 none) cX0_init 2 none (fun cl => bl_X0_init tb cl) := by
  intro d cl hS p e R s m args below meth c α0 nc0 ns0 res C hf hlo hr hnm hout
  have hXX : kXX (kb E) s := C.2.2.2.2.2.2.1.2.2.2.2
  refine ⟨fun b => [0, 20, 27].getD b 0, rfl, kAllB_get (bl := bl_X0_init tb cl) ⟨?_, ?_, ?_, trivial⟩⟩
  · exact (ch_cons (pc := 0) (pc' := 1) (ok_aloadRn C dX0_init_0 rfl) <| ch_cons (pc := 1) (pc' := 4) (ok_obj C (kG_in gw_185) (kG_in gw_87) (kG_in gw_88) dX0_init_1) <| ch_cons (pc := 4) (pc' := 5) (ok_aloadRn C dX0_init_4 rfl) <| ch_cons (pc := 5) (pc' := 7) (ok_bipush C dX0_init_5 (by decide)) <| ch_cons (pc := 7) (pc' := 9) (ok_newa C hn (by decide) rfl rfl (by decide) (fun _ h => by cases h) (kG_in gw_92) dX0_init_7) <| ch_cons (pc := 9) (pc' := 12) (ok_put C hn (fun w h => kG_in (inG_X0 w h)) tyX0 tyX0_ok nmX0 (kcl_at hE 0 rfl) (by decide) (kG_in gw_186) (fun _ h => h) (Or.inr ⟨rfl, hnm, rfl⟩) rfl dX0_init_9) <| ch_cons (pc := 12) (pc' := 13) (ok_aloadRn C dX0_init_12 rfl) <| ch_cons (pc := 13) (pc' := 16) (ok_get C hn (fun w h => kG_in (inG_X0 w h)) (kcl_at hE 0 rfl) (by decide) (kG_in gw_186) (fun _ h => h) dX0_init_13) <| ch_cons (pc := 16) (pc' := 17) (ok_alen C htb dX0_init_16) <| ch_last (pc := 17) (ok_if_le (tgt := 27) C dX0_init_17 (by decide) rfl rfl))
  · exact (ch_cons (pc := 20) (pc' := 21) (ok_aloadRn C dX0_init_20 rfl) <| ch_cons (pc := 21) (pc' := 24) (ok_get C hn (fun w h => kG_in (inG_X0 w h)) (kcl_at hE 0 rfl) (by decide) (kG_in gw_186) (fun _ h => h) dX0_init_21) <| ch_cons (pc := 24) (pc' := 25) (ok_iconst C dX0_init_24 (by decide)) <| ch_cons (pc := 25) (pc' := 26) (ok_iloadn C dX0_init_25 rfl) <| ch_cons (pc := 26) (pc' := 27) (ok_iastore C hn dX0_init_26) <| ch_last (pc := 27) (ok_fall rfl))
  · exact (ch_cons (pc := 27) (pc' := 28) (ok_aloadRn C dX0_init_27 rfl) <| ch_cons (pc := 28) (pc' := 29) (ok_iconst C dX0_init_28 (by decide)) <| ch_cons (pc := 29) (pc' := 32) (ok_put C hn (fun w h => kG_in (inG_X0 w h)) tyX0 tyX0_ok nmX0 (kcl_at hE 0 rfl) (by decide) (kG_in gw_187) (fun _ h => h) (Or.inl rfl) rfl dX0_init_29) <| ch_cons (pc := 32) (pc' := 33) (ok_aloadRn C dX0_init_32 rfl) <| ch_cons (pc := 33) (pc' := 36) (ok_getsN C zin_0 (xw_13 hXX) dX0_init_33) <| ch_cons (pc := 36) (pc' := 37) (ok_iloadn C dX0_init_36 rfl) <| ch_cons (pc := 37) (pc' := 40) (ok_callS (d := d) C hout hf hlo (sn_0 hS) rfl (kG_s gw_39 gw_188 gw_41 gw_42) (by decide) (by decide +kernel) dX0_init_37) <| ch_cons (pc := 40) (pc' := 43) (ok_put C hn (fun w h => kG_in (inG_X0 w h)) tyX0 tyX0_ok nmX0 (kcl_at hE 0 rfl) (by decide) (kG_in gw_189) (fun _ h => h) (Or.inr ⟨rfl, hnm, rfl⟩) rfl dX0_init_40) <| ch_cons (pc := 43) (pc' := 44) (ok_aloadRn C dX0_init_43 rfl) <| ch_cons (pc := 44) (pc' := 47) (ok_getsN C zin_1 (xw_14 hXX) dX0_init_44) <| ch_cons (pc := 47) (pc' := 48) (ok_iloadn C dX0_init_47 rfl) <| ch_cons (pc := 48) (pc' := 51) (ok_callS (d := d) C hout hf hlo (sn_0 hS) rfl (kG_s gw_39 gw_188 gw_41 gw_42) (by decide) (by decide +kernel) dX0_init_48) <| ch_cons (pc := 51) (pc' := 54) (ok_put C hn (fun w h => kG_in (inG_X0 w h)) tyX0 tyX0_ok nmX0 (kcl_at hE 0 rfl) (by decide) (kG_in gw_190) (fun _ h => h) (Or.inl rfl) rfl dX0_init_51) <| ch_last (pc := 54) (ok_return C hr dX0_init_54))
/-- Bijectory$Chart.append(I)V -/
def bl_X0_append (tb : List (List Int32)) (cl : kCall) : List (List kOp) := [
  [oLoadR 0, oGet 6 0 2, oLoadR 0, oGet 6 0 3, oLoadI 1, oCall cl 2 3, oLoadR 0, oS gDup, oGet 6 0 3, oS (gPush (.int 1)), oBin (fun x y => x + y), oPut 6 0 3 .int, oLoadR 0, oGetS 1, oLoadI 1, oCall cl 0 2, oPut 6 0 1 .int, oLoadR 0, oS (gPush (.int 0)), oPut 6 0 5 .int, tVret]]
set_option maxRecDepth 100000 in
set_option maxHeartbeats 4000000 in
theorem mok_X0_append {E : kE} {σ : List Nat} {l : Launch} {tb : List (List Int32)} (hE : kcl E = kCl) (hn : kn E = 6) (htb : ktb E = tb) : kMOK E (kXX (kb E)) σ kZs l kY kWS yX0_append (kws yX0_append cX0_append 2 none) cX0_append 2 none (fun cl => bl_X0_append tb cl) := by
  intro d cl hS p e R s m args below meth c α0 nc0 ns0 res C hf hlo hr hnm hout
  have hXX : kXX (kb E) s := C.2.2.2.2.2.2.1.2.2.2.2
  refine ⟨fun b => [0].getD b 0, rfl, kAllB_get (bl := bl_X0_append tb cl) ⟨?_, trivial⟩⟩
  · exact (ch_cons (pc := 0) (pc' := 1) (ok_aloadRn C dX0_append_0 rfl) <| ch_cons (pc := 1) (pc' := 4) (ok_get C hn (fun w h => kG_in (inG_X0 w h)) (kcl_at hE 0 rfl) (by decide) (kG_in gw_186) (fun _ h => h) dX0_append_1) <| ch_cons (pc := 4) (pc' := 5) (ok_aloadRn C dX0_append_4 rfl) <| ch_cons (pc := 5) (pc' := 8) (ok_get C hn (fun w h => kG_in (inG_X0 w h)) (kcl_at hE 0 rfl) (by decide) (kG_in gw_187) (fun _ h => h) dX0_append_5) <| ch_cons (pc := 8) (pc' := 9) (ok_iloadn C dX0_append_8 rfl) <| ch_cons (pc := 9) (pc' := 12) (ok_callS (d := d) C hout hf hlo (sn_2 hS) rfl (kG_s gw_124 gw_191 gw_126 gw_42) (by decide) (by decide +kernel) dX0_append_9) <| ch_cons (pc := 12) (pc' := 13) (ok_aloadRn C dX0_append_12 rfl) <| ch_cons (pc := 13) (pc' := 14) (ok_dup C dX0_append_13) <| ch_cons (pc := 14) (pc' := 17) (ok_get C hn (fun w h => kG_in (inG_X0 w h)) (kcl_at hE 0 rfl) (by decide) (kG_in gw_187) (fun _ h => h) dX0_append_14) <| ch_cons (pc := 17) (pc' := 18) (ok_iconst C dX0_append_17 (by decide)) <| ch_cons (pc := 18) (pc' := 19) (ok_iadd C dX0_append_18) <| ch_cons (pc := 19) (pc' := 22) (ok_put C hn (fun w h => kG_in (inG_X0 w h)) tyX0 tyX0_ok nmX0 (kcl_at hE 0 rfl) (by decide) (kG_in gw_187) (fun _ h => h) (Or.inl rfl) rfl dX0_append_19) <| ch_cons (pc := 22) (pc' := 23) (ok_aloadRn C dX0_append_22 rfl) <| ch_cons (pc := 23) (pc' := 26) (ok_getsN C zin_1 (xw_14 hXX) dX0_append_23) <| ch_cons (pc := 26) (pc' := 27) (ok_iloadn C dX0_append_26 rfl) <| ch_cons (pc := 27) (pc' := 30) (ok_callS (d := d) C hout hf hlo (sn_0 hS) rfl (kG_s gw_39 gw_188 gw_41 gw_42) (by decide) (by decide +kernel) dX0_append_27) <| ch_cons (pc := 30) (pc' := 33) (ok_put C hn (fun w h => kG_in (inG_X0 w h)) tyX0 tyX0_ok nmX0 (kcl_at hE 0 rfl) (by decide) (kG_in gw_190) (fun _ h => h) (Or.inl rfl) rfl dX0_append_30) <| ch_cons (pc := 33) (pc' := 34) (ok_aloadRn C dX0_append_33 rfl) <| ch_cons (pc := 34) (pc' := 35) (ok_iconst C dX0_append_34 (by decide)) <| ch_cons (pc := 35) (pc' := 38) (ok_put C hn (fun w h => kG_in (inG_X0 w h)) tyX0 tyX0_ok nmX0 (kcl_at hE 0 rfl) (by decide) (kG_in gw_192) (fun _ h => h) (Or.inl rfl) rfl dX0_append_35) <| ch_last (pc := 38) (ok_return C hr dX0_append_38))
/-- Bijectory$Chart.stepAt(I)I -/
def bl_X0_stepAt (tb : List (List Int32)) (cl : kCall) : List (List kOp) := [
  [oLoadI 1, tIf (fun x => decide (x < 0)) 3 1],
  [oLoadI 1, oLoadR 0, oGet 6 0 2, oAlen tb, tCmp (fun x y => decide (y ≤ x)) 3 2],
  [oLoadR 0, oGet 6 0 2, oLoadI 1, oIald tb, tGo 4],
  [oS (gPush (.int 0)), tGo 4],
  [tIret]]
set_option maxRecDepth 100000 in
set_option maxHeartbeats 4000000 in
theorem mok_X0_stepAt {E : kE} {σ : List Nat} {l : Launch} {tb : List (List Int32)} (hE : kcl E = kCl) (hn : kn E = 6) (htb : ktb E = tb) : kMOK E (kXX (kb E)) σ kZs l kY kWS yX0_stepAt (kws yX0_stepAt cX0_stepAt 2 (some .int)) cX0_stepAt 2 (some .int) (fun cl => bl_X0_stepAt tb cl) := by
  intro d cl hS p e R s m args below meth c α0 nc0 ns0 res C hf hlo hr hnm hout
  have hXX : kXX (kb E) s := C.2.2.2.2.2.2.1.2.2.2.2
  refine ⟨fun b => [0, 4, 13, 22, 23].getD b 0, rfl, kAllB_get (bl := bl_X0_stepAt tb cl) ⟨?_, ?_, ?_, ?_, ?_, trivial⟩⟩
  · exact (ch_cons (pc := 0) (pc' := 1) (ok_iloadn C dX0_stepAt_0 rfl) <| ch_last (pc := 1) (ok_if_lt (tgt := 22) C dX0_stepAt_1 (by decide) rfl rfl))
  · exact (ch_cons (pc := 4) (pc' := 5) (ok_iloadn C dX0_stepAt_4 rfl) <| ch_cons (pc := 5) (pc' := 6) (ok_aloadRn C dX0_stepAt_5 rfl) <| ch_cons (pc := 6) (pc' := 9) (ok_get C hn (fun w h => kG_in (inG_X0 w h)) (kcl_at hE 0 rfl) (by decide) (kG_in gw_186) (fun _ h => h) dX0_stepAt_6) <| ch_cons (pc := 9) (pc' := 10) (ok_alen C htb dX0_stepAt_9) <| ch_last (pc := 10) (ok_icmp_ge (tgt := 22) C dX0_stepAt_10 (by decide) rfl rfl))
  · exact (ch_cons (pc := 13) (pc' := 14) (ok_aloadRn C dX0_stepAt_13 rfl) <| ch_cons (pc := 14) (pc' := 17) (ok_get C hn (fun w h => kG_in (inG_X0 w h)) (kcl_at hE 0 rfl) (by decide) (kG_in gw_186) (fun _ h => h) dX0_stepAt_14) <| ch_cons (pc := 17) (pc' := 18) (ok_iloadn C dX0_stepAt_17 rfl) <| ch_cons (pc := 18) (pc' := 19) (ok_iaload C htb dX0_stepAt_18) <| ch_last (pc := 19) (ok_goto (tgt := 23) C dX0_stepAt_19 (by decide) rfl))
  · exact (ch_cons (pc := 22) (pc' := 23) (ok_iconst C dX0_stepAt_22 (by decide)) <| ch_last (pc := 23) (ok_fall rfl))
  · exact (ch_last (pc := 23) (ok_ireturn C hr dX0_stepAt_23))
/-- Bijectory$Chart.isMove()Z -/
def bl_X0_isMove (tb : List (List Int32)) (cl : kCall) : List (List kOp) := [
  [oLoadR 0, oGet 6 0 0, oLoadR 0, oGet 6 0 1, tCmp (fun x y => !decide (x = y)) 2 1],
  [oS (gPush (.int 1)), tGo 3],
  [oS (gPush (.int 0)), tGo 3],
  [tZret]]
set_option maxRecDepth 100000 in
set_option maxHeartbeats 4000000 in
theorem mok_X0_isMove {E : kE} {σ : List Nat} {l : Launch} {tb : List (List Int32)} (hE : kcl E = kCl) (hn : kn E = 6) (htb : ktb E = tb) : kMOK E (kXX (kb E)) σ kZs l kY kWS yX0_isMove (kws yX0_isMove cX0_isMove 1 (some .boolean)) cX0_isMove 1 (some .boolean) (fun cl => bl_X0_isMove tb cl) := by
  intro d cl hS p e R s m args below meth c α0 nc0 ns0 res C hf hlo hr hnm hout
  have hXX : kXX (kb E) s := C.2.2.2.2.2.2.1.2.2.2.2
  refine ⟨fun b => [0, 11, 15, 16].getD b 0, rfl, kAllB_get (bl := bl_X0_isMove tb cl) ⟨?_, ?_, ?_, ?_, trivial⟩⟩
  · exact (ch_cons (pc := 0) (pc' := 1) (ok_aloadRn C dX0_isMove_0 rfl) <| ch_cons (pc := 1) (pc' := 4) (ok_get C hn (fun w h => kG_in (inG_X0 w h)) (kcl_at hE 0 rfl) (by decide) (kG_in gw_189) (fun _ h => h) dX0_isMove_1) <| ch_cons (pc := 4) (pc' := 5) (ok_aloadRn C dX0_isMove_4 rfl) <| ch_cons (pc := 5) (pc' := 8) (ok_get C hn (fun w h => kG_in (inG_X0 w h)) (kcl_at hE 0 rfl) (by decide) (kG_in gw_190) (fun _ h => h) dX0_isMove_5) <| ch_last (pc := 8) (ok_icmp_ne (tgt := 15) C dX0_isMove_8 (by decide) rfl rfl))
  · exact (ch_cons (pc := 11) (pc' := 12) (ok_iconst C dX0_isMove_11 (by decide)) <| ch_last (pc := 12) (ok_goto (tgt := 16) C dX0_isMove_12 (by decide) rfl))
  · exact (ch_cons (pc := 15) (pc' := 16) (ok_iconst C dX0_isMove_15 (by decide)) <| ch_last (pc := 16) (ok_fall rfl))
  · exact (ch_last (pc := 16) (ok_zreturn C hr dX0_isMove_16))
