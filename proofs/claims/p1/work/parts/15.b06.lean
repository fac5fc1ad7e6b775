/-- BijectoryModel.claim(III)I -/
def bl_X12_claim (tb : List (List Int32)) (cl : kCall) : List (List kOp) := [
  [oLoadR 0, oLoadR 0, oLoadI 1, oCallV cl 144 1 11 20, oS (gPush (.int 1)), oCallV cl 124 2 11 20, tIf (fun x => !decide (x = 0)) 10 1],
  [oLoadR 0, oLoadI 2, oCall cl 147 1, tIf (fun x => !decide (x = 0)) 3 2],
  [oLoadI 3, oCall cl 147 1, tIf (fun x => decide (x = 0)) 4 3],
  [oS (gPush (.int 1)), tGo 5],
  [oS (gPush (.int 0)), tGo 5],
  [oS (gPush (.int 2)), oCallV cl 123 2 11 20, tIf (fun x => !decide (x = 0)) 10 6],
  [oLoadR 0, oLoadR 0, oGet 20 11 5, oCallV cl 188 0 2 20, oS (gPush (.int 8)), tCmp (fun x y => !decide (x = y)) 8 7],
  [oS (gPush (.int 1)), tGo 9],
  [oS (gPush (.int 0)), tGo 9],
  [oS (gPush (.int 3)), oCallV cl 123 2 11 20, tIf (fun x => decide (x = 0)) 11 10],
  [oS (gPush (.int 0)), tIret],
  [oLoadR 0, oGet 20 11 5, oNew 20 9 5 [.int 0, .int 0, .int 0, .int 0, .int 0], oS gDup, oLoadI 1, oLoadI 2, oLoadI 3, oStuck]]
set_option maxRecDepth 100000 in
set_option maxHeartbeats 4000000 in
theorem mok_X12_claim {E : kE} {σ : List Nat} {l : Launch} {tb : List (List Int32)} (hE : kcl E = kCl) (hn : kn E = 20) (htb : ktb E = tb) : kMOK E (kXX (kb E) σ) σ kZs l kY kWS yX12_claim (kws yX12_claim cX12_claim 4 (some .int)) cX12_claim 4 (some .int) (fun cl => bl_X12_claim tb cl) := by
  intro d cl hS p e R s m args below meth c α0 nc0 ns0 res C hf hlo hr hnm hout
  have hXX : kXX (kb E) σ s := C.2.2.2.2.2.2.1.2.2.2.2
  refine ⟨fun b => [0, 13, 21, 28, 32, 33, 40, 53, 57, 58, 65, 67].getD b 0, rfl, kAllB_get (bl := bl_X12_claim tb cl) ⟨?_, ?_, ?_, ?_, ?_, ?_, ?_, ?_, ?_, ?_, ?_, ?_, trivial⟩⟩
  · exact (ch_cons (pc := 0) (pc' := 1) (ok_aloadRn C dX12_claim_0 rfl) <| ch_cons (pc := 1) (pc' := 2) (ok_aloadRn C dX12_claim_1 rfl) <| ch_cons (pc := 2) (pc' := 3) (ok_iloadn C dX12_claim_2 rfl) <| ch_cons (pc := 3) (pc' := 6) (ok_callV (d := d) (maxL := 2) C hn hout hf hlo (sn_144 hS) rfl (kcl_at hE 11 rfl) (kG_v gw_579 gw_580 gw_581 gw_582 gw_506) (by decide) (by decide +kernel) dX12_claim_3) <| ch_cons (pc := 6) (pc' := 7) (ok_iconst C dX12_claim_6 (by decide)) <| ch_cons (pc := 7) (pc' := 10) (ok_callV (d := d) (maxL := 3) C hn hout hf hlo (sn_124 hS) rfl (kcl_at hE 11 rfl) (kG_v gw_560 gw_561 gw_562 gw_563 gw_506) (by decide) (by decide +kernel) dX12_claim_7) <| ch_last (pc := 10) (ok_if_ne (tgt := 65) C dX12_claim_10 (by decide) rfl rfl))
  · exact (ch_cons (pc := 13) (pc' := 14) (ok_aloadRn C dX12_claim_13 rfl) <| ch_cons (pc := 14) (pc' := 15) (ok_iloadn C dX12_claim_14 rfl) <| ch_cons (pc := 15) (pc' := 18) (ok_callS (d := d) C hout hf hlo (sn_147 hS) rfl (kG_s gw_597 gw_598 gw_599 gw_506) (by decide) (by decide +kernel) dX12_claim_15) <| ch_last (pc := 18) (ok_if_ne (tgt := 28) C dX12_claim_18 (by decide) rfl rfl))
  · exact (ch_cons (pc := 21) (pc' := 22) (ok_iloadn C dX12_claim_21 rfl) <| ch_cons (pc := 22) (pc' := 25) (ok_callS (d := d) C hout hf hlo (sn_147 hS) rfl (kG_s gw_597 gw_598 gw_599 gw_506) (by decide) (by decide +kernel) dX12_claim_22) <| ch_last (pc := 25) (ok_if_eq (tgt := 32) C dX12_claim_25 (by decide) rfl rfl))
  · exact (ch_cons (pc := 28) (pc' := 29) (ok_iconst C dX12_claim_28 (by decide)) <| ch_last (pc := 29) (ok_goto (tgt := 33) C dX12_claim_29 (by decide) rfl))
  · exact (ch_cons (pc := 32) (pc' := 33) (ok_iconst C dX12_claim_32 (by decide)) <| ch_last (pc := 33) (ok_fall rfl))
  · exact (ch_cons (pc := 33) (pc' := 34) (ok_iconst C dX12_claim_33 (by decide)) <| ch_cons (pc := 34) (pc' := 37) (ok_callV (d := d) (maxL := 3) C hn hout hf hlo (sn_123 hS) rfl (kcl_at hE 11 rfl) (kG_v gw_508 gw_509 gw_510 gw_511 gw_506) (by decide) (by decide +kernel) dX12_claim_34) <| ch_last (pc := 37) (ok_if_ne (tgt := 65) C dX12_claim_37 (by decide) rfl rfl))
  · exact (ch_cons (pc := 40) (pc' := 41) (ok_aloadRn C dX12_claim_40 rfl) <| ch_cons (pc := 41) (pc' := 42) (ok_aloadRn C dX12_claim_41 rfl) <| ch_cons (pc := 42) (pc' := 45) (ok_get C hn (fun w h => kG_in (inG_X12 w h)) (kcl_at hE 11 rfl) (by decide) (kG_in gw_498) (fun _ h => h) dX12_claim_42) <| ch_cons (pc := 45) (pc' := 48) (ok_callV (d := d) (maxL := 1) C hn hout hf hlo (sn_188 hS) rfl (kcl_at hE 2 rfl) (kG_v gw_564 gw_565 gw_566 gw_567 gw_492) (by decide) (by decide +kernel) dX12_claim_45) <| ch_cons (pc := 48) (pc' := 50) (ok_bipush C dX12_claim_48 (by decide)) <| ch_last (pc := 50) (ok_icmp_ne (tgt := 57) C dX12_claim_50 (by decide) rfl rfl))
  · exact (ch_cons (pc := 53) (pc' := 54) (ok_iconst C dX12_claim_53 (by decide)) <| ch_last (pc := 54) (ok_goto (tgt := 58) C dX12_claim_54 (by decide) rfl))
  · exact (ch_cons (pc := 57) (pc' := 58) (ok_iconst C dX12_claim_57 (by decide)) <| ch_last (pc := 58) (ok_fall rfl))
  · exact (ch_cons (pc := 58) (pc' := 59) (ok_iconst C dX12_claim_58 (by decide)) <| ch_cons (pc := 59) (pc' := 62) (ok_callV (d := d) (maxL := 3) C hn hout hf hlo (sn_123 hS) rfl (kcl_at hE 11 rfl) (kG_v gw_508 gw_509 gw_510 gw_511 gw_506) (by decide) (by decide +kernel) dX12_claim_59) <| ch_last (pc := 62) (ok_if_eq (tgt := 67) C dX12_claim_62 (by decide) rfl rfl))
  · exact (ch_cons (pc := 65) (pc' := 66) (ok_iconst C dX12_claim_65 (by decide)) <| ch_last (pc := 66) (ok_ireturn C hr dX12_claim_66))
  · exact (ch_cons (pc := 67) (pc' := 68) (ok_aloadRn C dX12_claim_67 rfl) <| ch_cons (pc := 68) (pc' := 71) (ok_get C hn (fun w h => kG_in (inG_X12 w h)) (kcl_at hE 11 rfl) (by decide) (kG_in gw_498) (fun _ h => h) dX12_claim_68) <| ch_cons (pc := 71) (pc' := 74) (ok_new C hn (fun w h => kG_in (inG_X10 w h)) tyX10 tyX10_ok (kcl_at hE 9 rfl) (kG_in gw_600) (kG_in gw_601) (kG_in gw_602) rfl dX12_claim_71) <| ch_cons (pc := 74) (pc' := 75) (ok_dup C dX12_claim_74) <| ch_cons (pc := 75) (pc' := 76) (ok_iloadn C dX12_claim_75 rfl) <| ch_cons (pc := 76) (pc' := 77) (ok_iloadn C dX12_claim_76 rfl) <| ch_cons (pc := 77) (pc' := 78) (ok_iloadn C dX12_claim_77 rfl) <| ch_last (pc := 78) (ok_stuck))
/-- BijectoryModel.send(III)I -/
def bl_X12_send (tb : List (List Int32)) (cl : kCall) : List (List kOp) := [
  [oLoadR 0, oLoadI 1, oS (gPush (.int 0)), oLoadR 0, oGet 20 11 4, oCallV cl 188 0 2 20, oS (gPush (.int 1)), oBin (fun x y => x - y), oCall cl 120 3, tIf (fun x => decide (x = 0)) 2 1],
  [oLoadR 0, oLoadI 2, oCallV cl 144 1 11 20, tIf (fun x => decide (x = 0)) 3 2],
  [oS (gPush (.int 1)), tGo 4],
  [oS (gPush (.int 0)), tGo 4],
  [oS (gPush (.int 1)), oCallV cl 124 2 11 20, tIf (fun x => !decide (x = 0)) 9 5],
  [oLoadR 0, oLoadI 3, oS (gPush (.int 1)), oS (gPush (.int 60)), oCall cl 120 3, tIf (fun x => !decide (x = 0)) 7 6],
  [oS (gPush (.int 1)), tGo 8],
  [oS (gPush (.int 0)), tGo 8],
  [oS (gPush (.int 2)), oCallV cl 123 2 11 20, tIf (fun x => decide (x = 0)) 10 9],
  [oS (gPush (.int 0)), tIret],
  [oLoadR 0, oGet 20 11 4, oLoadI 1, oStuck],
  [oLoadR 0, oLoadI 2, oStuck],
  [oLoadI 3, oS (gPush (.int 1)), tCmp (fun x y => decide (x ≤ y)) 14 13],
  [oS (gPush (.int 1)), tGo 15],
  [oS (gPush (.int 0)), tGo 15],
  [oS (gPush (.int 3)), oCallV cl 123 2 11 20, tIf (fun x => decide (x = 0)) 17 16],
  [oS (gPush (.int 0)), tIret],
  [oS (gPush (.int 0)), oStoreI 5, tGo 18],
  [oLoadI 5, oLoadI 3, tCmp (fun x y => decide (y ≤ x)) 23 19],
  [oLoadR 4, oLoadR 0, oLoadI 2, oLoadR 4, oGet 20 10 1, oStuck],
  [oLoadR 4, oGet 20 10 1, oLoadR 4, oGet 20 10 3, tCmp (fun x y => !decide (x = y)) 22 21],
  [oLoadR 4, oS gDup, oGet 20 10 5, oS (gPush (.int 1)), oBin (fun x y => x + y), oPut 20 10 5 .int, tGo 22],
  [oIinc 5 1, tGo 18],
  [oLoadR 4, oGet 20 10 1, tIret]]
set_option maxRecDepth 100000 in
set_option maxHeartbeats 4000000 in
theorem mok_X12_send {E : kE} {σ : List Nat} {l : Launch} {tb : List (List Int32)} (hE : kcl E = kCl) (hn : kn E = 20) (htb : ktb E = tb) : kMOK E (kXX (kb E) σ) σ kZs l kY kWS yX12_send (kws yX12_send cX12_send 6 (some .int)) cX12_send 6 (some .int) (fun cl => bl_X12_send tb cl) := by
  intro d cl hS p e R s m args below meth c α0 nc0 ns0 res C hf hlo hr hnm hout
  have hXX : kXX (kb E) σ s := C.2.2.2.2.2.2.1.2.2.2.2
  refine ⟨fun b => [0, 18, 26, 30, 31, 38, 49, 53, 54, 61, 63, 90, 98, 103, 107, 108, 115, 117, 120, 126, 185, 198, 209, 215].getD b 0, rfl, kAllB_get (bl := bl_X12_send tb cl) ⟨?_, ?_, ?_, ?_, ?_, ?_, ?_, ?_, ?_, ?_, ?_, ?_, ?_, ?_, ?_, ?_, ?_, ?_, ?_, ?_, ?_, ?_, ?_, ?_, trivial⟩⟩
  · exact (ch_cons (pc := 0) (pc' := 1) (ok_aloadRn C dX12_send_0 rfl) <| ch_cons (pc := 1) (pc' := 2) (ok_iloadn C dX12_send_1 rfl) <| ch_cons (pc := 2) (pc' := 3) (ok_iconst C dX12_send_2 (by decide)) <| ch_cons (pc := 3) (pc' := 4) (ok_aloadRn C dX12_send_3 rfl) <| ch_cons (pc := 4) (pc' := 7) (ok_get C hn (fun w h => kG_in (inG_X12 w h)) (kcl_at hE 11 rfl) (by decide) (kG_in gw_497) (fun _ h => h) dX12_send_4) <| ch_cons (pc := 7) (pc' := 10) (ok_callV (d := d) (maxL := 1) C hn hout hf hlo (sn_188 hS) rfl (kcl_at hE 2 rfl) (kG_v gw_564 gw_565 gw_566 gw_567 gw_492) (by decide) (by decide +kernel) dX12_send_7) <| ch_cons (pc := 10) (pc' := 11) (ok_iconst C dX12_send_10 (by decide)) <| ch_cons (pc := 11) (pc' := 12) (ok_isub C dX12_send_11) <| ch_cons (pc := 12) (pc' := 15) (ok_callS (d := d) C hout hf hlo (sn_120 hS) rfl (kG_s gw_557 gw_558 gw_559 gw_506) (by decide) (by decide +kernel) dX12_send_12) <| ch_last (pc := 15) (ok_if_eq (tgt := 26) C dX12_send_15 (by decide) rfl rfl))
  · exact (ch_cons (pc := 18) (pc' := 19) (ok_aloadRn C dX12_send_18 rfl) <| ch_cons (pc := 19) (pc' := 20) (ok_iloadn C dX12_send_19 rfl) <| ch_cons (pc := 20) (pc' := 23) (ok_callV (d := d) (maxL := 2) C hn hout hf hlo (sn_144 hS) rfl (kcl_at hE 11 rfl) (kG_v gw_579 gw_580 gw_581 gw_582 gw_506) (by decide) (by decide +kernel) dX12_send_20) <| ch_last (pc := 23) (ok_if_eq (tgt := 30) C dX12_send_23 (by decide) rfl rfl))
  · exact (ch_cons (pc := 26) (pc' := 27) (ok_iconst C dX12_send_26 (by decide)) <| ch_last (pc := 27) (ok_goto (tgt := 31) C dX12_send_27 (by decide) rfl))
  · exact (ch_cons (pc := 30) (pc' := 31) (ok_iconst C dX12_send_30 (by decide)) <| ch_last (pc := 31) (ok_fall rfl))
  · exact (ch_cons (pc := 31) (pc' := 32) (ok_iconst C dX12_send_31 (by decide)) <| ch_cons (pc := 32) (pc' := 35) (ok_callV (d := d) (maxL := 3) C hn hout hf hlo (sn_124 hS) rfl (kcl_at hE 11 rfl) (kG_v gw_560 gw_561 gw_562 gw_563 gw_506) (by decide) (by decide +kernel) dX12_send_32) <| ch_last (pc := 35) (ok_if_ne (tgt := 61) C dX12_send_35 (by decide) rfl rfl))
  · exact (ch_cons (pc := 38) (pc' := 39) (ok_aloadRn C dX12_send_38 rfl) <| ch_cons (pc := 39) (pc' := 40) (ok_iloadn C dX12_send_39 rfl) <| ch_cons (pc := 40) (pc' := 41) (ok_iconst C dX12_send_40 (by decide)) <| ch_cons (pc := 41) (pc' := 43) (ok_bipush C dX12_send_41 (by decide)) <| ch_cons (pc := 43) (pc' := 46) (ok_callS (d := d) C hout hf hlo (sn_120 hS) rfl (kG_s gw_557 gw_558 gw_559 gw_506) (by decide) (by decide +kernel) dX12_send_43) <| ch_last (pc := 46) (ok_if_ne (tgt := 53) C dX12_send_46 (by decide) rfl rfl))
  · exact (ch_cons (pc := 49) (pc' := 50) (ok_iconst C dX12_send_49 (by decide)) <| ch_last (pc := 50) (ok_goto (tgt := 54) C dX12_send_50 (by decide) rfl))
  · exact (ch_cons (pc := 53) (pc' := 54) (ok_iconst C dX12_send_53 (by decide)) <| ch_last (pc := 54) (ok_fall rfl))
  · exact (ch_cons (pc := 54) (pc' := 55) (ok_iconst C dX12_send_54 (by decide)) <| ch_cons (pc := 55) (pc' := 58) (ok_callV (d := d) (maxL := 3) C hn hout hf hlo (sn_123 hS) rfl (kcl_at hE 11 rfl) (kG_v gw_508 gw_509 gw_510 gw_511 gw_506) (by decide) (by decide +kernel) dX12_send_55) <| ch_last (pc := 58) (ok_if_eq (tgt := 63) C dX12_send_58 (by decide) rfl rfl))
  · exact (ch_cons (pc := 61) (pc' := 62) (ok_iconst C dX12_send_61 (by decide)) <| ch_last (pc := 62) (ok_ireturn C hr dX12_send_62))
  · exact (ch_cons (pc := 63) (pc' := 64) (ok_aloadRn C dX12_send_63 rfl) <| ch_cons (pc := 64) (pc' := 67) (ok_get C hn (fun w h => kG_in (inG_X12 w h)) (kcl_at hE 11 rfl) (by decide) (kG_in gw_497) (fun _ h => h) dX12_send_64) <| ch_cons (pc := 67) (pc' := 68) (ok_iloadn C dX12_send_67 rfl) <| ch_last (pc := 68) (ok_stuck))
  · exact (ch_cons (pc := 90) (pc' := 91) (ok_aloadRn C dX12_send_90 rfl) <| ch_cons (pc := 91) (pc' := 92) (ok_iloadn C dX12_send_91 rfl) <| ch_last (pc := 92) (ok_stuck))
  · exact (ch_cons (pc := 98) (pc' := 99) (ok_iloadn C dX12_send_98 rfl) <| ch_cons (pc := 99) (pc' := 100) (ok_iconst C dX12_send_99 (by decide)) <| ch_last (pc := 100) (ok_icmp_le (tgt := 107) C dX12_send_100 (by decide) rfl rfl))
  · exact (ch_cons (pc := 103) (pc' := 104) (ok_iconst C dX12_send_103 (by decide)) <| ch_last (pc := 104) (ok_goto (tgt := 108) C dX12_send_104 (by decide) rfl))
  · exact (ch_cons (pc := 107) (pc' := 108) (ok_iconst C dX12_send_107 (by decide)) <| ch_last (pc := 108) (ok_fall rfl))
  · exact (ch_cons (pc := 108) (pc' := 109) (ok_iconst C dX12_send_108 (by decide)) <| ch_cons (pc := 109) (pc' := 112) (ok_callV (d := d) (maxL := 3) C hn hout hf hlo (sn_123 hS) rfl (kcl_at hE 11 rfl) (kG_v gw_508 gw_509 gw_510 gw_511 gw_506) (by decide) (by decide +kernel) dX12_send_109) <| ch_last (pc := 112) (ok_if_eq (tgt := 117) C dX12_send_112 (by decide) rfl rfl))
  · exact (ch_cons (pc := 115) (pc' := 116) (ok_iconst C dX12_send_115 (by decide)) <| ch_last (pc := 116) (ok_ireturn C hr dX12_send_116))
  · exact (ch_cons (pc := 117) (pc' := 118) (ok_iconst C dX12_send_117 (by decide)) <| ch_cons (pc := 118) (pc' := 120) (ok_istore C dX12_send_118 (by decide)) <| ch_last (pc := 120) (ok_fall rfl))
  · exact (ch_cons (pc := 120) (pc' := 122) (ok_iload C dX12_send_120) <| ch_cons (pc := 122) (pc' := 123) (ok_iloadn C dX12_send_122 rfl) <| ch_last (pc := 123) (ok_icmp_ge (tgt := 215) C dX12_send_123 (by decide) rfl rfl))
  · exact (ch_cons (pc := 126) (pc' := 128) (ok_aloadR C dX12_send_126) <| ch_cons (pc := 128) (pc' := 129) (ok_aloadRn C dX12_send_128 rfl) <| ch_cons (pc := 129) (pc' := 130) (ok_iloadn C dX12_send_129 rfl) <| ch_cons (pc := 130) (pc' := 132) (ok_aloadR C dX12_send_130) <| ch_cons (pc := 132) (pc' := 135) (ok_get C hn (fun w h => kG_in (inG_X11 w h)) (kcl_at hE 10 rfl) (by decide) (kG_in gw_603) (fun _ h => h) dX12_send_132) <| ch_last (pc := 135) (ok_stuck))
  · exact (ch_cons (pc := 185) (pc' := 187) (ok_aloadR C dX12_send_185) <| ch_cons (pc := 187) (pc' := 190) (ok_get C hn (fun w h => kG_in (inG_X11 w h)) (kcl_at hE 10 rfl) (by decide) (kG_in gw_603) (fun _ h => h) dX12_send_187) <| ch_cons (pc := 190) (pc' := 192) (ok_aloadR C dX12_send_190) <| ch_cons (pc := 192) (pc' := 195) (ok_get C hn (fun w h => kG_in (inG_X11 w h)) (kcl_at hE 10 rfl) (by decide) (kG_in gw_604) (fun _ h => h) dX12_send_192) <| ch_last (pc := 195) (ok_icmp_ne (tgt := 209) C dX12_send_195 (by decide) rfl rfl))
  · exact (ch_cons (pc := 198) (pc' := 200) (ok_aloadR C dX12_send_198) <| ch_cons (pc := 200) (pc' := 201) (ok_dup C dX12_send_200) <| ch_cons (pc := 201) (pc' := 204) (ok_get C hn (fun w h => kG_in (inG_X11 w h)) (kcl_at hE 10 rfl) (by decide) (kG_in gw_605) (fun _ h => h) dX12_send_201) <| ch_cons (pc := 204) (pc' := 205) (ok_iconst C dX12_send_204 (by decide)) <| ch_cons (pc := 205) (pc' := 206) (ok_iadd C dX12_send_205) <| ch_cons (pc := 206) (pc' := 209) (ok_put C hn (fun w h => kG_in (inG_X11 w h)) tyX11 tyX11_ok nmX11 (kcl_at hE 10 rfl) (by decide) (kG_in gw_605) (fun _ h => h) (Or.inl rfl) rfl dX12_send_206) <| ch_last (pc := 209) (ok_fall rfl))
  · exact (ch_cons (pc := 209) (pc' := 212) (ok_iinc C dX12_send_209 (by decide) (by decide)) <| ch_last (pc := 212) (ok_goto (tgt := 120) C dX12_send_212 (by decide) rfl))
  · exact (ch_cons (pc := 215) (pc' := 217) (ok_aloadR C dX12_send_215) <| ch_cons (pc := 217) (pc' := 220) (ok_get C hn (fun w h => kG_in (inG_X11 w h)) (kcl_at hE 10 rfl) (by decide) (kG_in gw_603) (fun _ h => h) dX12_send_217) <| ch_last (pc := 220) (ok_ireturn C hr dX12_send_220))
/-- BijectoryModel.trial(I)Z -/
def bl_X12_trial (tb : List (List Int32)) (cl : kCall) : List (List kOp) := [
  [oLoadR 0, oLoadI 1, oS (gPush (.int 0)), oLoadR 0, oGet 20 11 5, oCallV cl 188 0 2 20, oS (gPush (.int 1)), oBin (fun x y => x - y), oCall cl 120 3, tIf (fun x => !decide (x = 0)) 2 1],
  [oS (gPush (.int 1)), tGo 3],
  [oS (gPush (.int 0)), tGo 3],
  [oS (gPush (.int 1)), oCallV cl 124 2 11 20, tIf (fun x => !decide (x = 0)) 6 4],
  [oLoadR 0, oLoadR 0, oGet 20 11 5, oLoadI 1, oStuck],
  [oS (gPush (.int 1)), tGo 7],
  [oS (gPush (.int 0)), tGo 7],
  [tZret]]
set_option maxRecDepth 100000 in
set_option maxHeartbeats 4000000 in
theorem mok_X12_trial {E : kE} {σ : List Nat} {l : Launch} {tb : List (List Int32)} (hE : kcl E = kCl) (hn : kn E = 20) (htb : ktb E = tb) : kMOK E (kXX (kb E) σ) σ kZs l kY kWS yX12_trial (kws yX12_trial cX12_trial 2 (some .boolean)) cX12_trial 2 (some .boolean) (fun cl => bl_X12_trial tb cl) := by
  intro d cl hS p e R s m args below meth c α0 nc0 ns0 res C hf hlo hr hnm hout
  have hXX : kXX (kb E) σ s := C.2.2.2.2.2.2.1.2.2.2.2
  refine ⟨fun b => [0, 18, 22, 23, 30, 48, 52, 53].getD b 0, rfl, kAllB_get (bl := bl_X12_trial tb cl) ⟨?_, ?_, ?_, ?_, ?_, ?_, ?_, ?_, trivial⟩⟩
  · exact (ch_cons (pc := 0) (pc' := 1) (ok_aloadRn C dX12_trial_0 rfl) <| ch_cons (pc := 1) (pc' := 2) (ok_iloadn C dX12_trial_1 rfl) <| ch_cons (pc := 2) (pc' := 3) (ok_iconst C dX12_trial_2 (by decide)) <| ch_cons (pc := 3) (pc' := 4) (ok_aloadRn C dX12_trial_3 rfl) <| ch_cons (pc := 4) (pc' := 7) (ok_get C hn (fun w h => kG_in (inG_X12 w h)) (kcl_at hE 11 rfl) (by decide) (kG_in gw_498) (fun _ h => h) dX12_trial_4) <| ch_cons (pc := 7) (pc' := 10) (ok_callV (d := d) (maxL := 1) C hn hout hf hlo (sn_188 hS) rfl (kcl_at hE 2 rfl) (kG_v gw_564 gw_565 gw_566 gw_567 gw_492) (by decide) (by decide +kernel) dX12_trial_7) <| ch_cons (pc := 10) (pc' := 11) (ok_iconst C dX12_trial_10 (by decide)) <| ch_cons (pc := 11) (pc' := 12) (ok_isub C dX12_trial_11) <| ch_cons (pc := 12) (pc' := 15) (ok_callS (d := d) C hout hf hlo (sn_120 hS) rfl (kG_s gw_557 gw_558 gw_559 gw_506) (by decide) (by decide +kernel) dX12_trial_12) <| ch_last (pc := 15) (ok_if_ne (tgt := 22) C dX12_trial_15 (by decide) rfl rfl))
  · exact (ch_cons (pc := 18) (pc' := 19) (ok_iconst C dX12_trial_18 (by decide)) <| ch_last (pc := 19) (ok_goto (tgt := 23) C dX12_trial_19 (by decide) rfl))
  · exact (ch_cons (pc := 22) (pc' := 23) (ok_iconst C dX12_trial_22 (by decide)) <| ch_last (pc := 23) (ok_fall rfl))
  · exact (ch_cons (pc := 23) (pc' := 24) (ok_iconst C dX12_trial_23 (by decide)) <| ch_cons (pc := 24) (pc' := 27) (ok_callV (d := d) (maxL := 3) C hn hout hf hlo (sn_124 hS) rfl (kcl_at hE 11 rfl) (kG_v gw_560 gw_561 gw_562 gw_563 gw_506) (by decide) (by decide +kernel) dX12_trial_24) <| ch_last (pc := 27) (ok_if_ne (tgt := 52) C dX12_trial_27 (by decide) rfl rfl))
  · exact (ch_cons (pc := 30) (pc' := 31) (ok_aloadRn C dX12_trial_30 rfl) <| ch_cons (pc := 31) (pc' := 32) (ok_aloadRn C dX12_trial_31 rfl) <| ch_cons (pc := 32) (pc' := 35) (ok_get C hn (fun w h => kG_in (inG_X12 w h)) (kcl_at hE 11 rfl) (by decide) (kG_in gw_498) (fun _ h => h) dX12_trial_32) <| ch_cons (pc := 35) (pc' := 36) (ok_iloadn C dX12_trial_35 rfl) <| ch_last (pc := 36) (ok_stuck))
  · exact (ch_cons (pc := 48) (pc' := 49) (ok_iconst C dX12_trial_48 (by decide)) <| ch_last (pc := 49) (ok_goto (tgt := 53) C dX12_trial_49 (by decide) rfl))
  · exact (ch_cons (pc := 52) (pc' := 53) (ok_iconst C dX12_trial_52 (by decide)) <| ch_last (pc := 53) (ok_fall rfl))
  · exact (ch_last (pc := 53) (ok_zreturn C hr dX12_trial_53))
/-- BijectoryModel.objects(I)I -/
def bl_X12_objects (tb : List (List Int32)) (cl : kCall) : List (List kOp) := [
  [oLoadR 0, oLoadI 1, oCall cl 146 1, oS (gPush (.int 1)), oCallV cl 124 2 11 20, tIf (fun x => decide (x = 0)) 2 1],
  [oS (gPush (.int 0)), tGo 3],
  [oLoadR 0, oGet 20 11 2, oLoadI 1, oAald 20, oAlen tb, tGo 3],
  [tIret]]
set_option maxRecDepth 100000 in
set_option maxHeartbeats 4000000 in
theorem mok_X12_objects {E : kE} {σ : List Nat} {l : Launch} {tb : List (List Int32)} (hE : kcl E = kCl) (hn : kn E = 20) (htb : ktb E = tb) : kMOK E (kXX (kb E) σ) σ kZs l kY kWS yX12_objects (kws yX12_objects cX12_objects 2 (some .int)) cX12_objects 2 (some .int) (fun cl => bl_X12_objects tb cl) := by
  intro d cl hS p e R s m args below meth c α0 nc0 ns0 res C hf hlo hr hnm hout
  have hXX : kXX (kb E) σ s := C.2.2.2.2.2.2.1.2.2.2.2
  refine ⟨fun b => [0, 12, 16, 23].getD b 0, rfl, kAllB_get (bl := bl_X12_objects tb cl) ⟨?_, ?_, ?_, ?_, trivial⟩⟩
  · exact (ch_cons (pc := 0) (pc' := 1) (ok_aloadRn C dX12_objects_0 rfl) <| ch_cons (pc := 1) (pc' := 2) (ok_iloadn C dX12_objects_1 rfl) <| ch_cons (pc := 2) (pc' := 5) (ok_callS (d := d) C hout hf hlo (sn_146 hS) rfl (kG_s gw_584 gw_585 gw_586 gw_506) (by decide) (by decide +kernel) dX12_objects_2) <| ch_cons (pc := 5) (pc' := 6) (ok_iconst C dX12_objects_5 (by decide)) <| ch_cons (pc := 6) (pc' := 9) (ok_callV (d := d) (maxL := 3) C hn hout hf hlo (sn_124 hS) rfl (kcl_at hE 11 rfl) (kG_v gw_560 gw_561 gw_562 gw_563 gw_506) (by decide) (by decide +kernel) dX12_objects_6) <| ch_last (pc := 9) (ok_if_eq (tgt := 16) C dX12_objects_9 (by decide) rfl rfl))
  · exact (ch_cons (pc := 12) (pc' := 13) (ok_iconst C dX12_objects_12 (by decide)) <| ch_last (pc := 13) (ok_goto (tgt := 23) C dX12_objects_13 (by decide) rfl))
  · exact (ch_cons (pc := 16) (pc' := 17) (ok_aloadRn C dX12_objects_16 rfl) <| ch_cons (pc := 17) (pc' := 20) (ok_get C hn (fun w h => kG_in (inG_X12 w h)) (kcl_at hE 11 rfl) (by decide) (kG_in gw_489) (fun _ h => h) dX12_objects_17) <| ch_cons (pc := 20) (pc' := 21) (ok_iloadn C dX12_objects_20 rfl) <| ch_cons (pc := 21) (pc' := 22) (ok_aaload C hn dX12_objects_21) <| ch_cons (pc := 22) (pc' := 23) (ok_alen C htb dX12_objects_22) <| ch_last (pc := 23) (ok_fall rfl))
  · exact (ch_last (pc := 23) (ok_ireturn C hr dX12_objects_23))
/-- BijectoryModel.isNoRank(II)Z -/
def bl_X12_isNoRank (tb : List (List Int32)) (cl : kCall) : List (List kOp) := [
  [oLoadI 1, oCall cl 146 1, tIf (fun x => !decide (x = 0)) 2 1],
  [oLoadI 2, oS (gPush (.int 0)), oLoadR 0, oGet 20 11 2, oLoadI 1, oAald 20, oAlen tb, oS (gPush (.int 1)), oBin (fun x y => x - y), oCall cl 120 3, tIf (fun x => !decide (x = 0)) 3 2],
  [oS (gPush (.int 1)), tGo 4],
  [oS (gPush (.int 0)), tGo 4],
  [tZret]]
set_option maxRecDepth 100000 in
set_option maxHeartbeats 4000000 in
theorem mok_X12_isNoRank {E : kE} {σ : List Nat} {l : Launch} {tb : List (List Int32)} (hE : kcl E = kCl) (hn : kn E = 20) (htb : ktb E = tb) : kMOK E (kXX (kb E) σ) σ kZs l kY kWS yX12_isNoRank (kws yX12_isNoRank cX12_isNoRank 3 (some .boolean)) cX12_isNoRank 3 (some .boolean) (fun cl => bl_X12_isNoRank tb cl) := by
  intro d cl hS p e R s m args below meth c α0 nc0 ns0 res C hf hlo hr hnm hout
  have hXX : kXX (kb E) σ s := C.2.2.2.2.2.2.1.2.2.2.2
  refine ⟨fun b => [0, 7, 24, 28, 29].getD b 0, rfl, kAllB_get (bl := bl_X12_isNoRank tb cl) ⟨?_, ?_, ?_, ?_, ?_, trivial⟩⟩
  · exact (ch_cons (pc := 0) (pc' := 1) (ok_iloadn C dX12_isNoRank_0 rfl) <| ch_cons (pc := 1) (pc' := 4) (ok_callS (d := d) C hout hf hlo (sn_146 hS) rfl (kG_s gw_584 gw_585 gw_586 gw_506) (by decide) (by decide +kernel) dX12_isNoRank_1) <| ch_last (pc := 4) (ok_if_ne (tgt := 24) C dX12_isNoRank_4 (by decide) rfl rfl))
  · exact (ch_cons (pc := 7) (pc' := 8) (ok_iloadn C dX12_isNoRank_7 rfl) <| ch_cons (pc := 8) (pc' := 9) (ok_iconst C dX12_isNoRank_8 (by decide)) <| ch_cons (pc := 9) (pc' := 10) (ok_aloadRn C dX12_isNoRank_9 rfl) <| ch_cons (pc := 10) (pc' := 13) (ok_get C hn (fun w h => kG_in (inG_X12 w h)) (kcl_at hE 11 rfl) (by decide) (kG_in gw_489) (fun _ h => h) dX12_isNoRank_10) <| ch_cons (pc := 13) (pc' := 14) (ok_iloadn C dX12_isNoRank_13 rfl) <| ch_cons (pc := 14) (pc' := 15) (ok_aaload C hn dX12_isNoRank_14) <| ch_cons (pc := 15) (pc' := 16) (ok_alen C htb dX12_isNoRank_15) <| ch_cons (pc := 16) (pc' := 17) (ok_iconst C dX12_isNoRank_16 (by decide)) <| ch_cons (pc := 17) (pc' := 18) (ok_isub C dX12_isNoRank_17) <| ch_cons (pc := 18) (pc' := 21) (ok_callS (d := d) C hout hf hlo (sn_120 hS) rfl (kG_s gw_557 gw_558 gw_559 gw_506) (by decide) (by decide +kernel) dX12_isNoRank_18) <| ch_last (pc := 21) (ok_if_ne (tgt := 28) C dX12_isNoRank_21 (by decide) rfl rfl))
  · exact (ch_cons (pc := 24) (pc' := 25) (ok_iconst C dX12_isNoRank_24 (by decide)) <| ch_last (pc := 25) (ok_goto (tgt := 29) C dX12_isNoRank_25 (by decide) rfl))
  · exact (ch_cons (pc := 28) (pc' := 29) (ok_iconst C dX12_isNoRank_28 (by decide)) <| ch_last (pc := 29) (ok_fall rfl))
  · exact (ch_last (pc := 29) (ok_zreturn C hr dX12_isNoRank_29))
/-- BijectoryModel.unrank(II)I -/
def bl_X12_unrank (tb : List (List Int32)) (cl : kCall) : List (List kOp) := [
  [oLoadR 0, oLoadR 0, oLoadI 1, oLoadI 2, oCallV cl 153 2 11 20, oS (gPush (.int 1)), oCallV cl 124 2 11 20, tIf (fun x => decide (x = 0)) 2 1],
  [oS (gPush (.int 0)), tGo 3],
  [oLoadR 0, oGet 20 11 2, oLoadI 1, oAald 20, oLoadI 2, oIald tb, tGo 3],
  [tIret]]
set_option maxRecDepth 100000 in
set_option maxHeartbeats 4000000 in
theorem mok_X12_unrank {E : kE} {σ : List Nat} {l : Launch} {tb : List (List Int32)} (hE : kcl E = kCl) (hn : kn E = 20) (htb : ktb E = tb) : kMOK E (kXX (kb E) σ) σ kZs l kY kWS yX12_unrank (kws yX12_unrank cX12_unrank 3 (some .int)) cX12_unrank 3 (some .int) (fun cl => bl_X12_unrank tb cl) := by
  intro d cl hS p e R s m args below meth c α0 nc0 ns0 res C hf hlo hr hnm hout
  have hXX : kXX (kb E) σ s := C.2.2.2.2.2.2.1.2.2.2.2
  refine ⟨fun b => [0, 14, 18, 26].getD b 0, rfl, kAllB_get (bl := bl_X12_unrank tb cl) ⟨?_, ?_, ?_, ?_, trivial⟩⟩
  · exact (ch_cons (pc := 0) (pc' := 1) (ok_aloadRn C dX12_unrank_0 rfl) <| ch_cons (pc := 1) (pc' := 2) (ok_aloadRn C dX12_unrank_1 rfl) <| ch_cons (pc := 2) (pc' := 3) (ok_iloadn C dX12_unrank_2 rfl) <| ch_cons (pc := 3) (pc' := 4) (ok_iloadn C dX12_unrank_3 rfl) <| ch_cons (pc := 4) (pc' := 7) (ok_callV (d := d) (maxL := 3) C hn hout hf hlo (sn_153 hS) rfl (kcl_at hE 11 rfl) (kG_v gw_606 gw_607 gw_608 gw_609 gw_506) (by decide) (by decide +kernel) dX12_unrank_4) <| ch_cons (pc := 7) (pc' := 8) (ok_iconst C dX12_unrank_7 (by decide)) <| ch_cons (pc := 8) (pc' := 11) (ok_callV (d := d) (maxL := 3) C hn hout hf hlo (sn_124 hS) rfl (kcl_at hE 11 rfl) (kG_v gw_560 gw_561 gw_562 gw_563 gw_506) (by decide) (by decide +kernel) dX12_unrank_8) <| ch_last (pc := 11) (ok_if_eq (tgt := 18) C dX12_unrank_11 (by decide) rfl rfl))
  · exact (ch_cons (pc := 14) (pc' := 15) (ok_iconst C dX12_unrank_14 (by decide)) <| ch_last (pc := 15) (ok_goto (tgt := 26) C dX12_unrank_15 (by decide) rfl))
  · exact (ch_cons (pc := 18) (pc' := 19) (ok_aloadRn C dX12_unrank_18 rfl) <| ch_cons (pc := 19) (pc' := 22) (ok_get C hn (fun w h => kG_in (inG_X12 w h)) (kcl_at hE 11 rfl) (by decide) (kG_in gw_489) (fun _ h => h) dX12_unrank_19) <| ch_cons (pc := 22) (pc' := 23) (ok_iloadn C dX12_unrank_22 rfl) <| ch_cons (pc := 23) (pc' := 24) (ok_aaload C hn dX12_unrank_23) <| ch_cons (pc := 24) (pc' := 25) (ok_iloadn C dX12_unrank_24 rfl) <| ch_cons (pc := 25) (pc' := 26) (ok_iaload C htb dX12_unrank_25) <| ch_last (pc := 26) (ok_fall rfl))
  · exact (ch_last (pc := 26) (ok_ireturn C hr dX12_unrank_26))
/-- BijectoryModel.rank(II)I -/
def bl_X12_rank (tb : List (List Int32)) (cl : kCall) : List (List kOp) := [
  [oLoadR 0, oLoadI 1, oCall cl 146 1, oS (gPush (.int 1)), oCallV cl 124 2 11 20, tIf (fun x => decide (x = 0)) 2 1],
  [oS (gPush (.int 0)), tGo 3],
  [oLoadR 0, oLoadI 1, oLoadI 2, oCallV cl 130 2 11 20, tGo 3],
  [tIret]]
set_option maxRecDepth 100000 in
set_option maxHeartbeats 4000000 in
theorem mok_X12_rank {E : kE} {σ : List Nat} {l : Launch} {tb : List (List Int32)} (hE : kcl E = kCl) (hn : kn E = 20) (htb : ktb E = tb) : kMOK E (kXX (kb E) σ) σ kZs l kY kWS yX12_rank (kws yX12_rank cX12_rank 3 (some .int)) cX12_rank 3 (some .int) (fun cl => bl_X12_rank tb cl) := by
  intro d cl hS p e R s m args below meth c α0 nc0 ns0 res C hf hlo hr hnm hout
  have hXX : kXX (kb E) σ s := C.2.2.2.2.2.2.1.2.2.2.2
  refine ⟨fun b => [0, 12, 16, 22].getD b 0, rfl, kAllB_get (bl := bl_X12_rank tb cl) ⟨?_, ?_, ?_, ?_, trivial⟩⟩
  · exact (ch_cons (pc := 0) (pc' := 1) (ok_aloadRn C dX12_rank_0 rfl) <| ch_cons (pc := 1) (pc' := 2) (ok_iloadn C dX12_rank_1 rfl) <| ch_cons (pc := 2) (pc' := 5) (ok_callS (d := d) C hout hf hlo (sn_146 hS) rfl (kG_s gw_584 gw_585 gw_586 gw_506) (by decide) (by decide +kernel) dX12_rank_2) <| ch_cons (pc := 5) (pc' := 6) (ok_iconst C dX12_rank_5 (by decide)) <| ch_cons (pc := 6) (pc' := 9) (ok_callV (d := d) (maxL := 3) C hn hout hf hlo (sn_124 hS) rfl (kcl_at hE 11 rfl) (kG_v gw_560 gw_561 gw_562 gw_563 gw_506) (by decide) (by decide +kernel) dX12_rank_6) <| ch_last (pc := 9) (ok_if_eq (tgt := 16) C dX12_rank_9 (by decide) rfl rfl))
  · exact (ch_cons (pc := 12) (pc' := 13) (ok_iconst C dX12_rank_12 (by decide)) <| ch_last (pc := 13) (ok_goto (tgt := 22) C dX12_rank_13 (by decide) rfl))
  · exact (ch_cons (pc := 16) (pc' := 17) (ok_aloadRn C dX12_rank_16 rfl) <| ch_cons (pc := 17) (pc' := 18) (ok_iloadn C dX12_rank_17 rfl) <| ch_cons (pc := 18) (pc' := 19) (ok_iloadn C dX12_rank_18 rfl) <| ch_cons (pc := 19) (pc' := 22) (ok_callV (d := d) (maxL := 6) C hn hout hf hlo (sn_130 hS) rfl (kcl_at hE 11 rfl) (kG_v gw_587 gw_588 gw_589 gw_590 gw_506) (by decide) (by decide +kernel) dX12_rank_19) <| ch_last (pc := 22) (ok_fall rfl))
  · exact (ch_last (pc := 22) (ok_ireturn C hr dX12_rank_22))
/-- BijectoryModel.statistic(III)I -/
def bl_X12_statistic (tb : List (List Int32)) (cl : kCall) : List (List kOp) := [
  [oLoadR 0, oLoadR 0, oLoadI 1, oLoadI 3, oCallV cl 153 2 11 20, oS (gPush (.int 1)), oCallV cl 124 2 11 20, tIf (fun x => !decide (x = 0)) 2 1],
  [oLoadR 0, oLoadI 2, oCall cl 147 1, oS (gPush (.int 2)), oCallV cl 123 2 11 20, tIf (fun x => decide (x = 0)) 3 2],
  [oS (gPush (.int 0)), tGo 4],
  [oLoadR 0, oLoadI 1, oLoadI 2, oLoadR 0, oGet 20 11 2, oLoadI 1, oAald 20, oLoadI 3, oIald tb, oCallV cl 139 3 11 20, tGo 4],
  [tIret]]
set_option maxRecDepth 100000 in
set_option maxHeartbeats 4000000 in
theorem mok_X12_statistic {E : kE} {σ : List Nat} {l : Launch} {tb : List (List Int32)} (hE : kcl E = kCl) (hn : kn E = 20) (htb : ktb E = tb) : kMOK E (kXX (kb E) σ) σ kZs l kY kWS yX12_statistic (kws yX12_statistic cX12_statistic 4 (some .int)) cX12_statistic 4 (some .int) (fun cl => bl_X12_statistic tb cl) := by
  intro d cl hS p e R s m args below meth c α0 nc0 ns0 res C hf hlo hr hnm hout
  have hXX : kXX (kb E) σ s := C.2.2.2.2.2.2.1.2.2.2.2
  refine ⟨fun b => [0, 14, 26, 30, 44].getD b 0, rfl, kAllB_get (bl := bl_X12_statistic tb cl) ⟨?_, ?_, ?_, ?_, ?_, trivial⟩⟩
  · exact (ch_cons (pc := 0) (pc' := 1) (ok_aloadRn C dX12_statistic_0 rfl) <| ch_cons (pc := 1) (pc' := 2) (ok_aloadRn C dX12_statistic_1 rfl) <| ch_cons (pc := 2) (pc' := 3) (ok_iloadn C dX12_statistic_2 rfl) <| ch_cons (pc := 3) (pc' := 4) (ok_iloadn C dX12_statistic_3 rfl) <| ch_cons (pc := 4) (pc' := 7) (ok_callV (d := d) (maxL := 3) C hn hout hf hlo (sn_153 hS) rfl (kcl_at hE 11 rfl) (kG_v gw_606 gw_607 gw_608 gw_609 gw_506) (by decide) (by decide +kernel) dX12_statistic_4) <| ch_cons (pc := 7) (pc' := 8) (ok_iconst C dX12_statistic_7 (by decide)) <| ch_cons (pc := 8) (pc' := 11) (ok_callV (d := d) (maxL := 3) C hn hout hf hlo (sn_124 hS) rfl (kcl_at hE 11 rfl) (kG_v gw_560 gw_561 gw_562 gw_563 gw_506) (by decide) (by decide +kernel) dX12_statistic_8) <| ch_last (pc := 11) (ok_if_ne (tgt := 26) C dX12_statistic_11 (by decide) rfl rfl))
  · exact (ch_cons (pc := 14) (pc' := 15) (ok_aloadRn C dX12_statistic_14 rfl) <| ch_cons (pc := 15) (pc' := 16) (ok_iloadn C dX12_statistic_15 rfl) <| ch_cons (pc := 16) (pc' := 19) (ok_callS (d := d) C hout hf hlo (sn_147 hS) rfl (kG_s gw_597 gw_598 gw_599 gw_506) (by decide) (by decide +kernel) dX12_statistic_16) <| ch_cons (pc := 19) (pc' := 20) (ok_iconst C dX12_statistic_19 (by decide)) <| ch_cons (pc := 20) (pc' := 23) (ok_callV (d := d) (maxL := 3) C hn hout hf hlo (sn_123 hS) rfl (kcl_at hE 11 rfl) (kG_v gw_508 gw_509 gw_510 gw_511 gw_506) (by decide) (by decide +kernel) dX12_statistic_20) <| ch_last (pc := 23) (ok_if_eq (tgt := 30) C dX12_statistic_23 (by decide) rfl rfl))
  · exact (ch_cons (pc := 26) (pc' := 27) (ok_iconst C dX12_statistic_26 (by decide)) <| ch_last (pc := 27) (ok_goto (tgt := 44) C dX12_statistic_27 (by decide) rfl))
  · exact (ch_cons (pc := 30) (pc' := 31) (ok_aloadRn C dX12_statistic_30 rfl) <| ch_cons (pc := 31) (pc' := 32) (ok_iloadn C dX12_statistic_31 rfl) <| ch_cons (pc := 32) (pc' := 33) (ok_iloadn C dX12_statistic_32 rfl) <| ch_cons (pc := 33) (pc' := 34) (ok_aloadRn C dX12_statistic_33 rfl) <| ch_cons (pc := 34) (pc' := 37) (ok_get C hn (fun w h => kG_in (inG_X12 w h)) (kcl_at hE 11 rfl) (by decide) (kG_in gw_489) (fun _ h => h) dX12_statistic_34) <| ch_cons (pc := 37) (pc' := 38) (ok_iloadn C dX12_statistic_37 rfl) <| ch_cons (pc := 38) (pc' := 39) (ok_aaload C hn dX12_statistic_38) <| ch_cons (pc := 39) (pc' := 40) (ok_iloadn C dX12_statistic_39 rfl) <| ch_cons (pc := 40) (pc' := 41) (ok_iaload C htb dX12_statistic_40) <| ch_cons (pc := 41) (pc' := 44) (ok_callV (d := d) (maxL := 4) C hn hout hf hlo (sn_139 hS) rfl (kcl_at hE 11 rfl) (kG_v gw_553 gw_554 gw_555 gw_556 gw_506) (by decide) (by decide +kernel) dX12_statistic_41) <| ch_last (pc := 44) (ok_fall rfl))
  · exact (ch_last (pc := 44) (ok_ireturn C hr dX12_statistic_44))
/-- BijectoryModel.spread(III)I -/
def bl_X12_spread (tb : List (List Int32)) (cl : kCall) : List (List kOp) := [
  [oLoadR 0, oLoadI 1, oCall cl 146 1, oS (gPush (.int 1)), oCallV cl 124 2 11 20, tIf (fun x => !decide (x = 0)) 2 1],
  [oLoadR 0, oLoadI 2, oCall cl 147 1, oS (gPush (.int 2)), oCallV cl 123 2 11 20, tIf (fun x => decide (x = 0)) 3 2],
  [oS (gPush (.int 0)), tIret],
  [oS (gPush (.int 0)), oStoreI 4, oLoadR 0, oLoadI 1, oLoadI 2, oCallV cl 140 2 11 20, oStoreR 5, oLoadR 5, oAlen tb, oStoreI 6, oS (gPush (.int 0)), oStoreI 7, tGo 4],
  [oLoadI 7, oLoadI 6, tCmp (fun x y => decide (y ≤ x)) 9 5],
  [oLoadR 5, oLoadI 7, oIald tb, oStoreI 8, oLoadI 4, oLoadI 8, oLoadI 3, tCmp (fun x y => !decide (x = y)) 7 6],
  [oS (gPush (.int 1)), tGo 8],
  [oS (gPush (.int 0)), tGo 8],
  [oBin (fun x y => x + y), oStoreI 4, oIinc 7 1, tGo 4],
  [oLoadI 4, tIret]]
set_option maxRecDepth 100000 in
set_option maxHeartbeats 4000000 in
theorem mok_X12_spread {E : kE} {σ : List Nat} {l : Launch} {tb : List (List Int32)} (hE : kcl E = kCl) (hn : kn E = 20) (htb : ktb E = tb) : kMOK E (kXX (kb E) σ) σ kZs l kY kWS yX12_spread (kws yX12_spread cX12_spread 9 (some .int)) cX12_spread 9 (some .int) (fun cl => bl_X12_spread tb cl) := by
  intro d cl hS p e R s m args below meth c α0 nc0 ns0 res C hf hlo hr hnm hout
  have hXX : kXX (kb E) σ s := C.2.2.2.2.2.2.1.2.2.2.2
  refine ⟨fun b => [0, 12, 24, 26, 45, 52, 67, 71, 72, 81].getD b 0, rfl, kAllB_get (bl := bl_X12_spread tb cl) ⟨?_, ?_, ?_, ?_, ?_, ?_, ?_, ?_, ?_, ?_, trivial⟩⟩
  · exact (ch_cons (pc := 0) (pc' := 1) (ok_aloadRn C dX12_spread_0 rfl) <| ch_cons (pc := 1) (pc' := 2) (ok_iloadn C dX12_spread_1 rfl) <| ch_cons (pc := 2) (pc' := 5) (ok_callS (d := d) C hout hf hlo (sn_146 hS) rfl (kG_s gw_584 gw_585 gw_586 gw_506) (by decide) (by decide +kernel) dX12_spread_2) <| ch_cons (pc := 5) (pc' := 6) (ok_iconst C dX12_spread_5 (by decide)) <| ch_cons (pc := 6) (pc' := 9) (ok_callV (d := d) (maxL := 3) C hn hout hf hlo (sn_124 hS) rfl (kcl_at hE 11 rfl) (kG_v gw_560 gw_561 gw_562 gw_563 gw_506) (by decide) (by decide +kernel) dX12_spread_6) <| ch_last (pc := 9) (ok_if_ne (tgt := 24) C dX12_spread_9 (by decide) rfl rfl))
  · exact (ch_cons (pc := 12) (pc' := 13) (ok_aloadRn C dX12_spread_12 rfl) <| ch_cons (pc := 13) (pc' := 14) (ok_iloadn C dX12_spread_13 rfl) <| ch_cons (pc := 14) (pc' := 17) (ok_callS (d := d) C hout hf hlo (sn_147 hS) rfl (kG_s gw_597 gw_598 gw_599 gw_506) (by decide) (by decide +kernel) dX12_spread_14) <| ch_cons (pc := 17) (pc' := 18) (ok_iconst C dX12_spread_17 (by decide)) <| ch_cons (pc := 18) (pc' := 21) (ok_callV (d := d) (maxL := 3) C hn hout hf hlo (sn_123 hS) rfl (kcl_at hE 11 rfl) (kG_v gw_508 gw_509 gw_510 gw_511 gw_506) (by decide) (by decide +kernel) dX12_spread_18) <| ch_last (pc := 21) (ok_if_eq (tgt := 26) C dX12_spread_21 (by decide) rfl rfl))
  · exact (ch_cons (pc := 24) (pc' := 25) (ok_iconst C dX12_spread_24 (by decide)) <| ch_last (pc := 25) (ok_ireturn C hr dX12_spread_25))
  · exact (ch_cons (pc := 26) (pc' := 27) (ok_iconst C dX12_spread_26 (by decide)) <| ch_cons (pc := 27) (pc' := 29) (ok_istore C dX12_spread_27 (by decide)) <| ch_cons (pc := 29) (pc' := 30) (ok_aloadRn C dX12_spread_29 rfl) <| ch_cons (pc := 30) (pc' := 31) (ok_iloadn C dX12_spread_30 rfl) <| ch_cons (pc := 31) (pc' := 32) (ok_iloadn C dX12_spread_31 rfl) <| ch_cons (pc := 32) (pc' := 35) (ok_callV (d := d) (maxL := 5) C hn hout hf hlo (sn_140 hS) rfl (kcl_at hE 11 rfl) (kG_v gw_610 gw_611 gw_612 gw_613 gw_506) (by decide) (by decide +kernel) dX12_spread_32) <| ch_cons (pc := 35) (pc' := 37) (ok_astoreR C dX12_spread_35 (by decide)) <| ch_cons (pc := 37) (pc' := 39) (ok_aloadR C dX12_spread_37) <| ch_cons (pc := 39) (pc' := 40) (ok_alen C htb dX12_spread_39) <| ch_cons (pc := 40) (pc' := 42) (ok_istore C dX12_spread_40 (by decide)) <| ch_cons (pc := 42) (pc' := 43) (ok_iconst C dX12_spread_42 (by decide)) <| ch_cons (pc := 43) (pc' := 45) (ok_istore C dX12_spread_43 (by decide)) <| ch_last (pc := 45) (ok_fall rfl))
  · exact (ch_cons (pc := 45) (pc' := 47) (ok_iload C dX12_spread_45) <| ch_cons (pc := 47) (pc' := 49) (ok_iload C dX12_spread_47) <| ch_last (pc := 49) (ok_icmp_ge (tgt := 81) C dX12_spread_49 (by decide) rfl rfl))
  · exact (ch_cons (pc := 52) (pc' := 54) (ok_aloadR C dX12_spread_52) <| ch_cons (pc := 54) (pc' := 56) (ok_iload C dX12_spread_54) <| ch_cons (pc := 56) (pc' := 57) (ok_iaload C htb dX12_spread_56) <| ch_cons (pc := 57) (pc' := 59) (ok_istore C dX12_spread_57 (by decide)) <| ch_cons (pc := 59) (pc' := 61) (ok_iload C dX12_spread_59) <| ch_cons (pc := 61) (pc' := 63) (ok_iload C dX12_spread_61) <| ch_cons (pc := 63) (pc' := 64) (ok_iloadn C dX12_spread_63 rfl) <| ch_last (pc := 64) (ok_icmp_ne (tgt := 71) C dX12_spread_64 (by decide) rfl rfl))
  · exact (ch_cons (pc := 67) (pc' := 68) (ok_iconst C dX12_spread_67 (by decide)) <| ch_last (pc := 68) (ok_goto (tgt := 72) C dX12_spread_68 (by decide) rfl))
  · exact (ch_cons (pc := 71) (pc' := 72) (ok_iconst C dX12_spread_71 (by decide)) <| ch_last (pc := 72) (ok_fall rfl))
  · exact (ch_cons (pc := 72) (pc' := 73) (ok_iadd C dX12_spread_72) <| ch_cons (pc := 73) (pc' := 75) (ok_istore C dX12_spread_73 (by decide)) <| ch_cons (pc := 75) (pc' := 78) (ok_iinc C dX12_spread_75 (by decide) (by decide)) <| ch_last (pc := 78) (ok_goto (tgt := 45) C dX12_spread_78 (by decide) rfl))
  · exact (ch_cons (pc := 81) (pc' := 83) (ok_iload C dX12_spread_81) <| ch_last (pc := 83) (ok_ireturn C hr dX12_spread_83))
/-- BijectoryModel.signsNow(II)I -/
def bl_X12_signsNow (tb : List (List Int32)) (cl : kCall) : List (List kOp) := [
  [oS (gPush (.int 0)), oStoreI 3, oLoadR 0, oLoadI 1, oLoadI 2, oCallV cl 140 2 11 20, oStoreR 4, oLoadR 4, oAlen tb, oStoreI 5, oS (gPush (.int 0)), oStoreI 6, tGo 1],
  [oLoadI 6, oLoadI 5, tCmp (fun x y => decide (y ≤ x)) 3 2],
  [oLoadR 4, oLoadI 6, oIald tb, oStoreI 7, oLoadI 3, oLoadI 7, oCall cl 141 1, oBin (fun x y => x + y), oStoreI 3, oIinc 6 1, tGo 1],
  [oLoadI 3, tIret]]
set_option maxRecDepth 100000 in
set_option maxHeartbeats 4000000 in
theorem mok_X12_signsNow {E : kE} {σ : List Nat} {l : Launch} {tb : List (List Int32)} (hE : kcl E = kCl) (hn : kn E = 20) (htb : ktb E = tb) : kMOK E (kXX (kb E) σ) σ kZs l kY kWS yX12_signsNow (kws yX12_signsNow cX12_signsNow 8 (some .int)) cX12_signsNow 8 (some .int) (fun cl => bl_X12_signsNow tb cl) := by
  intro d cl hS p e R s m args below meth c α0 nc0 ns0 res C hf hlo hr hnm hout
  have hXX : kXX (kb E) σ s := C.2.2.2.2.2.2.1.2.2.2.2
  refine ⟨fun b => [0, 18, 25, 46].getD b 0, rfl, kAllB_get (bl := bl_X12_signsNow tb cl) ⟨?_, ?_, ?_, ?_, trivial⟩⟩
  · exact (ch_cons (pc := 0) (pc' := 1) (ok_iconst C dX12_signsNow_0 (by decide)) <| ch_cons (pc := 1) (pc' := 2) (ok_istoren C dX12_signsNow_1 rfl (by decide)) <| ch_cons (pc := 2) (pc' := 3) (ok_aloadRn C dX12_signsNow_2 rfl) <| ch_cons (pc := 3) (pc' := 4) (ok_iloadn C dX12_signsNow_3 rfl) <| ch_cons (pc := 4) (pc' := 5) (ok_iloadn C dX12_signsNow_4 rfl) <| ch_cons (pc := 5) (pc' := 8) (ok_callV (d := d) (maxL := 5) C hn hout hf hlo (sn_140 hS) rfl (kcl_at hE 11 rfl) (kG_v gw_610 gw_611 gw_612 gw_613 gw_506) (by decide) (by decide +kernel) dX12_signsNow_5) <| ch_cons (pc := 8) (pc' := 10) (ok_astoreR C dX12_signsNow_8 (by decide)) <| ch_cons (pc := 10) (pc' := 12) (ok_aloadR C dX12_signsNow_10) <| ch_cons (pc := 12) (pc' := 13) (ok_alen C htb dX12_signsNow_12) <| ch_cons (pc := 13) (pc' := 15) (ok_istore C dX12_signsNow_13 (by decide)) <| ch_cons (pc := 15) (pc' := 16) (ok_iconst C dX12_signsNow_15 (by decide)) <| ch_cons (pc := 16) (pc' := 18) (ok_istore C dX12_signsNow_16 (by decide)) <| ch_last (pc := 18) (ok_fall rfl))
  · exact (ch_cons (pc := 18) (pc' := 20) (ok_iload C dX12_signsNow_18) <| ch_cons (pc := 20) (pc' := 22) (ok_iload C dX12_signsNow_20) <| ch_last (pc := 22) (ok_icmp_ge (tgt := 46) C dX12_signsNow_22 (by decide) rfl rfl))
  · exact (ch_cons (pc := 25) (pc' := 27) (ok_aloadR C dX12_signsNow_25) <| ch_cons (pc := 27) (pc' := 29) (ok_iload C dX12_signsNow_27) <| ch_cons (pc := 29) (pc' := 30) (ok_iaload C htb dX12_signsNow_29) <| ch_cons (pc := 30) (pc' := 32) (ok_istore C dX12_signsNow_30 (by decide)) <| ch_cons (pc := 32) (pc' := 33) (ok_iloadn C dX12_signsNow_32 rfl) <| ch_cons (pc := 33) (pc' := 35) (ok_iload C dX12_signsNow_33) <| ch_cons (pc := 35) (pc' := 38) (ok_callS (d := d) C hout hf hlo (sn_141 hS) rfl (kG_s gw_614 gw_615 gw_616 gw_506) (by decide) (by decide +kernel) dX12_signsNow_35) <| ch_cons (pc := 38) (pc' := 39) (ok_iadd C dX12_signsNow_38) <| ch_cons (pc := 39) (pc' := 40) (ok_istoren C dX12_signsNow_39 rfl (by decide)) <| ch_cons (pc := 40) (pc' := 43) (ok_iinc C dX12_signsNow_40 (by decide) (by decide)) <| ch_last (pc := 43) (ok_goto (tgt := 18) C dX12_signsNow_43 (by decide) rfl))
  · exact (ch_cons (pc := 46) (pc' := 47) (ok_iloadn C dX12_signsNow_46 rfl) <| ch_last (pc := 47) (ok_ireturn C hr dX12_signsNow_47))
/-- BijectoryModel.signs(II)I -/
def bl_X12_signs (tb : List (List Int32)) (cl : kCall) : List (List kOp) := [
  [oLoadR 0, oLoadI 1, oCall cl 146 1, oS (gPush (.int 1)), oCallV cl 124 2 11 20, tIf (fun x => !decide (x = 0)) 2 1],
  [oLoadR 0, oLoadI 2, oCall cl 147 1, oS (gPush (.int 2)), oCallV cl 123 2 11 20, tIf (fun x => decide (x = 0)) 3 2],
  [oS (gPush (.int 0)), tGo 4],
  [oLoadR 0, oLoadI 1, oLoadI 2, oCallV cl 158 2 11 20, tGo 4],
  [tIret]]
set_option maxRecDepth 100000 in
set_option maxHeartbeats 4000000 in
theorem mok_X12_signs {E : kE} {σ : List Nat} {l : Launch} {tb : List (List Int32)} (hE : kcl E = kCl) (hn : kn E = 20) (htb : ktb E = tb) : kMOK E (kXX (kb E) σ) σ kZs l kY kWS yX12_signs (kws yX12_signs cX12_signs 3 (some .int)) cX12_signs 3 (some .int) (fun cl => bl_X12_signs tb cl) := by
  intro d cl hS p e R s m args below meth c α0 nc0 ns0 res C hf hlo hr hnm hout
  have hXX : kXX (kb E) σ s := C.2.2.2.2.2.2.1.2.2.2.2
  refine ⟨fun b => [0, 12, 24, 28, 34].getD b 0, rfl, kAllB_get (bl := bl_X12_signs tb cl) ⟨?_, ?_, ?_, ?_, ?_, trivial⟩⟩
  · exact (ch_cons (pc := 0) (pc' := 1) (ok_aloadRn C dX12_signs_0 rfl) <| ch_cons (pc := 1) (pc' := 2) (ok_iloadn C dX12_signs_1 rfl) <| ch_cons (pc := 2) (pc' := 5) (ok_callS (d := d) C hout hf hlo (sn_146 hS) rfl (kG_s gw_584 gw_585 gw_586 gw_506) (by decide) (by decide +kernel) dX12_signs_2) <| ch_cons (pc := 5) (pc' := 6) (ok_iconst C dX12_signs_5 (by decide)) <| ch_cons (pc := 6) (pc' := 9) (ok_callV (d := d) (maxL := 3) C hn hout hf hlo (sn_124 hS) rfl (kcl_at hE 11 rfl) (kG_v gw_560 gw_561 gw_562 gw_563 gw_506) (by decide) (by decide +kernel) dX12_signs_6) <| ch_last (pc := 9) (ok_if_ne (tgt := 24) C dX12_signs_9 (by decide) rfl rfl))
  · exact (ch_cons (pc := 12) (pc' := 13) (ok_aloadRn C dX12_signs_12 rfl) <| ch_cons (pc := 13) (pc' := 14) (ok_iloadn C dX12_signs_13 rfl) <| ch_cons (pc := 14) (pc' := 17) (ok_callS (d := d) C hout hf hlo (sn_147 hS) rfl (kG_s gw_597 gw_598 gw_599 gw_506) (by decide) (by decide +kernel) dX12_signs_14) <| ch_cons (pc := 17) (pc' := 18) (ok_iconst C dX12_signs_17 (by decide)) <| ch_cons (pc := 18) (pc' := 21) (ok_callV (d := d) (maxL := 3) C hn hout hf hlo (sn_123 hS) rfl (kcl_at hE 11 rfl) (kG_v gw_508 gw_509 gw_510 gw_511 gw_506) (by decide) (by decide +kernel) dX12_signs_18) <| ch_last (pc := 21) (ok_if_eq (tgt := 28) C dX12_signs_21 (by decide) rfl rfl))
  · exact (ch_cons (pc := 24) (pc' := 25) (ok_iconst C dX12_signs_24 (by decide)) <| ch_last (pc := 25) (ok_goto (tgt := 34) C dX12_signs_25 (by decide) rfl))
  · exact (ch_cons (pc := 28) (pc' := 29) (ok_aloadRn C dX12_signs_28 rfl) <| ch_cons (pc := 29) (pc' := 30) (ok_iloadn C dX12_signs_29 rfl) <| ch_cons (pc := 30) (pc' := 31) (ok_iloadn C dX12_signs_30 rfl) <| ch_cons (pc := 31) (pc' := 34) (ok_callV (d := d) (maxL := 8) C hn hout hf hlo (sn_158 hS) rfl (kcl_at hE 11 rfl) (kG_v gw_617 gw_618 gw_619 gw_620 gw_506) (by decide) (by decide +kernel) dX12_signs_31) <| ch_last (pc := 34) (ok_fall rfl))
  · exact (ch_last (pc := 34) (ok_ireturn C hr dX12_signs_34))
/-- BijectoryModel.alike(IIII)Z -/
def bl_X12_alike (tb : List (List Int32)) (cl : kCall) : List (List kOp) := [
  [oLoadR 0, oLoadI 1, oCall cl 146 1, tIf (fun x => !decide (x = 0)) 2 1],
  [oLoadI 3, oCall cl 146 1, tIf (fun x => decide (x = 0)) 3 2],
  [oS (gPush (.int 1)), tGo 4],
  [oS (gPush (.int 0)), tGo 4],
  [oS (gPush (.int 1)), oCallV cl 124 2 11 20, tIf (fun x => !decide (x = 0)) 10 5],
  [oLoadR 0, oLoadI 2, oCall cl 147 1, tIf (fun x => !decide (x = 0)) 7 6],
  [oLoadI 4, oCall cl 147 1, tIf (fun x => decide (x = 0)) 8 7],
  [oS (gPush (.int 1)), tGo 9],
  [oS (gPush (.int 0)), tGo 9],
  [oS (gPush (.int 2)), oCallV cl 123 2 11 20, tIf (fun x => decide (x = 0)) 11 10],
  [oS (gPush (.int 0)), tZret],
  [oS (gPush (.int 64)), oNewa 20 100, oStoreR 5, oLoadR 0, oLoadI 1, oLoadI 2, oCallV cl 140 2 11 20, oStoreR 6, oLoadR 6, oAlen tb, oStoreI 7, oS (gPush (.int 0)), oStoreI 8, tGo 12],
  [oLoadI 8, oLoadI 7, tCmp (fun x y => decide (y ≤ x)) 14 13],
  [oLoadR 6, oLoadI 8, oIald tb, oStoreI 9, oLoadR 5, oLoadI 9, oS gDup2, oIald tb, oS (gPush (.int 1)), oBin (fun x y => x + y), oIast 20, oIinc 8 1, tGo 12],
  [oLoadR 0, oLoadI 3, oLoadI 4, oCallV cl 140 2 11 20, oStoreR 6, oLoadR 6, oAlen tb, oStoreI 7, oS (gPush (.int 0)), oStoreI 8, tGo 15],
  [oLoadI 8, oLoadI 7, tCmp (fun x y => decide (y ≤ x)) 17 16],
  [oLoadR 6, oLoadI 8, oIald tb, oStoreI 9, oLoadR 5, oLoadI 9, oS gDup2, oIald tb, oS (gPush (.int 1)), oBin (fun x y => x - y), oIast 20, oIinc 8 1, tGo 15],
  [oLoadR 5, oStoreR 6, oLoadR 6, oAlen tb, oStoreI 7, oS (gPush (.int 0)), oStoreI 8, tGo 18],
  [oLoadI 8, oLoadI 7, tCmp (fun x y => decide (y ≤ x)) 22 19],
  [oLoadR 6, oLoadI 8, oIald tb, oStoreI 9, oLoadI 9, tIf (fun x => decide (x = 0)) 21 20],
  [oS (gPush (.int 0)), tZret],
  [oIinc 8 1, tGo 18],
  [oS (gPush (.int 1)), tZret]]
set_option maxRecDepth 100000 in
set_option maxHeartbeats 4000000 in
theorem mok_X12_alike {E : kE} {σ : List Nat} {l : Launch} {tb : List (List Int32)} (hE : kcl E = kCl) (hn : kn E = 20) (htb : ktb E = tb) : kMOK E (kXX (kb E) σ) σ kZs l kY kWS yX12_alike (kws yX12_alike cX12_alike 10 (some .boolean)) cX12_alike 10 (some .boolean) (fun cl => bl_X12_alike tb cl) := by
  intro d cl hS p e R s m args below meth c α0 nc0 ns0 res C hf hlo hr hnm hout
  have hXX : kXX (kb E) σ s := C.2.2.2.2.2.2.1.2.2.2.2
  refine ⟨fun b => [0, 8, 15, 19, 20, 27, 35, 43, 47, 48, 55, 57, 79, 86, 108, 125, 132, 154, 166, 173, 185, 187, 193].getD b 0, rfl, kAllB_get (bl := bl_X12_alike tb cl) ⟨?_, ?_, ?_, ?_, ?_, ?_, ?_, ?_, ?_, ?_, ?_, ?_, ?_, ?_, ?_, ?_, ?_, ?_, ?_, ?_, ?_, ?_, ?_, trivial⟩⟩
  · exact (ch_cons (pc := 0) (pc' := 1) (ok_aloadRn C dX12_alike_0 rfl) <| ch_cons (pc := 1) (pc' := 2) (ok_iloadn C dX12_alike_1 rfl) <| ch_cons (pc := 2) (pc' := 5) (ok_callS (d := d) C hout hf hlo (sn_146 hS) rfl (kG_s gw_584 gw_585 gw_586 gw_506) (by decide) (by decide +kernel) dX12_alike_2) <| ch_last (pc := 5) (ok_if_ne (tgt := 15) C dX12_alike_5 (by decide) rfl rfl))
  · exact (ch_cons (pc := 8) (pc' := 9) (ok_iloadn C dX12_alike_8 rfl) <| ch_cons (pc := 9) (pc' := 12) (ok_callS (d := d) C hout hf hlo (sn_146 hS) rfl (kG_s gw_584 gw_585 gw_586 gw_506) (by decide) (by decide +kernel) dX12_alike_9) <| ch_last (pc := 12) (ok_if_eq (tgt := 19) C dX12_alike_12 (by decide) rfl rfl))
  · exact (ch_cons (pc := 15) (pc' := 16) (ok_iconst C dX12_alike_15 (by decide)) <| ch_last (pc := 16) (ok_goto (tgt := 20) C dX12_alike_16 (by decide) rfl))
  · exact (ch_cons (pc := 19) (pc' := 20) (ok_iconst C dX12_alike_19 (by decide)) <| ch_last (pc := 20) (ok_fall rfl))
  · exact (ch_cons (pc := 20) (pc' := 21) (ok_iconst C dX12_alike_20 (by decide)) <| ch_cons (pc := 21) (pc' := 24) (ok_callV (d := d) (maxL := 3) C hn hout hf hlo (sn_124 hS) rfl (kcl_at hE 11 rfl) (kG_v gw_560 gw_561 gw_562 gw_563 gw_506) (by decide) (by decide +kernel) dX12_alike_21) <| ch_last (pc := 24) (ok_if_ne (tgt := 55) C dX12_alike_24 (by decide) rfl rfl))
  · exact (ch_cons (pc := 27) (pc' := 28) (ok_aloadRn C dX12_alike_27 rfl) <| ch_cons (pc := 28) (pc' := 29) (ok_iloadn C dX12_alike_28 rfl) <| ch_cons (pc := 29) (pc' := 32) (ok_callS (d := d) C hout hf hlo (sn_147 hS) rfl (kG_s gw_597 gw_598 gw_599 gw_506) (by decide) (by decide +kernel) dX12_alike_29) <| ch_last (pc := 32) (ok_if_ne (tgt := 43) C dX12_alike_32 (by decide) rfl rfl))
  · exact (ch_cons (pc := 35) (pc' := 37) (ok_iload C dX12_alike_35) <| ch_cons (pc := 37) (pc' := 40) (ok_callS (d := d) C hout hf hlo (sn_147 hS) rfl (kG_s gw_597 gw_598 gw_599 gw_506) (by decide) (by decide +kernel) dX12_alike_37) <| ch_last (pc := 40) (ok_if_eq (tgt := 47) C dX12_alike_40 (by decide) rfl rfl))
  · exact (ch_cons (pc := 43) (pc' := 44) (ok_iconst C dX12_alike_43 (by decide)) <| ch_last (pc := 44) (ok_goto (tgt := 48) C dX12_alike_44 (by decide) rfl))
  · exact (ch_cons (pc := 47) (pc' := 48) (ok_iconst C dX12_alike_47 (by decide)) <| ch_last (pc := 48) (ok_fall rfl))
  · exact (ch_cons (pc := 48) (pc' := 49) (ok_iconst C dX12_alike_48 (by decide)) <| ch_cons (pc := 49) (pc' := 52) (ok_callV (d := d) (maxL := 3) C hn hout hf hlo (sn_123 hS) rfl (kcl_at hE 11 rfl) (kG_v gw_508 gw_509 gw_510 gw_511 gw_506) (by decide) (by decide +kernel) dX12_alike_49) <| ch_last (pc := 52) (ok_if_eq (tgt := 57) C dX12_alike_52 (by decide) rfl rfl))
  · exact (ch_cons (pc := 55) (pc' := 56) (ok_iconst C dX12_alike_55 (by decide)) <| ch_last (pc := 56) (ok_zreturn C hr dX12_alike_56))
  · exact (ch_cons (pc := 57) (pc' := 59) (ok_bipush C dX12_alike_57 (by decide)) <| ch_cons (pc := 59) (pc' := 61) (ok_newa C hn (by decide) rfl rfl (by decide) (fun _ h => by cases h) (kG_in gw_109) dX12_alike_59) <| ch_cons (pc := 61) (pc' := 63) (ok_astoreR C dX12_alike_61 (by decide)) <| ch_cons (pc := 63) (pc' := 64) (ok_aloadRn C dX12_alike_63 rfl) <| ch_cons (pc := 64) (pc' := 65) (ok_iloadn C dX12_alike_64 rfl) <| ch_cons (pc := 65) (pc' := 66) (ok_iloadn C dX12_alike_65 rfl) <| ch_cons (pc := 66) (pc' := 69) (ok_callV (d := d) (maxL := 5) C hn hout hf hlo (sn_140 hS) rfl (kcl_at hE 11 rfl) (kG_v gw_610 gw_611 gw_612 gw_613 gw_506) (by decide) (by decide +kernel) dX12_alike_66) <| ch_cons (pc := 69) (pc' := 71) (ok_astoreR C dX12_alike_69 (by decide)) <| ch_cons (pc := 71) (pc' := 73) (ok_aloadR C dX12_alike_71) <| ch_cons (pc := 73) (pc' := 74) (ok_alen C htb dX12_alike_73) <| ch_cons (pc := 74) (pc' := 76) (ok_istore C dX12_alike_74 (by decide)) <| ch_cons (pc := 76) (pc' := 77) (ok_iconst C dX12_alike_76 (by decide)) <| ch_cons (pc := 77) (pc' := 79) (ok_istore C dX12_alike_77 (by decide)) <| ch_last (pc := 79) (ok_fall rfl))
  · exact (ch_cons (pc := 79) (pc' := 81) (ok_iload C dX12_alike_79) <| ch_cons (pc := 81) (pc' := 83) (ok_iload C dX12_alike_81) <| ch_last (pc := 83) (ok_icmp_ge (tgt := 108) C dX12_alike_83 (by decide) rfl rfl))
  · exact (ch_cons (pc := 86) (pc' := 88) (ok_aloadR C dX12_alike_86) <| ch_cons (pc := 88) (pc' := 90) (ok_iload C dX12_alike_88) <| ch_cons (pc := 90) (pc' := 91) (ok_iaload C htb dX12_alike_90) <| ch_cons (pc := 91) (pc' := 93) (ok_istore C dX12_alike_91 (by decide)) <| ch_cons (pc := 93) (pc' := 95) (ok_aloadR C dX12_alike_93) <| ch_cons (pc := 95) (pc' := 97) (ok_iload C dX12_alike_95) <| ch_cons (pc := 97) (pc' := 98) (ok_dup2 C dX12_alike_97) <| ch_cons (pc := 98) (pc' := 99) (ok_iaload C htb dX12_alike_98) <| ch_cons (pc := 99) (pc' := 100) (ok_iconst C dX12_alike_99 (by decide)) <| ch_cons (pc := 100) (pc' := 101) (ok_iadd C dX12_alike_100) <| ch_cons (pc := 101) (pc' := 102) (ok_iastore C hn dX12_alike_101) <| ch_cons (pc := 102) (pc' := 105) (ok_iinc C dX12_alike_102 (by decide) (by decide)) <| ch_last (pc := 105) (ok_goto (tgt := 79) C dX12_alike_105 (by decide) rfl))
  · exact (ch_cons (pc := 108) (pc' := 109) (ok_aloadRn C dX12_alike_108 rfl) <| ch_cons (pc := 109) (pc' := 110) (ok_iloadn C dX12_alike_109 rfl) <| ch_cons (pc := 110) (pc' := 112) (ok_iload C dX12_alike_110) <| ch_cons (pc := 112) (pc' := 115) (ok_callV (d := d) (maxL := 5) C hn hout hf hlo (sn_140 hS) rfl (kcl_at hE 11 rfl) (kG_v gw_610 gw_611 gw_612 gw_613 gw_506) (by decide) (by decide +kernel) dX12_alike_112) <| ch_cons (pc := 115) (pc' := 117) (ok_astoreR C dX12_alike_115 (by decide)) <| ch_cons (pc := 117) (pc' := 119) (ok_aloadR C dX12_alike_117) <| ch_cons (pc := 119) (pc' := 120) (ok_alen C htb dX12_alike_119) <| ch_cons (pc := 120) (pc' := 122) (ok_istore C dX12_alike_120 (by decide)) <| ch_cons (pc := 122) (pc' := 123) (ok_iconst C dX12_alike_122 (by decide)) <| ch_cons (pc := 123) (pc' := 125) (ok_istore C dX12_alike_123 (by decide)) <| ch_last (pc := 125) (ok_fall rfl))
  · exact (ch_cons (pc := 125) (pc' := 127) (ok_iload C dX12_alike_125) <| ch_cons (pc := 127) (pc' := 129) (ok_iload C dX12_alike_127) <| ch_last (pc := 129) (ok_icmp_ge (tgt := 154) C dX12_alike_129 (by decide) rfl rfl))
  · exact (ch_cons (pc := 132) (pc' := 134) (ok_aloadR C dX12_alike_132) <| ch_cons (pc := 134) (pc' := 136) (ok_iload C dX12_alike_134) <| ch_cons (pc := 136) (pc' := 137) (ok_iaload C htb dX12_alike_136) <| ch_cons (pc := 137) (pc' := 139) (ok_istore C dX12_alike_137 (by decide)) <| ch_cons (pc := 139) (pc' := 141) (ok_aloadR C dX12_alike_139) <| ch_cons (pc := 141) (pc' := 143) (ok_iload C dX12_alike_141) <| ch_cons (pc := 143) (pc' := 144) (ok_dup2 C dX12_alike_143) <| ch_cons (pc := 144) (pc' := 145) (ok_iaload C htb dX12_alike_144) <| ch_cons (pc := 145) (pc' := 146) (ok_iconst C dX12_alike_145 (by decide)) <| ch_cons (pc := 146) (pc' := 147) (ok_isub C dX12_alike_146) <| ch_cons (pc := 147) (pc' := 148) (ok_iastore C hn dX12_alike_147) <| ch_cons (pc := 148) (pc' := 151) (ok_iinc C dX12_alike_148 (by decide) (by decide)) <| ch_last (pc := 151) (ok_goto (tgt := 125) C dX12_alike_151 (by decide) rfl))
  · exact (ch_cons (pc := 154) (pc' := 156) (ok_aloadR C dX12_alike_154) <| ch_cons (pc := 156) (pc' := 158) (ok_astoreR C dX12_alike_156 (by decide)) <| ch_cons (pc := 158) (pc' := 160) (ok_aloadR C dX12_alike_158) <| ch_cons (pc := 160) (pc' := 161) (ok_alen C htb dX12_alike_160) <| ch_cons (pc := 161) (pc' := 163) (ok_istore C dX12_alike_161 (by decide)) <| ch_cons (pc := 163) (pc' := 164) (ok_iconst C dX12_alike_163 (by decide)) <| ch_cons (pc := 164) (pc' := 166) (ok_istore C dX12_alike_164 (by decide)) <| ch_last (pc := 166) (ok_fall rfl))
  · exact (ch_cons (pc := 166) (pc' := 168) (ok_iload C dX12_alike_166) <| ch_cons (pc := 168) (pc' := 170) (ok_iload C dX12_alike_168) <| ch_last (pc := 170) (ok_icmp_ge (tgt := 193) C dX12_alike_170 (by decide) rfl rfl))
  · exact (ch_cons (pc := 173) (pc' := 175) (ok_aloadR C dX12_alike_173) <| ch_cons (pc := 175) (pc' := 177) (ok_iload C dX12_alike_175) <| ch_cons (pc := 177) (pc' := 178) (ok_iaload C htb dX12_alike_177) <| ch_cons (pc := 178) (pc' := 180) (ok_istore C dX12_alike_178 (by decide)) <| ch_cons (pc := 180) (pc' := 182) (ok_iload C dX12_alike_180) <| ch_last (pc := 182) (ok_if_eq (tgt := 187) C dX12_alike_182 (by decide) rfl rfl))
  · exact (ch_cons (pc := 185) (pc' := 186) (ok_iconst C dX12_alike_185 (by decide)) <| ch_last (pc := 186) (ok_zreturn C hr dX12_alike_186))
  · exact (ch_cons (pc := 187) (pc' := 190) (ok_iinc C dX12_alike_187 (by decide) (by decide)) <| ch_last (pc := 190) (ok_goto (tgt := 166) C dX12_alike_190 (by decide) rfl))
  · exact (ch_cons (pc := 193) (pc' := 194) (ok_iconst C dX12_alike_193 (by decide)) <| ch_last (pc := 194) (ok_zreturn C hr dX12_alike_194))
/-- BijectoryModel.digits(I)I -/
def bl_X12_digits (tb : List (List Int32)) (cl : kCall) : List (List kOp) := [
  [oS (gPush (.int 2)), oStoreI 1, tGo 1],
  [oLoadI 1, oS (gPush (.int 4)), tCmp (fun x y => decide (y < x)) 6 2],
  [oLoadI 0, tIf (fun x => decide (x ≤ 0)) 5 3],
  [oLoadI 0, oLoadI 1, oCall cl 126 2, tIf (fun x => decide (x = 0)) 5 4],
  [oLoadI 1, tIret],
  [oIinc 1 1, tGo 1],
  [oS (gPush (.int 0)), tIret]]
set_option maxRecDepth 100000 in
set_option maxHeartbeats 4000000 in
theorem mok_X12_digits {E : kE} {σ : List Nat} {l : Launch} {tb : List (List Int32)} (hE : kcl E = kCl) (hn : kn E = 20) (htb : ktb E = tb) : kMOK E (kXX (kb E) σ) σ kZs l kY kWS yX12_digits (kws yX12_digits cX12_digits 2 (some .int)) cX12_digits 2 (some .int) (fun cl => bl_X12_digits tb cl) := by
  intro d cl hS p e R s m args below meth c α0 nc0 ns0 res C hf hlo hr hnm hout
  have hXX : kXX (kb E) σ s := C.2.2.2.2.2.2.1.2.2.2.2
  refine ⟨fun b => [0, 2, 7, 11, 19, 21, 27].getD b 0, rfl, kAllB_get (bl := bl_X12_digits tb cl) ⟨?_, ?_, ?_, ?_, ?_, ?_, ?_, trivial⟩⟩
  · exact (ch_cons (pc := 0) (pc' := 1) (ok_iconst C dX12_digits_0 (by decide)) <| ch_cons (pc := 1) (pc' := 2) (ok_istoren C dX12_digits_1 rfl (by decide)) <| ch_last (pc := 2) (ok_fall rfl))
  · exact (ch_cons (pc := 2) (pc' := 3) (ok_iloadn C dX12_digits_2 rfl) <| ch_cons (pc := 3) (pc' := 4) (ok_iconst C dX12_digits_3 (by decide)) <| ch_last (pc := 4) (ok_icmp_gt (tgt := 27) C dX12_digits_4 (by decide) rfl rfl))
  · exact (ch_cons (pc := 7) (pc' := 8) (ok_iloadn C dX12_digits_7 rfl) <| ch_last (pc := 8) (ok_if_le (tgt := 21) C dX12_digits_8 (by decide) rfl rfl))
  · exact (ch_cons (pc := 11) (pc' := 12) (ok_iloadn C dX12_digits_11 rfl) <| ch_cons (pc := 12) (pc' := 13) (ok_iloadn C dX12_digits_12 rfl) <| ch_cons (pc := 13) (pc' := 16) (ok_callS (d := d) C hout hf hlo (sn_126 hS) rfl (kG_s gw_621 gw_622 gw_623 gw_506) (by decide) (by decide +kernel) dX12_digits_13) <| ch_last (pc := 16) (ok_if_eq (tgt := 21) C dX12_digits_16 (by decide) rfl rfl))
  · exact (ch_cons (pc := 19) (pc' := 20) (ok_iloadn C dX12_digits_19 rfl) <| ch_last (pc := 20) (ok_ireturn C hr dX12_digits_20))
  · exact (ch_cons (pc := 21) (pc' := 24) (ok_iinc C dX12_digits_21 (by decide) (by decide)) <| ch_last (pc := 24) (ok_goto (tgt := 2) C dX12_digits_24 (by decide) rfl))
  · exact (ch_cons (pc := 27) (pc' := 28) (ok_iconst C dX12_digits_27 (by decide)) <| ch_last (pc := 28) (ok_ireturn C hr dX12_digits_28))
/-- BijectoryModel.contains(II)I -/
def bl_X12_contains (tb : List (List Int32)) (cl : kCall) : List (List kOp) := [
  [oLoadR 0, oLoadR 0, oS (gPush (.int 2)), oLoadI 1, oCallV cl 153 2 11 20, oS (gPush (.int 1)), oCallV cl 124 2 11 20, tIf (fun x => !decide (x = 0)) 5 1],
  [oLoadR 0, oLoadI 2, oCall cl 161 1, tIf (fun x => !decide (x = 0)) 3 2],
  [oS (gPush (.int 1)), tGo 4],
  [oS (gPush (.int 0)), tGo 4],
  [oS (gPush (.int 2)), oCallV cl 123 2 11 20, tIf (fun x => decide (x = 0)) 6 5],
  [oS (gPush (.int 0)), tIret],
  [oLoadI 2, oCall cl 161 1, oStoreI 3, oLoadR 0, oLoadR 0, oGet 20 11 2, oS (gPush (.int 2)), oAald 20, oLoadI 1, oIald tb, oCallV cl 133 1 11 20, oS (gPush (.int 0)), oStoreI 4, oS (gPush (.int 0)), oStoreI 5, tGo 7],
  [oLoadI 5, oS (gPush (.int 1)), oLoadR 0, oGet 20 11 1, oBin (fun x y => x <<< (y &&& 31)), tCmp (fun x y => decide (y ≤ x)) 12 8],
  [oLoadI 5, oCall cl 41 1, oLoadI 3, tCmp (fun x y => !decide (x = y)) 11 9],
  [oLoadR 0, oLoadI 5, oLoadI 2, oLoadI 3, oCallV cl 163 3 11 20, tIf (fun x => decide (x = 0)) 11 10],
  [oIinc 4 1, tGo 11],
  [oIinc 5 1, tGo 7],
  [oLoadI 4, tIret]]
set_option maxRecDepth 100000 in
set_option maxHeartbeats 4000000 in
theorem mok_X12_contains {E : kE} {σ : List Nat} {l : Launch} {tb : List (List Int32)} (hE : kcl E = kCl) (hn : kn E = 20) (htb : ktb E = tb) : kMOK E (kXX (kb E) σ) σ kZs l kY kWS yX12_contains (kws yX12_contains cX12_contains 6 (some .int)) cX12_contains 6 (some .int) (fun cl => bl_X12_contains tb cl) := by
  intro d cl hS p e R s m args below meth c α0 nc0 ns0 res C hf hlo hr hnm hout
  have hXX : kXX (kb E) σ s := C.2.2.2.2.2.2.1.2.2.2.2
  refine ⟨fun b => [0, 14, 22, 26, 27, 34, 36, 59, 70, 79, 90, 93, 99].getD b 0, rfl, kAllB_get (bl := bl_X12_contains tb cl) ⟨?_, ?_, ?_, ?_, ?_, ?_, ?_, ?_, ?_, ?_, ?_, ?_, ?_, trivial⟩⟩
  · exact (ch_cons (pc := 0) (pc' := 1) (ok_aloadRn C dX12_contains_0 rfl) <| ch_cons (pc := 1) (pc' := 2) (ok_aloadRn C dX12_contains_1 rfl) <| ch_cons (pc := 2) (pc' := 3) (ok_iconst C dX12_contains_2 (by decide)) <| ch_cons (pc := 3) (pc' := 4) (ok_iloadn C dX12_contains_3 rfl) <| ch_cons (pc := 4) (pc' := 7) (ok_callV (d := d) (maxL := 3) C hn hout hf hlo (sn_153 hS) rfl (kcl_at hE 11 rfl) (kG_v gw_606 gw_607 gw_608 gw_609 gw_506) (by decide) (by decide +kernel) dX12_contains_4) <| ch_cons (pc := 7) (pc' := 8) (ok_iconst C dX12_contains_7 (by decide)) <| ch_cons (pc := 8) (pc' := 11) (ok_callV (d := d) (maxL := 3) C hn hout hf hlo (sn_124 hS) rfl (kcl_at hE 11 rfl) (kG_v gw_560 gw_561 gw_562 gw_563 gw_506) (by decide) (by decide +kernel) dX12_contains_8) <| ch_last (pc := 11) (ok_if_ne (tgt := 34) C dX12_contains_11 (by decide) rfl rfl))
  · exact (ch_cons (pc := 14) (pc' := 15) (ok_aloadRn C dX12_contains_14 rfl) <| ch_cons (pc := 15) (pc' := 16) (ok_iloadn C dX12_contains_15 rfl) <| ch_cons (pc := 16) (pc' := 19) (ok_callS (d := d) C hout hf hlo (sn_161 hS) rfl (kG_s gw_624 gw_625 gw_626 gw_506) (by decide) (by decide +kernel) dX12_contains_16) <| ch_last (pc := 19) (ok_if_ne (tgt := 26) C dX12_contains_19 (by decide) rfl rfl))
  · exact (ch_cons (pc := 22) (pc' := 23) (ok_iconst C dX12_contains_22 (by decide)) <| ch_last (pc := 23) (ok_goto (tgt := 27) C dX12_contains_23 (by decide) rfl))
  · exact (ch_cons (pc := 26) (pc' := 27) (ok_iconst C dX12_contains_26 (by decide)) <| ch_last (pc := 27) (ok_fall rfl))
  · exact (ch_cons (pc := 27) (pc' := 28) (ok_iconst C dX12_contains_27 (by decide)) <| ch_cons (pc := 28) (pc' := 31) (ok_callV (d := d) (maxL := 3) C hn hout hf hlo (sn_123 hS) rfl (kcl_at hE 11 rfl) (kG_v gw_508 gw_509 gw_510 gw_511 gw_506) (by decide) (by decide +kernel) dX12_contains_28) <| ch_last (pc := 31) (ok_if_eq (tgt := 36) C dX12_contains_31 (by decide) rfl rfl))
  · exact (ch_cons (pc := 34) (pc' := 35) (ok_iconst C dX12_contains_34 (by decide)) <| ch_last (pc := 35) (ok_ireturn C hr dX12_contains_35))
  · exact (ch_cons (pc := 36) (pc' := 37) (ok_iloadn C dX12_contains_36 rfl) <| ch_cons (pc := 37) (pc' := 40) (ok_callS (d := d) C hout hf hlo (sn_161 hS) rfl (kG_s gw_624 gw_625 gw_626 gw_506) (by decide) (by decide +kernel) dX12_contains_37) <| ch_cons (pc := 40) (pc' := 41) (ok_istoren C dX12_contains_40 rfl (by decide)) <| ch_cons (pc := 41) (pc' := 42) (ok_aloadRn C dX12_contains_41 rfl) <| ch_cons (pc := 42) (pc' := 43) (ok_aloadRn C dX12_contains_42 rfl) <| ch_cons (pc := 43) (pc' := 46) (ok_get C hn (fun w h => kG_in (inG_X12 w h)) (kcl_at hE 11 rfl) (by decide) (kG_in gw_489) (fun _ h => h) dX12_contains_43) <| ch_cons (pc := 46) (pc' := 47) (ok_iconst C dX12_contains_46 (by decide)) <| ch_cons (pc := 47) (pc' := 48) (ok_aaload C hn dX12_contains_47) <| ch_cons (pc := 48) (pc' := 49) (ok_iloadn C dX12_contains_48 rfl) <| ch_cons (pc := 49) (pc' := 50) (ok_iaload C htb dX12_contains_49) <| ch_cons (pc := 50) (pc' := 53) (ok_callV (d := d) (maxL := 4) C hn hout hf hlo (sn_133 hS) rfl (kcl_at hE 11 rfl) (kG_v gw_527 gw_528 gw_529 gw_530 gw_506) (by decide) (by decide +kernel) dX12_contains_50) <| ch_cons (pc := 53) (pc' := 54) (ok_iconst C dX12_contains_53 (by decide)) <| ch_cons (pc := 54) (pc' := 56) (ok_istore C dX12_contains_54 (by decide)) <| ch_cons (pc := 56) (pc' := 57) (ok_iconst C dX12_contains_56 (by decide)) <| ch_cons (pc := 57) (pc' := 59) (ok_istore C dX12_contains_57 (by decide)) <| ch_last (pc := 59) (ok_fall rfl))
  · exact (ch_cons (pc := 59) (pc' := 61) (ok_iload C dX12_contains_59) <| ch_cons (pc := 61) (pc' := 62) (ok_iconst C dX12_contains_61 (by decide)) <| ch_cons (pc := 62) (pc' := 63) (ok_aloadRn C dX12_contains_62 rfl) <| ch_cons (pc := 63) (pc' := 66) (ok_get C hn (fun w h => kG_in (inG_X12 w h)) (kcl_at hE 11 rfl) (by decide) (kG_in gw_515) (fun _ h => h) dX12_contains_63) <| ch_cons (pc := 66) (pc' := 67) (ok_ishl C dX12_contains_66) <| ch_last (pc := 67) (ok_icmp_ge (tgt := 99) C dX12_contains_67 (by decide) rfl rfl))
  · exact (ch_cons (pc := 70) (pc' := 72) (ok_iload C dX12_contains_70) <| ch_cons (pc := 72) (pc' := 75) (ok_callS (d := d) C hout hf hlo (sn_41 hS) rfl (kG_s gw_66 gw_627 gw_68 gw_69) (by decide) (by decide +kernel) dX12_contains_72) <| ch_cons (pc := 75) (pc' := 76) (ok_iloadn C dX12_contains_75 rfl) <| ch_last (pc := 76) (ok_icmp_ne (tgt := 93) C dX12_contains_76 (by decide) rfl rfl))
  · exact (ch_cons (pc := 79) (pc' := 80) (ok_aloadRn C dX12_contains_79 rfl) <| ch_cons (pc := 80) (pc' := 82) (ok_iload C dX12_contains_80) <| ch_cons (pc := 82) (pc' := 83) (ok_iloadn C dX12_contains_82 rfl) <| ch_cons (pc := 83) (pc' := 84) (ok_iloadn C dX12_contains_83 rfl) <| ch_cons (pc := 84) (pc' := 87) (ok_callV (d := d) (maxL := 8) C hn hout hf hlo (sn_163 hS) rfl (kcl_at hE 11 rfl) (kG_v gw_628 gw_629 gw_630 gw_631 gw_506) (by decide) (by decide +kernel) dX12_contains_84) <| ch_last (pc := 87) (ok_if_eq (tgt := 93) C dX12_contains_87 (by decide) rfl rfl))
  · exact (ch_cons (pc := 90) (pc' := 93) (ok_iinc C dX12_contains_90 (by decide) (by decide)) <| ch_last (pc := 93) (ok_fall rfl))
  · exact (ch_cons (pc := 93) (pc' := 96) (ok_iinc C dX12_contains_93 (by decide) (by decide)) <| ch_last (pc := 96) (ok_goto (tgt := 59) C dX12_contains_96 (by decide) rfl))
  · exact (ch_cons (pc := 99) (pc' := 101) (ok_iload C dX12_contains_99) <| ch_last (pc := 101) (ok_ireturn C hr dX12_contains_101))
/-- BijectoryModel.isLike(III)Z -/
def bl_X12_isLike (tb : List (List Int32)) (cl : kCall) : List (List kOp) := [
  [oS (gPush (.int 0)), oStoreI 4, oS (gPush (.int 0)), oStoreI 5, tGo 1],
  [oLoadI 5, oLoadR 0, oGet 20 11 1, tCmp (fun x y => decide (y ≤ x)) 5 2],
  [oLoadI 1, oLoadI 5, oBin (fun x y => x >>> (y &&& 31)), oS (gPush (.int 1)), oBin (fun x y => x &&& y), oS (gPush (.int 1)), tCmp (fun x y => !decide (x = y)) 4 3],
  [oLoadR 0, oGet 20 11 9, oLoadI 4, oIinc 4 1, oLoadR 0, oGet 20 11 8, oLoadI 5, oIald tb, oIast 20, tGo 4],
  [oIinc 5 1, tGo 1],
  [oS (gPush (.int 0)), oStoreI 5, tGo 6],
  [oLoadI 5, oLoadI 3, tCmp (fun x y => decide (y ≤ x)) 19 7],
  [oS (gPush (.int 0)), oStoreI 6, tGo 8],
  [oLoadI 6, oLoadI 5, tCmp (fun x y => decide (y ≤ x)) 18 9],
  [oLoadI 2, oLoadI 3, oS (gPush (.int 1)), oBin (fun x y => x - y), oLoadI 6, oBin (fun x y => x - y), oCall cl 127 1, oBin0 (fun x y => x / y), oS (gPush (.int 10)), oBin0 (fun x y => x - x / y * y), oLoadI 2, oLoadI 3, oS (gPush (.int 1)), oBin (fun x y => x - y), oLoadI 5, oBin (fun x y => x - y), oCall cl 127 1, oBin0 (fun x y => x / y), oS (gPush (.int 10)), oBin0 (fun x y => x - x / y * y), tCmp (fun x y => decide (y ≤ x)) 11 10],
  [oS (gPush (.int 1)), tGo 12],
  [oS (gPush (.int 0)), tGo 12],
  [oStoreI 7, oLoadI 7, oLoadR 0, oGet 20 11 9, oLoadI 6, oIald tb, oLoadR 0, oGet 20 11 9, oLoadI 5, oIald tb, tCmp (fun x y => decide (y ≤ x)) 14 13],
  [oS (gPush (.int 1)), tGo 15],
  [oS (gPush (.int 0)), tGo 15],
  [tCmp (fun x y => decide (x = y)) 17 16],
  [oS (gPush (.int 0)), tZret],
  [oIinc 6 1, tGo 8],
  [oIinc 5 1, tGo 6],
  [oS (gPush (.int 1)), tZret]]
set_option maxRecDepth 100000 in
set_option maxHeartbeats 4000000 in
theorem mok_X12_isLike {E : kE} {σ : List Nat} {l : Launch} {tb : List (List Int32)} (hE : kcl E = kCl) (hn : kn E = 20) (htb : ktb E = tb) : kMOK E (kXX (kb E) σ) σ kZs l kY kWS yX12_isLike (kws yX12_isLike cX12_isLike 8 (some .boolean)) cX12_isLike 8 (some .boolean) (fun cl => bl_X12_isLike tb cl) := by
  intro d cl hS p e R s m args below meth c α0 nc0 ns0 res C hf hlo hr hnm hout
  have hXX : kXX (kb E) σ s := C.2.2.2.2.2.2.1.2.2.2.2
  refine ⟨fun b => [0, 6, 15, 25, 42, 48, 51, 57, 60, 67, 98, 102, 103, 124, 128, 129, 132, 134, 140, 146].getD b 0, rfl, kAllB_get (bl := bl_X12_isLike tb cl) ⟨?_, ?_, ?_, ?_, ?_, ?_, ?_, ?_, ?_, ?_, ?_, ?_, ?_, ?_, ?_, ?_, ?_, ?_, ?_, ?_, trivial⟩⟩
  · exact (ch_cons (pc := 0) (pc' := 1) (ok_iconst C dX12_isLike_0 (by decide)) <| ch_cons (pc := 1) (pc' := 3) (ok_istore C dX12_isLike_1 (by decide)) <| ch_cons (pc := 3) (pc' := 4) (ok_iconst C dX12_isLike_3 (by decide)) <| ch_cons (pc := 4) (pc' := 6) (ok_istore C dX12_isLike_4 (by decide)) <| ch_last (pc := 6) (ok_fall rfl))
  · exact (ch_cons (pc := 6) (pc' := 8) (ok_iload C dX12_isLike_6) <| ch_cons (pc := 8) (pc' := 9) (ok_aloadRn C dX12_isLike_8 rfl) <| ch_cons (pc := 9) (pc' := 12) (ok_get C hn (fun w h => kG_in (inG_X12 w h)) (kcl_at hE 11 rfl) (by decide) (kG_in gw_515) (fun _ h => h) dX12_isLike_9) <| ch_last (pc := 12) (ok_icmp_ge (tgt := 48) C dX12_isLike_12 (by decide) rfl rfl))
  · exact (ch_cons (pc := 15) (pc' := 16) (ok_iloadn C dX12_isLike_15 rfl) <| ch_cons (pc := 16) (pc' := 18) (ok_iload C dX12_isLike_16) <| ch_cons (pc := 18) (pc' := 19) (ok_ishr C dX12_isLike_18) <| ch_cons (pc := 19) (pc' := 20) (ok_iconst C dX12_isLike_19 (by decide)) <| ch_cons (pc := 20) (pc' := 21) (ok_iand C dX12_isLike_20) <| ch_cons (pc := 21) (pc' := 22) (ok_iconst C dX12_isLike_21 (by decide)) <| ch_last (pc := 22) (ok_icmp_ne (tgt := 42) C dX12_isLike_22 (by decide) rfl rfl))
  · exact (ch_cons (pc := 25) (pc' := 26) (ok_aloadRn C dX12_isLike_25 rfl) <| ch_cons (pc := 26) (pc' := 29) (ok_get C hn (fun w h => kG_in (inG_X12 w h)) (kcl_at hE 11 rfl) (by decide) (kG_in gw_500) (fun _ h => h) dX12_isLike_26) <| ch_cons (pc := 29) (pc' := 31) (ok_iload C dX12_isLike_29) <| ch_cons (pc := 31) (pc' := 34) (ok_iinc C dX12_isLike_31 (by decide) (by decide)) <| ch_cons (pc := 34) (pc' := 35) (ok_aloadRn C dX12_isLike_34 rfl) <| ch_cons (pc := 35) (pc' := 38) (ok_get C hn (fun w h => kG_in (inG_X12 w h)) (kcl_at hE 11 rfl) (by decide) (kG_in gw_499) (fun _ h => h) dX12_isLike_35) <| ch_cons (pc := 38) (pc' := 40) (ok_iload C dX12_isLike_38) <| ch_cons (pc := 40) (pc' := 41) (ok_iaload C htb dX12_isLike_40) <| ch_cons (pc := 41) (pc' := 42) (ok_iastore C hn dX12_isLike_41) <| ch_last (pc := 42) (ok_fall rfl))
  · exact (ch_cons (pc := 42) (pc' := 45) (ok_iinc C dX12_isLike_42 (by decide) (by decide)) <| ch_last (pc := 45) (ok_goto (tgt := 6) C dX12_isLike_45 (by decide) rfl))
  · exact (ch_cons (pc := 48) (pc' := 49) (ok_iconst C dX12_isLike_48 (by decide)) <| ch_cons (pc := 49) (pc' := 51) (ok_istore C dX12_isLike_49 (by decide)) <| ch_last (pc := 51) (ok_fall rfl))
  · exact (ch_cons (pc := 51) (pc' := 53) (ok_iload C dX12_isLike_51) <| ch_cons (pc := 53) (pc' := 54) (ok_iloadn C dX12_isLike_53 rfl) <| ch_last (pc := 54) (ok_icmp_ge (tgt := 146) C dX12_isLike_54 (by decide) rfl rfl))
  · exact (ch_cons (pc := 57) (pc' := 58) (ok_iconst C dX12_isLike_57 (by decide)) <| ch_cons (pc := 58) (pc' := 60) (ok_istore C dX12_isLike_58 (by decide)) <| ch_last (pc := 60) (ok_fall rfl))
  · exact (ch_cons (pc := 60) (pc' := 62) (ok_iload C dX12_isLike_60) <| ch_cons (pc := 62) (pc' := 64) (ok_iload C dX12_isLike_62) <| ch_last (pc := 64) (ok_icmp_ge (tgt := 140) C dX12_isLike_64 (by decide) rfl rfl))
  · exact (ch_cons (pc := 67) (pc' := 68) (ok_iloadn C dX12_isLike_67 rfl) <| ch_cons (pc := 68) (pc' := 69) (ok_iloadn C dX12_isLike_68 rfl) <| ch_cons (pc := 69) (pc' := 70) (ok_iconst C dX12_isLike_69 (by decide)) <| ch_cons (pc := 70) (pc' := 71) (ok_isub C dX12_isLike_70) <| ch_cons (pc := 71) (pc' := 73) (ok_iload C dX12_isLike_71) <| ch_cons (pc := 73) (pc' := 74) (ok_isub C dX12_isLike_73) <| ch_cons (pc := 74) (pc' := 77) (ok_callS (d := d) C hout hf hlo (sn_127 hS) rfl (kG_s gw_512 gw_513 gw_514 gw_506) (by decide) (by decide +kernel) dX12_isLike_74) <| ch_cons (pc := 77) (pc' := 78) (ok_idiv C dX12_isLike_77) <| ch_cons (pc := 78) (pc' := 80) (ok_bipush C dX12_isLike_78 (by decide)) <| ch_cons (pc := 80) (pc' := 81) (ok_irem C dX12_isLike_80) <| ch_cons (pc := 81) (pc' := 82) (ok_iloadn C dX12_isLike_81 rfl) <| ch_cons (pc := 82) (pc' := 83) (ok_iloadn C dX12_isLike_82 rfl) <| ch_cons (pc := 83) (pc' := 84) (ok_iconst C dX12_isLike_83 (by decide)) <| ch_cons (pc := 84) (pc' := 85) (ok_isub C dX12_isLike_84) <| ch_cons (pc := 85) (pc' := 87) (ok_iload C dX12_isLike_85) <| ch_cons (pc := 87) (pc' := 88) (ok_isub C dX12_isLike_87) <| ch_cons (pc := 88) (pc' := 91) (ok_callS (d := d) C hout hf hlo (sn_127 hS) rfl (kG_s gw_512 gw_513 gw_514 gw_506) (by decide) (by decide +kernel) dX12_isLike_88) <| ch_cons (pc := 91) (pc' := 92) (ok_idiv C dX12_isLike_91) <| ch_cons (pc := 92) (pc' := 94) (ok_bipush C dX12_isLike_92 (by decide)) <| ch_cons (pc := 94) (pc' := 95) (ok_irem C dX12_isLike_94) <| ch_last (pc := 95) (ok_icmp_ge (tgt := 102) C dX12_isLike_95 (by decide) rfl rfl))
  · exact (ch_cons (pc := 98) (pc' := 99) (ok_iconst C dX12_isLike_98 (by decide)) <| ch_last (pc := 99) (ok_goto (tgt := 103) C dX12_isLike_99 (by decide) rfl))
  · exact (ch_cons (pc := 102) (pc' := 103) (ok_iconst C dX12_isLike_102 (by decide)) <| ch_last (pc := 103) (ok_fall rfl))
  · exact (ch_cons (pc := 103) (pc' := 105) (ok_istore C dX12_isLike_103 (by decide)) <| ch_cons (pc := 105) (pc' := 107) (ok_iload C dX12_isLike_105) <| ch_cons (pc := 107) (pc' := 108) (ok_aloadRn C dX12_isLike_107 rfl) <| ch_cons (pc := 108) (pc' := 111) (ok_get C hn (fun w h => kG_in (inG_X12 w h)) (kcl_at hE 11 rfl) (by decide) (kG_in gw_500) (fun _ h => h) dX12_isLike_108) <| ch_cons (pc := 111) (pc' := 113) (ok_iload C dX12_isLike_111) <| ch_cons (pc := 113) (pc' := 114) (ok_iaload C htb dX12_isLike_113) <| ch_cons (pc := 114) (pc' := 115) (ok_aloadRn C dX12_isLike_114 rfl) <| ch_cons (pc := 115) (pc' := 118) (ok_get C hn (fun w h => kG_in (inG_X12 w h)) (kcl_at hE 11 rfl) (by decide) (kG_in gw_500) (fun _ h => h) dX12_isLike_115) <| ch_cons (pc := 118) (pc' := 120) (ok_iload C dX12_isLike_118) <| ch_cons (pc := 120) (pc' := 121) (ok_iaload C htb dX12_isLike_120) <| ch_last (pc := 121) (ok_icmp_ge (tgt := 128) C dX12_isLike_121 (by decide) rfl rfl))
  · exact (ch_cons (pc := 124) (pc' := 125) (ok_iconst C dX12_isLike_124 (by decide)) <| ch_last (pc := 125) (ok_goto (tgt := 129) C dX12_isLike_125 (by decide) rfl))
  · exact (ch_cons (pc := 128) (pc' := 129) (ok_iconst C dX12_isLike_128 (by decide)) <| ch_last (pc := 129) (ok_fall rfl))
  · exact (ch_last (pc := 129) (ok_icmp_eq (tgt := 134) C dX12_isLike_129 (by decide) rfl rfl))
  · exact (ch_cons (pc := 132) (pc' := 133) (ok_iconst C dX12_isLike_132 (by decide)) <| ch_last (pc := 133) (ok_zreturn C hr dX12_isLike_133))
  · exact (ch_cons (pc := 134) (pc' := 137) (ok_iinc C dX12_isLike_134 (by decide) (by decide)) <| ch_last (pc := 137) (ok_goto (tgt := 60) C dX12_isLike_137 (by decide) rfl))
  · exact (ch_cons (pc := 140) (pc' := 143) (ok_iinc C dX12_isLike_140 (by decide) (by decide)) <| ch_last (pc := 143) (ok_goto (tgt := 51) C dX12_isLike_143 (by decide) rfl))
  · exact (ch_cons (pc := 146) (pc' := 147) (ok_iconst C dX12_isLike_146 (by decide)) <| ch_last (pc := 147) (ok_zreturn C hr dX12_isLike_147))
/-- BijectoryModel.sortedNow(I)I -/
def bl_X12_sortedNow (tb : List (List Int32)) (cl : kCall) : List (List kOp) := [
  [oS (gPush (.int 0)), oStoreI 2, oLoadR 0, oGet 20 11 2, oS (gPush (.int 2)), oAald 20, oStoreR 3, oLoadR 3, oAlen tb, oStoreI 4, oS (gPush (.int 0)), oStoreI 5, tGo 1],
  [oLoadI 5, oLoadI 4, tCmp (fun x y => decide (y ≤ x)) 9 2],
  [oLoadR 3, oLoadI 5, oIald tb, oStoreI 6, oLoadI 6, oStoreI 7, oS (gPush (.int 0)), oStoreI 8, tGo 3],
  [oLoadI 8, oLoadI 1, tCmp (fun x y => decide (y ≤ x)) 5 4],
  [oLoadR 0, oLoadI 7, oCallV cl 135 1 11 20, oStoreI 7, oIinc 8 1, tGo 3],
  [oLoadI 2, oLoadI 7, oLoadR 0, oGet 20 11 2, oS (gPush (.int 2)), oAald 20, oS (gPush (.int 0)), oIald tb, tCmp (fun x y => !decide (x = y)) 7 6],
  [oS (gPush (.int 1)), tGo 8],
  [oS (gPush (.int 0)), tGo 8],
  [oBin (fun x y => x + y), oStoreI 2, oIinc 5 1, tGo 1],
  [oLoadI 2, tIret]]
set_option maxRecDepth 100000 in
set_option maxHeartbeats 4000000 in
theorem mok_X12_sortedNow {E : kE} {σ : List Nat} {l : Launch} {tb : List (List Int32)} (hE : kcl E = kCl) (hn : kn E = 20) (htb : ktb E = tb) : kMOK E (kXX (kb E) σ) σ kZs l kY kWS yX12_sortedNow (kws yX12_sortedNow cX12_sortedNow 9 (some .int)) cX12_sortedNow 9 (some .int) (fun cl => bl_X12_sortedNow tb cl) := by
  intro d cl hS p e R s m args below meth c α0 nc0 ns0 res C hf hlo hr hnm hout
  have hXX : kXX (kb E) σ s := C.2.2.2.2.2.2.1.2.2.2.2
  refine ⟨fun b => [0, 16, 23, 36, 42, 56, 70, 74, 75, 83].getD b 0, rfl, kAllB_get (bl := bl_X12_sortedNow tb cl) ⟨?_, ?_, ?_, ?_, ?_, ?_, ?_, ?_, ?_, ?_, trivial⟩⟩
  · exact (ch_cons (pc := 0) (pc' := 1) (ok_iconst C dX12_sortedNow_0 (by decide)) <| ch_cons (pc := 1) (pc' := 2) (ok_istoren C dX12_sortedNow_1 rfl (by decide)) <| ch_cons (pc := 2) (pc' := 3) (ok_aloadRn C dX12_sortedNow_2 rfl) <| ch_cons (pc := 3) (pc' := 6) (ok_get C hn (fun w h => kG_in (inG_X12 w h)) (kcl_at hE 11 rfl) (by decide) (kG_in gw_489) (fun _ h => h) dX12_sortedNow_3) <| ch_cons (pc := 6) (pc' := 7) (ok_iconst C dX12_sortedNow_6 (by decide)) <| ch_cons (pc := 7) (pc' := 8) (ok_aaload C hn dX12_sortedNow_7) <| ch_cons (pc := 8) (pc' := 9) (ok_astoreRn C dX12_sortedNow_8 rfl (by decide)) <| ch_cons (pc := 9) (pc' := 10) (ok_aloadRn C dX12_sortedNow_9 rfl) <| ch_cons (pc := 10) (pc' := 11) (ok_alen C htb dX12_sortedNow_10) <| ch_cons (pc := 11) (pc' := 13) (ok_istore C dX12_sortedNow_11 (by decide)) <| ch_cons (pc := 13) (pc' := 14) (ok_iconst C dX12_sortedNow_13 (by decide)) <| ch_cons (pc := 14) (pc' := 16) (ok_istore C dX12_sortedNow_14 (by decide)) <| ch_last (pc := 16) (ok_fall rfl))
  · exact (ch_cons (pc := 16) (pc' := 18) (ok_iload C dX12_sortedNow_16) <| ch_cons (pc := 18) (pc' := 20) (ok_iload C dX12_sortedNow_18) <| ch_last (pc := 20) (ok_icmp_ge (tgt := 83) C dX12_sortedNow_20 (by decide) rfl rfl))
  · exact (ch_cons (pc := 23) (pc' := 24) (ok_aloadRn C dX12_sortedNow_23 rfl) <| ch_cons (pc := 24) (pc' := 26) (ok_iload C dX12_sortedNow_24) <| ch_cons (pc := 26) (pc' := 27) (ok_iaload C htb dX12_sortedNow_26) <| ch_cons (pc := 27) (pc' := 29) (ok_istore C dX12_sortedNow_27 (by decide)) <| ch_cons (pc := 29) (pc' := 31) (ok_iload C dX12_sortedNow_29) <| ch_cons (pc := 31) (pc' := 33) (ok_istore C dX12_sortedNow_31 (by decide)) <| ch_cons (pc := 33) (pc' := 34) (ok_iconst C dX12_sortedNow_33 (by decide)) <| ch_cons (pc := 34) (pc' := 36) (ok_istore C dX12_sortedNow_34 (by decide)) <| ch_last (pc := 36) (ok_fall rfl))
  · exact (ch_cons (pc := 36) (pc' := 38) (ok_iload C dX12_sortedNow_36) <| ch_cons (pc := 38) (pc' := 39) (ok_iloadn C dX12_sortedNow_38 rfl) <| ch_last (pc := 39) (ok_icmp_ge (tgt := 56) C dX12_sortedNow_39 (by decide) rfl rfl))
  · exact (ch_cons (pc := 42) (pc' := 43) (ok_aloadRn C dX12_sortedNow_42 rfl) <| ch_cons (pc := 43) (pc' := 45) (ok_iload C dX12_sortedNow_43) <| ch_cons (pc := 45) (pc' := 48) (ok_callV (d := d) (maxL := 5) C hn hout hf hlo (sn_135 hS) rfl (kcl_at hE 11 rfl) (kG_v gw_632 gw_633 gw_634 gw_635 gw_506) (by decide) (by decide +kernel) dX12_sortedNow_45) <| ch_cons (pc := 48) (pc' := 50) (ok_istore C dX12_sortedNow_48 (by decide)) <| ch_cons (pc := 50) (pc' := 53) (ok_iinc C dX12_sortedNow_50 (by decide) (by decide)) <| ch_last (pc := 53) (ok_goto (tgt := 36) C dX12_sortedNow_53 (by decide) rfl))
  · exact (ch_cons (pc := 56) (pc' := 57) (ok_iloadn C dX12_sortedNow_56 rfl) <| ch_cons (pc := 57) (pc' := 59) (ok_iload C dX12_sortedNow_57) <| ch_cons (pc := 59) (pc' := 60) (ok_aloadRn C dX12_sortedNow_59 rfl) <| ch_cons (pc := 60) (pc' := 63) (ok_get C hn (fun w h => kG_in (inG_X12 w h)) (kcl_at hE 11 rfl) (by decide) (kG_in gw_489) (fun _ h => h) dX12_sortedNow_60) <| ch_cons (pc := 63) (pc' := 64) (ok_iconst C dX12_sortedNow_63 (by decide)) <| ch_cons (pc := 64) (pc' := 65) (ok_aaload C hn dX12_sortedNow_64) <| ch_cons (pc := 65) (pc' := 66) (ok_iconst C dX12_sortedNow_65 (by decide)) <| ch_cons (pc := 66) (pc' := 67) (ok_iaload C htb dX12_sortedNow_66) <| ch_last (pc := 67) (ok_icmp_ne (tgt := 74) C dX12_sortedNow_67 (by decide) rfl rfl))
  · exact (ch_cons (pc := 70) (pc' := 71) (ok_iconst C dX12_sortedNow_70 (by decide)) <| ch_last (pc := 71) (ok_goto (tgt := 75) C dX12_sortedNow_71 (by decide) rfl))
  · exact (ch_cons (pc := 74) (pc' := 75) (ok_iconst C dX12_sortedNow_74 (by decide)) <| ch_last (pc := 75) (ok_fall rfl))
  · exact (ch_cons (pc := 75) (pc' := 76) (ok_iadd C dX12_sortedNow_75) <| ch_cons (pc := 76) (pc' := 77) (ok_istoren C dX12_sortedNow_76 rfl (by decide)) <| ch_cons (pc := 77) (pc' := 80) (ok_iinc C dX12_sortedNow_77 (by decide) (by decide)) <| ch_last (pc := 80) (ok_goto (tgt := 16) C dX12_sortedNow_80 (by decide) rfl))
  · exact (ch_cons (pc := 83) (pc' := 84) (ok_iloadn C dX12_sortedNow_83 rfl) <| ch_last (pc := 84) (ok_ireturn C hr dX12_sortedNow_84))
/-- BijectoryModel.sorted(I)I -/
def bl_X12_sorted (tb : List (List Int32)) (cl : kCall) : List (List kOp) := [
  [oLoadR 0, oLoadI 1, oS (gPush (.int 0)), oS (gPush (.int 6)), oCall cl 120 3, tIf (fun x => !decide (x = 0)) 2 1],
  [oS (gPush (.int 1)), tGo 3],
  [oS (gPush (.int 0)), tGo 3],
  [oS (gPush (.int 1)), oCallV cl 124 2 11 20, tIf (fun x => decide (x = 0)) 5 4],
  [oS (gPush (.int 0)), tGo 6],
  [oLoadR 0, oLoadI 1, oCallV cl 164 1 11 20, tGo 6],
  [tIret]]
set_option maxRecDepth 100000 in
set_option maxHeartbeats 4000000 in
theorem mok_X12_sorted {E : kE} {σ : List Nat} {l : Launch} {tb : List (List Int32)} (hE : kcl E = kCl) (hn : kn E = 20) (htb : ktb E = tb) : kMOK E (kXX (kb E) σ) σ kZs l kY kWS yX12_sorted (kws yX12_sorted cX12_sorted 2 (some .int)) cX12_sorted 2 (some .int) (fun cl => bl_X12_sorted tb cl) := by
  intro d cl hS p e R s m args below meth c α0 nc0 ns0 res C hf hlo hr hnm hout
  have hXX : kXX (kb E) σ s := C.2.2.2.2.2.2.1.2.2.2.2
  refine ⟨fun b => [0, 11, 15, 16, 23, 27, 32].getD b 0, rfl, kAllB_get (bl := bl_X12_sorted tb cl) ⟨?_, ?_, ?_, ?_, ?_, ?_, ?_, trivial⟩⟩
  · exact (ch_cons (pc := 0) (pc' := 1) (ok_aloadRn C dX12_sorted_0 rfl) <| ch_cons (pc := 1) (pc' := 2) (ok_iloadn C dX12_sorted_1 rfl) <| ch_cons (pc := 2) (pc' := 3) (ok_iconst C dX12_sorted_2 (by decide)) <| ch_cons (pc := 3) (pc' := 5) (ok_bipush C dX12_sorted_3 (by decide)) <| ch_cons (pc := 5) (pc' := 8) (ok_callS (d := d) C hout hf hlo (sn_120 hS) rfl (kG_s gw_557 gw_558 gw_559 gw_506) (by decide) (by decide +kernel) dX12_sorted_5) <| ch_last (pc := 8) (ok_if_ne (tgt := 15) C dX12_sorted_8 (by decide) rfl rfl))
  · exact (ch_cons (pc := 11) (pc' := 12) (ok_iconst C dX12_sorted_11 (by decide)) <| ch_last (pc := 12) (ok_goto (tgt := 16) C dX12_sorted_12 (by decide) rfl))
  · exact (ch_cons (pc := 15) (pc' := 16) (ok_iconst C dX12_sorted_15 (by decide)) <| ch_last (pc := 16) (ok_fall rfl))
  · exact (ch_cons (pc := 16) (pc' := 17) (ok_iconst C dX12_sorted_16 (by decide)) <| ch_cons (pc := 17) (pc' := 20) (ok_callV (d := d) (maxL := 3) C hn hout hf hlo (sn_124 hS) rfl (kcl_at hE 11 rfl) (kG_v gw_560 gw_561 gw_562 gw_563 gw_506) (by decide) (by decide +kernel) dX12_sorted_17) <| ch_last (pc := 20) (ok_if_eq (tgt := 27) C dX12_sorted_20 (by decide) rfl rfl))
  · exact (ch_cons (pc := 23) (pc' := 24) (ok_iconst C dX12_sorted_23 (by decide)) <| ch_last (pc := 24) (ok_goto (tgt := 32) C dX12_sorted_24 (by decide) rfl))
  · exact (ch_cons (pc := 27) (pc' := 28) (ok_aloadRn C dX12_sorted_27 rfl) <| ch_cons (pc := 28) (pc' := 29) (ok_iloadn C dX12_sorted_28 rfl) <| ch_cons (pc := 29) (pc' := 32) (ok_callV (d := d) (maxL := 9) C hn hout hf hlo (sn_164 hS) rfl (kcl_at hE 11 rfl) (kG_v gw_636 gw_637 gw_638 gw_639 gw_506) (by decide) (by decide +kernel) dX12_sorted_29) <| ch_last (pc := 32) (ok_fall rfl))
  · exact (ch_last (pc := 32) (ok_ireturn C hr dX12_sorted_32))
/-- BijectoryModel.ofMap(II)I -/
def bl_X12_ofMap (tb : List (List Int32)) (cl : kCall) : List (List kOp) := [
  [oLoadR 0, oLoadR 0, oLoadI 1, oCallV cl 144 1 11 20, oS (gPush (.int 1)), oCallV cl 124 2 11 20, tIf (fun x => !decide (x = 0)) 5 1],
  [oLoadR 0, oLoadI 2, oS (gPush (.int 0)), oS (gPush (.int 7)), oCall cl 120 3, tIf (fun x => !decide (x = 0)) 3 2],
  [oS (gPush (.int 1)), tGo 4],
  [oS (gPush (.int 0)), tGo 4],
  [oS (gPush (.int 2)), oCallV cl 123 2 11 20, tIf (fun x => decide (x = 0)) 6 5],
  [oS (gPush (.int 0)), tGo 7],
  [oLoadR 0, oLoadI 1, oLoadI 2, oLoadR 0, oLoadI 1, oStuck],
  [tIret]]
set_option maxRecDepth 100000 in
set_option maxHeartbeats 4000000 in
theorem mok_X12_ofMap {E : kE} {σ : List Nat} {l : Launch} {tb : List (List Int32)} (hE : kcl E = kCl) (hn : kn E = 20) (htb : ktb E = tb) : kMOK E (kXX (kb E) σ) σ kZs l kY kWS yX12_ofMap (kws yX12_ofMap cX12_ofMap 3 (some .int)) cX12_ofMap 3 (some .int) (fun cl => bl_X12_ofMap tb cl) := by
  intro d cl hS p e R s m args below meth c α0 nc0 ns0 res C hf hlo hr hnm hout
  have hXX : kXX (kb E) σ s := C.2.2.2.2.2.2.1.2.2.2.2
  refine ⟨fun b => [0, 13, 24, 28, 29, 36, 40, 51].getD b 0, rfl, kAllB_get (bl := bl_X12_ofMap tb cl) ⟨?_, ?_, ?_, ?_, ?_, ?_, ?_, ?_, trivial⟩⟩
  · exact (ch_cons (pc := 0) (pc' := 1) (ok_aloadRn C dX12_ofMap_0 rfl) <| ch_cons (pc := 1) (pc' := 2) (ok_aloadRn C dX12_ofMap_1 rfl) <| ch_cons (pc := 2) (pc' := 3) (ok_iloadn C dX12_ofMap_2 rfl) <| ch_cons (pc := 3) (pc' := 6) (ok_callV (d := d) (maxL := 2) C hn hout hf hlo (sn_144 hS) rfl (kcl_at hE 11 rfl) (kG_v gw_579 gw_580 gw_581 gw_582 gw_506) (by decide) (by decide +kernel) dX12_ofMap_3) <| ch_cons (pc := 6) (pc' := 7) (ok_iconst C dX12_ofMap_6 (by decide)) <| ch_cons (pc := 7) (pc' := 10) (ok_callV (d := d) (maxL := 3) C hn hout hf hlo (sn_124 hS) rfl (kcl_at hE 11 rfl) (kG_v gw_560 gw_561 gw_562 gw_563 gw_506) (by decide) (by decide +kernel) dX12_ofMap_7) <| ch_last (pc := 10) (ok_if_ne (tgt := 36) C dX12_ofMap_10 (by decide) rfl rfl))
  · exact (ch_cons (pc := 13) (pc' := 14) (ok_aloadRn C dX12_ofMap_13 rfl) <| ch_cons (pc := 14) (pc' := 15) (ok_iloadn C dX12_ofMap_14 rfl) <| ch_cons (pc := 15) (pc' := 16) (ok_iconst C dX12_ofMap_15 (by decide)) <| ch_cons (pc := 16) (pc' := 18) (ok_bipush C dX12_ofMap_16 (by decide)) <| ch_cons (pc := 18) (pc' := 21) (ok_callS (d := d) C hout hf hlo (sn_120 hS) rfl (kG_s gw_557 gw_558 gw_559 gw_506) (by decide) (by decide +kernel) dX12_ofMap_18) <| ch_last (pc := 21) (ok_if_ne (tgt := 28) C dX12_ofMap_21 (by decide) rfl rfl))
  · exact (ch_cons (pc := 24) (pc' := 25) (ok_iconst C dX12_ofMap_24 (by decide)) <| ch_last (pc := 25) (ok_goto (tgt := 29) C dX12_ofMap_25 (by decide) rfl))
  · exact (ch_cons (pc := 28) (pc' := 29) (ok_iconst C dX12_ofMap_28 (by decide)) <| ch_last (pc := 29) (ok_fall rfl))
  · exact (ch_cons (pc := 29) (pc' := 30) (ok_iconst C dX12_ofMap_29 (by decide)) <| ch_cons (pc := 30) (pc' := 33) (ok_callV (d := d) (maxL := 3) C hn hout hf hlo (sn_123 hS) rfl (kcl_at hE 11 rfl) (kG_v gw_508 gw_509 gw_510 gw_511 gw_506) (by decide) (by decide +kernel) dX12_ofMap_30) <| ch_last (pc := 33) (ok_if_eq (tgt := 40) C dX12_ofMap_33 (by decide) rfl rfl))
  · exact (ch_cons (pc := 36) (pc' := 37) (ok_iconst C dX12_ofMap_36 (by decide)) <| ch_last (pc := 37) (ok_goto (tgt := 51) C dX12_ofMap_37 (by decide) rfl))
  · exact (ch_cons (pc := 40) (pc' := 41) (ok_aloadRn C dX12_ofMap_40 rfl) <| ch_cons (pc := 41) (pc' := 42) (ok_iloadn C dX12_ofMap_41 rfl) <| ch_cons (pc := 42) (pc' := 43) (ok_iloadn C dX12_ofMap_42 rfl) <| ch_cons (pc := 43) (pc' := 44) (ok_aloadRn C dX12_ofMap_43 rfl) <| ch_cons (pc := 44) (pc' := 45) (ok_iloadn C dX12_ofMap_44 rfl) <| ch_last (pc := 45) (ok_stuck))
  · exact (ch_last (pc := 51) (ok_ireturn C hr dX12_ofMap_51))
/-- BijectoryModel.image(II)I -/
def bl_X12_image (tb : List (List Int32)) (cl : kCall) : List (List kOp) := [
  [oLoadR 0, oLoadR 0, oLoadI 1, oCallV cl 144 1 11 20, oS (gPush (.int 1)), oCallV cl 124 2 11 20, tIf (fun x => !decide (x = 0)) 2 1],
  [oLoadR 0, oLoadR 0, oLoadR 0, oLoadI 1, oStuck],
  [oS (gPush (.int 0)), tIret],
  [oLoadR 0, oLoadR 0, oLoadI 1, oStuck]]
set_option maxRecDepth 100000 in
set_option maxHeartbeats 4000000 in
theorem mok_X12_image {E : kE} {σ : List Nat} {l : Launch} {tb : List (List Int32)} (hE : kcl E = kCl) (hn : kn E = 20) (htb : ktb E = tb) : kMOK E (kXX (kb E) σ) σ kZs l kY kWS yX12_image (kws yX12_image cX12_image 3 (some .int)) cX12_image 3 (some .int) (fun cl => bl_X12_image tb cl) := by
  intro d cl hS p e R s m args below meth c α0 nc0 ns0 res C hf hlo hr hnm hout
  have hXX : kXX (kb E) σ s := C.2.2.2.2.2.2.1.2.2.2.2
  refine ⟨fun b => [0, 13, 31, 33].getD b 0, rfl, kAllB_get (bl := bl_X12_image tb cl) ⟨?_, ?_, ?_, ?_, trivial⟩⟩
  · exact (ch_cons (pc := 0) (pc' := 1) (ok_aloadRn C dX12_image_0 rfl) <| ch_cons (pc := 1) (pc' := 2) (ok_aloadRn C dX12_image_1 rfl) <| ch_cons (pc := 2) (pc' := 3) (ok_iloadn C dX12_image_2 rfl) <| ch_cons (pc := 3) (pc' := 6) (ok_callV (d := d) (maxL := 2) C hn hout hf hlo (sn_144 hS) rfl (kcl_at hE 11 rfl) (kG_v gw_579 gw_580 gw_581 gw_582 gw_506) (by decide) (by decide +kernel) dX12_image_3) <| ch_cons (pc := 6) (pc' := 7) (ok_iconst C dX12_image_6 (by decide)) <| ch_cons (pc := 7) (pc' := 10) (ok_callV (d := d) (maxL := 3) C hn hout hf hlo (sn_124 hS) rfl (kcl_at hE 11 rfl) (kG_v gw_560 gw_561 gw_562 gw_563 gw_506) (by decide) (by decide +kernel) dX12_image_7) <| ch_last (pc := 10) (ok_if_ne (tgt := 31) C dX12_image_10 (by decide) rfl rfl))
  · exact (ch_cons (pc := 13) (pc' := 14) (ok_aloadRn C dX12_image_13 rfl) <| ch_cons (pc := 14) (pc' := 15) (ok_aloadRn C dX12_image_14 rfl) <| ch_cons (pc := 15) (pc' := 16) (ok_aloadRn C dX12_image_15 rfl) <| ch_cons (pc := 16) (pc' := 17) (ok_iloadn C dX12_image_16 rfl) <| ch_last (pc := 17) (ok_stuck))
  · exact (ch_cons (pc := 31) (pc' := 32) (ok_iconst C dX12_image_31 (by decide)) <| ch_last (pc := 32) (ok_ireturn C hr dX12_image_32))
  · exact (ch_cons (pc := 33) (pc' := 34) (ok_aloadRn C dX12_image_33 rfl) <| ch_cons (pc := 34) (pc' := 35) (ok_aloadRn C dX12_image_34 rfl) <| ch_cons (pc := 35) (pc' := 36) (ok_iloadn C dX12_image_35 rfl) <| ch_last (pc := 36) (ok_stuck))
