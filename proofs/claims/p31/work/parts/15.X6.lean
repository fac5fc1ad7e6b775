/-- Bijectory$Survey.<init>()V -/
def bl_X6_init (tb : List (List Int32)) (cl : kCall) : List (List kOp) := [
  [oLoadR 0, oObj, oGetS 3, oS (gPush (.int 6)), oCall cl 0 2, oS (gPush (.int 0)), oMax true, oStoreI 1, oLoadR 0, oLoadI 1, oNewa 6 100, oPut 6 3 0 (.array .int), oLoadR 0, oLoadI 1, oNewa 6 103, oPut 6 3 1 (.array .boolean), tVret]]
set_option maxRecDepth 100000 in
set_option maxHeartbeats 4000000 in
theorem mok_X6_init {E : kE} {σ : List Nat} {l : Launch} {tb : List (List Int32)} (hE : kcl E = kCl) (hn : kn E = 6) (htb : ktb E = tb) : kMOK E (kXX (kb E)) σ kZs l kY kWS yX6_init (kws yX6_init cX6_init 2 none) cX6_init 2 none (fun cl => bl_X6_init tb cl) := by
  intro d cl hS p e R s m args below meth c α0 nc0 ns0 res C hf hlo hr hnm hout
  have hXX : kXX (kb E) s := C.2.2.2.2.2.2.1.2.2.2.2
  refine ⟨fun b => [0].getD b 0, rfl, kAllB_get (bl := bl_X6_init tb cl) ⟨?_, trivial⟩⟩
  · exact (ch_cons (pc := 0) (pc' := 1) (ok_aloadRn C dX6_init_0 rfl) <| ch_cons (pc := 1) (pc' := 4) (ok_obj C (kG_in gw_193) (kG_in gw_87) (kG_in gw_88) dX6_init_1) <| ch_cons (pc := 4) (pc' := 7) (ok_getsN C zin_3 (xw_15 hXX) dX6_init_4) <| ch_cons (pc := 7) (pc' := 9) (ok_bipush C dX6_init_7 (by decide)) <| ch_cons (pc := 9) (pc' := 12) (ok_callS (d := d) C hout hf hlo (sn_0 hS) rfl (kG_s gw_39 gw_194 gw_41 gw_42) (by decide) (by decide +kernel) dX6_init_9) <| ch_cons (pc := 12) (pc' := 13) (ok_iconst C dX6_init_12 (by decide)) <| ch_cons (pc := 13) (pc' := 16) (ok_max C (kG_in gw_195) (kG_in gw_36) (kG_in gw_37) (kG_in gw_38) dX6_init_13) <| ch_cons (pc := 16) (pc' := 17) (ok_istoren C dX6_init_16 rfl (by decide)) <| ch_cons (pc := 17) (pc' := 18) (ok_aloadRn C dX6_init_17 rfl) <| ch_cons (pc := 18) (pc' := 19) (ok_iloadn C dX6_init_18 rfl) <| ch_cons (pc := 19) (pc' := 21) (ok_newa C hn (by decide) rfl rfl (by decide) (fun _ h => by cases h) (kG_in gw_92) dX6_init_19) <| ch_cons (pc := 21) (pc' := 24) (ok_put C hn (fun w h => kG_in (inG_X6 w h)) tyX6 tyX6_ok nmX6 (kcl_at hE 3 rfl) (by decide) (kG_in gw_196) (fun _ h => h) (Or.inr ⟨rfl, hnm, rfl⟩) rfl dX6_init_21) <| ch_cons (pc := 24) (pc' := 25) (ok_aloadRn C dX6_init_24 rfl) <| ch_cons (pc := 25) (pc' := 26) (ok_iloadn C dX6_init_25 rfl) <| ch_cons (pc := 26) (pc' := 28) (ok_newa C hn (by decide) rfl rfl (by decide) (fun _ h => by cases h) (kG_in gw_197) dX6_init_26) <| ch_cons (pc := 28) (pc' := 31) (ok_put C hn (fun w h => kG_in (inG_X6 w h)) tyX6 tyX6_ok nmX6 (kcl_at hE 3 rfl) (by decide) (kG_in gw_198) (fun _ h => h) (Or.inr ⟨rfl, hnm, rfl⟩) rfl dX6_init_28) <| ch_last (pc := 31) (ok_return C hr dX6_init_31))
/-- Bijectory$Survey.take(LBijectory$Chart;LBijectory$Realm;)V -/
def bl_X6_take (tb : List (List Int32)) (cl : kCall) : List (List kOp) := [
  [oLoadR 1, oGet 6 0 5, oLoadR 2, oGet 6 2 0, tCmp (fun x y => !decide (x = y)) 2 1],
  [tVret],
  [oLoadR 1, oLoadR 2, oGet 6 2 0, oPut 6 0 5 .int, oLoadR 2, oLoadR 1, oGet 6 0 0, oCallV cl 45 1 2 6, oStoreI 3, oS (gPush (.int 0)), oStoreI 4, tGo 3],
  [oLoadI 4, oLoadI 3, tCmp (fun x y => decide (y ≤ x)) 5 4],
  [oLoadR 0, oGet 6 3 0, oLoadI 4, oLoadR 2, oLoadR 1, oLoadI 4, oCallV cl 48 2 2 6, oCall cl 2 3, oIinc 4 1, tGo 3],
  [oLoadR 1, oLoadR 0, oLoadI 3, oCallV cl 58 1 3 6, oPut 6 0 6 .int, oLoadR 1, oLoadR 1, oCallV cl 55 0 0 6, tIf (fun x => decide (x = 0)) 7 6],
  [oLoadR 0, oLoadI 3, oCallV cl 59 1 3 6, tGo 8],
  [oS (gPush (.int (-1))), tGo 8],
  [oPut 6 0 7 .int, oLoadR 1, oS (gPush (.int (-1))), oPut 6 0 8 .int, oLoadR 1, oS (gPush (.long (-1))), oPut 6 0 9 .long, oLoadR 1, oCallV cl 55 0 0 6, tIf (fun x => decide (x = 0)) 11 9],
  [oLoadR 1, oGet 6 0 6, oLoadI 3, tCmp (fun x y => !decide (x = y)) 11 10],
  [oLoadR 0, oLoadR 1, oLoadI 3, oCallV cl 60 2 3 6, tGo 11],
  [tVret]]
set_option maxRecDepth 100000 in
set_option maxHeartbeats 4000000 in
theorem mok_X6_take {E : kE} {σ : List Nat} {l : Launch} {tb : List (List Int32)} (hE : kcl E = kCl) (hn : kn E = 6) (htb : ktb E = tb) : kMOK E (kXX (kb E)) σ kZs l kY kWS yX6_take (kws yX6_take cX6_take 5 none) cX6_take 5 none (fun cl => bl_X6_take tb cl) := by
  intro d cl hS p e R s m args below meth c α0 nc0 ns0 res C hf hlo hr hnm hout
  have hXX : kXX (kb E) s := C.2.2.2.2.2.2.1.2.2.2.2
  refine ⟨fun b => [0, 11, 12, 32, 38, 60, 77, 85, 86, 108, 116, 122].getD b 0, rfl, kAllB_get (bl := bl_X6_take tb cl) ⟨?_, ?_, ?_, ?_, ?_, ?_, ?_, ?_, ?_, ?_, ?_, ?_, trivial⟩⟩
  · exact (ch_cons (pc := 0) (pc' := 1) (ok_aloadRn C dX6_take_0 rfl) <| ch_cons (pc := 1) (pc' := 4) (ok_get C hn (fun w h => kG_in (inG_X0 w h)) (kcl_at hE 0 rfl) (by decide) (kG_in gw_199) (fun _ h => h) dX6_take_1) <| ch_cons (pc := 4) (pc' := 5) (ok_aloadRn C dX6_take_4 rfl) <| ch_cons (pc := 5) (pc' := 8) (ok_get C hn (fun w h => kG_in (inG_X4 w h)) (kcl_at hE 2 rfl) (by decide) (kG_in gw_200) (fun _ h => h) dX6_take_5) <| ch_last (pc := 8) (ok_icmp_ne (tgt := 12) C dX6_take_8 (by decide) rfl rfl))
  · exact (ch_last (pc := 11) (ok_return C hr dX6_take_11))
  · exact (ch_cons (pc := 12) (pc' := 13) (ok_aloadRn C dX6_take_12 rfl) <| ch_cons (pc := 13) (pc' := 14) (ok_aloadRn C dX6_take_13 rfl) <| ch_cons (pc := 14) (pc' := 17) (ok_get C hn (fun w h => kG_in (inG_X4 w h)) (kcl_at hE 2 rfl) (by decide) (kG_in gw_200) (fun _ h => h) dX6_take_14) <| ch_cons (pc := 17) (pc' := 20) (ok_put C hn (fun w h => kG_in (inG_X0 w h)) tyX0 tyX0_ok nmX0 (kcl_at hE 0 rfl) (by decide) (kG_in gw_199) (fun _ h => h) (Or.inl rfl) rfl dX6_take_17) <| ch_cons (pc := 20) (pc' := 21) (ok_aloadRn C dX6_take_20 rfl) <| ch_cons (pc := 21) (pc' := 22) (ok_aloadRn C dX6_take_21 rfl) <| ch_cons (pc := 22) (pc' := 25) (ok_get C hn (fun w h => kG_in (inG_X0 w h)) (kcl_at hE 0 rfl) (by decide) (kG_in gw_201) (fun _ h => h) dX6_take_22) <| ch_cons (pc := 25) (pc' := 28) (ok_callV (d := d) (maxL := 2) C hn hout hf hlo (sn_45 hS) rfl (kcl_at hE 2 rfl) (kG_v gw_130 gw_202 gw_132 gw_133 gw_101) (by decide) (by decide +kernel) dX6_take_25) <| ch_cons (pc := 28) (pc' := 29) (ok_istoren C dX6_take_28 rfl (by decide)) <| ch_cons (pc := 29) (pc' := 30) (ok_iconst C dX6_take_29 (by decide)) <| ch_cons (pc := 30) (pc' := 32) (ok_istore C dX6_take_30 (by decide)) <| ch_last (pc := 32) (ok_fall rfl))
  · exact (ch_cons (pc := 32) (pc' := 34) (ok_iload C dX6_take_32) <| ch_cons (pc := 34) (pc' := 35) (ok_iloadn C dX6_take_34 rfl) <| ch_last (pc := 35) (ok_icmp_ge (tgt := 60) C dX6_take_35 (by decide) rfl rfl))
  · exact (ch_cons (pc := 38) (pc' := 39) (ok_aloadRn C dX6_take_38 rfl) <| ch_cons (pc := 39) (pc' := 42) (ok_get C hn (fun w h => kG_in (inG_X6 w h)) (kcl_at hE 3 rfl) (by decide) (kG_in gw_196) (fun _ h => h) dX6_take_39) <| ch_cons (pc := 42) (pc' := 44) (ok_iload C dX6_take_42) <| ch_cons (pc := 44) (pc' := 45) (ok_aloadRn C dX6_take_44 rfl) <| ch_cons (pc := 45) (pc' := 46) (ok_aloadRn C dX6_take_45 rfl) <| ch_cons (pc := 46) (pc' := 48) (ok_iload C dX6_take_46) <| ch_cons (pc := 48) (pc' := 51) (ok_callV (d := d) (maxL := 5) C hn hout hf hlo (sn_48 hS) rfl (kcl_at hE 2 rfl) (kG_v gw_203 gw_204 gw_205 gw_206 gw_101) (by decide) (by decide +kernel) dX6_take_48) <| ch_cons (pc := 51) (pc' := 54) (ok_callS (d := d) C hout hf hlo (sn_2 hS) rfl (kG_s gw_124 gw_207 gw_126 gw_42) (by decide) (by decide +kernel) dX6_take_51) <| ch_cons (pc := 54) (pc' := 57) (ok_iinc C dX6_take_54 (by decide) (by decide)) <| ch_last (pc := 57) (ok_goto (tgt := 32) C dX6_take_57 (by decide) rfl))
  · exact (ch_cons (pc := 60) (pc' := 61) (ok_aloadRn C dX6_take_60 rfl) <| ch_cons (pc := 61) (pc' := 62) (ok_aloadRn C dX6_take_61 rfl) <| ch_cons (pc := 62) (pc' := 63) (ok_iloadn C dX6_take_62 rfl) <| ch_cons (pc := 63) (pc' := 66) (ok_callV (d := d) (maxL := 4) C hn hout hf hlo (sn_58 hS) rfl (kcl_at hE 3 rfl) (kG_v gw_208 gw_209 gw_210 gw_211 gw_212) (by decide) (by decide +kernel) dX6_take_63) <| ch_cons (pc := 66) (pc' := 69) (ok_put C hn (fun w h => kG_in (inG_X0 w h)) tyX0 tyX0_ok nmX0 (kcl_at hE 0 rfl) (by decide) (kG_in gw_213) (fun _ h => h) (Or.inl rfl) rfl dX6_take_66) <| ch_cons (pc := 69) (pc' := 70) (ok_aloadRn C dX6_take_69 rfl) <| ch_cons (pc := 70) (pc' := 71) (ok_aloadRn C dX6_take_70 rfl) <| ch_cons (pc := 71) (pc' := 74) (ok_callV (d := d) (maxL := 1) C hn hout hf hlo (sn_55 hS) rfl (kcl_at hE 0 rfl) (kG_v gw_214 gw_215 gw_216 gw_217 gw_184) (by decide) (by decide +kernel) dX6_take_71) <| ch_last (pc := 74) (ok_if_eq (tgt := 85) C dX6_take_74 (by decide) rfl rfl))
  · exact (ch_cons (pc := 77) (pc' := 78) (ok_aloadRn C dX6_take_77 rfl) <| ch_cons (pc := 78) (pc' := 79) (ok_iloadn C dX6_take_78 rfl) <| ch_cons (pc := 79) (pc' := 82) (ok_callV (d := d) (maxL := 4) C hn hout hf hlo (sn_59 hS) rfl (kcl_at hE 3 rfl) (kG_v gw_218 gw_219 gw_220 gw_221 gw_212) (by decide) (by decide +kernel) dX6_take_79) <| ch_last (pc := 82) (ok_goto (tgt := 86) C dX6_take_82 (by decide) rfl))
  · exact (ch_cons (pc := 85) (pc' := 86) (ok_iconst C dX6_take_85 (by decide)) <| ch_last (pc := 86) (ok_fall rfl))
  · exact (ch_cons (pc := 86) (pc' := 89) (ok_put C hn (fun w h => kG_in (inG_X0 w h)) tyX0 tyX0_ok nmX0 (kcl_at hE 0 rfl) (by decide) (kG_in gw_222) (fun _ h => h) (Or.inl rfl) rfl dX6_take_86) <| ch_cons (pc := 89) (pc' := 90) (ok_aloadRn C dX6_take_89 rfl) <| ch_cons (pc := 90) (pc' := 91) (ok_iconst C dX6_take_90 (by decide)) <| ch_cons (pc := 91) (pc' := 94) (ok_put C hn (fun w h => kG_in (inG_X0 w h)) tyX0 tyX0_ok nmX0 (kcl_at hE 0 rfl) (by decide) (kG_in gw_223) (fun _ h => h) (Or.inl rfl) rfl dX6_take_91) <| ch_cons (pc := 94) (pc' := 95) (ok_aloadRn C dX6_take_94 rfl) <| ch_cons (pc := 95) (pc' := 98) (ok_ldc2 C dX6_take_95 (kG_in gw_224)) <| ch_cons (pc := 98) (pc' := 101) (ok_put C hn (fun w h => kG_in (inG_X0 w h)) tyX0 tyX0_ok nmX0 (kcl_at hE 0 rfl) (by decide) (kG_in gw_225) (fun _ h => h) (Or.inl rfl) rfl dX6_take_98) <| ch_cons (pc := 101) (pc' := 102) (ok_aloadRn C dX6_take_101 rfl) <| ch_cons (pc := 102) (pc' := 105) (ok_callV (d := d) (maxL := 1) C hn hout hf hlo (sn_55 hS) rfl (kcl_at hE 0 rfl) (kG_v gw_214 gw_215 gw_216 gw_217 gw_184) (by decide) (by decide +kernel) dX6_take_102) <| ch_last (pc := 105) (ok_if_eq (tgt := 122) C dX6_take_105 (by decide) rfl rfl))
  · exact (ch_cons (pc := 108) (pc' := 109) (ok_aloadRn C dX6_take_108 rfl) <| ch_cons (pc := 109) (pc' := 112) (ok_get C hn (fun w h => kG_in (inG_X0 w h)) (kcl_at hE 0 rfl) (by decide) (kG_in gw_213) (fun _ h => h) dX6_take_109) <| ch_cons (pc := 112) (pc' := 113) (ok_iloadn C dX6_take_112 rfl) <| ch_last (pc := 113) (ok_icmp_ne (tgt := 122) C dX6_take_113 (by decide) rfl rfl))
  · exact (ch_cons (pc := 116) (pc' := 117) (ok_aloadRn C dX6_take_116 rfl) <| ch_cons (pc := 117) (pc' := 118) (ok_aloadRn C dX6_take_117 rfl) <| ch_cons (pc := 118) (pc' := 119) (ok_iloadn C dX6_take_118 rfl) <| ch_cons (pc := 119) (pc' := 122) (ok_callV (d := d) (maxL := 5) C hn hout hf hlo (sn_60 hS) rfl (kcl_at hE 3 rfl) (kG_v gw_226 gw_227 gw_228 gw_229 gw_212) (by decide) (by decide +kernel) dX6_take_119) <| ch_last (pc := 122) (ok_fall rfl))
  · exact (ch_last (pc := 122) (ok_return C hr dX6_take_122))
/-- Bijectory$Survey.countDistinct(I)I -/
def bl_X6_countDistinct (tb : List (List Int32)) (cl : kCall) : List (List kOp) := [
  [oLoadR 0, oCallV cl 63 0 3 6, oS (gPush (.int 0)), oStoreI 2, oS (gPush (.int 0)), oStoreI 3, tGo 1],
  [oLoadI 3, oLoadI 1, tCmp (fun x y => decide (y ≤ x)) 5 2],
  [oLoadR 0, oLoadR 0, oGet 6 3 0, oLoadI 3, oCall cl 0 2, oCallV cl 64 1 3 6, tIf (fun x => decide (x = 0)) 4 3],
  [oIinc 2 1, tGo 4],
  [oIinc 3 1, tGo 1],
  [oLoadI 2, tIret]]
set_option maxRecDepth 100000 in
set_option maxHeartbeats 4000000 in
theorem mok_X6_countDistinct {E : kE} {σ : List Nat} {l : Launch} {tb : List (List Int32)} (hE : kcl E = kCl) (hn : kn E = 6) (htb : ktb E = tb) : kMOK E (kXX (kb E)) σ kZs l kY kWS yX6_countDistinct (kws yX6_countDistinct cX6_countDistinct 4 (some .int)) cX6_countDistinct 4 (some .int) (fun cl => bl_X6_countDistinct tb cl) := by
  intro d cl hS p e R s m args below meth c α0 nc0 ns0 res C hf hlo hr hnm hout
  have hXX : kXX (kb E) s := C.2.2.2.2.2.2.1.2.2.2.2
  refine ⟨fun b => [0, 8, 13, 28, 31, 37].getD b 0, rfl, kAllB_get (bl := bl_X6_countDistinct tb cl) ⟨?_, ?_, ?_, ?_, ?_, ?_, trivial⟩⟩
  · exact (ch_cons (pc := 0) (pc' := 1) (ok_aloadRn C dX6_countDistinct_0 rfl) <| ch_cons (pc := 1) (pc' := 4) (ok_callV (d := d) (maxL := 2) C hn hout hf hlo (sn_63 hS) rfl (kcl_at hE 3 rfl) (kG_v gw_230 gw_231 gw_232 gw_233 gw_212) (by decide) (by decide +kernel) dX6_countDistinct_1) <| ch_cons (pc := 4) (pc' := 5) (ok_iconst C dX6_countDistinct_4 (by decide)) <| ch_cons (pc := 5) (pc' := 6) (ok_istoren C dX6_countDistinct_5 rfl (by decide)) <| ch_cons (pc := 6) (pc' := 7) (ok_iconst C dX6_countDistinct_6 (by decide)) <| ch_cons (pc := 7) (pc' := 8) (ok_istoren C dX6_countDistinct_7 rfl (by decide)) <| ch_last (pc := 8) (ok_fall rfl))
  · exact (ch_cons (pc := 8) (pc' := 9) (ok_iloadn C dX6_countDistinct_8 rfl) <| ch_cons (pc := 9) (pc' := 10) (ok_iloadn C dX6_countDistinct_9 rfl) <| ch_last (pc := 10) (ok_icmp_ge (tgt := 37) C dX6_countDistinct_10 (by decide) rfl rfl))
  · exact (ch_cons (pc := 13) (pc' := 14) (ok_aloadRn C dX6_countDistinct_13 rfl) <| ch_cons (pc := 14) (pc' := 15) (ok_aloadRn C dX6_countDistinct_14 rfl) <| ch_cons (pc := 15) (pc' := 18) (ok_get C hn (fun w h => kG_in (inG_X6 w h)) (kcl_at hE 3 rfl) (by decide) (kG_in gw_196) (fun _ h => h) dX6_countDistinct_15) <| ch_cons (pc := 18) (pc' := 19) (ok_iloadn C dX6_countDistinct_18 rfl) <| ch_cons (pc := 19) (pc' := 22) (ok_callS (d := d) C hout hf hlo (sn_0 hS) rfl (kG_s gw_39 gw_194 gw_41 gw_42) (by decide) (by decide +kernel) dX6_countDistinct_19) <| ch_cons (pc := 22) (pc' := 25) (ok_callV (d := d) (maxL := 2) C hn hout hf hlo (sn_64 hS) rfl (kcl_at hE 3 rfl) (kG_v gw_234 gw_235 gw_236 gw_237 gw_212) (by decide) (by decide +kernel) dX6_countDistinct_22) <| ch_last (pc := 25) (ok_if_eq (tgt := 31) C dX6_countDistinct_25 (by decide) rfl rfl))
  · exact (ch_cons (pc := 28) (pc' := 31) (ok_iinc C dX6_countDistinct_28 (by decide) (by decide)) <| ch_last (pc := 31) (ok_fall rfl))
  · exact (ch_cons (pc := 31) (pc' := 34) (ok_iinc C dX6_countDistinct_31 (by decide) (by decide)) <| ch_last (pc := 34) (ok_goto (tgt := 8) C dX6_countDistinct_34 (by decide) rfl))
  · exact (ch_cons (pc := 37) (pc' := 38) (ok_iloadn C dX6_countDistinct_37 rfl) <| ch_last (pc := 38) (ok_ireturn C hr dX6_countDistinct_38))
/-- Bijectory$Survey.countUnmoved(I)I -/
def bl_X6_countUnmoved (tb : List (List Int32)) (cl : kCall) : List (List kOp) := [
  [oS (gPush (.int 0)), oStoreI 2, oS (gPush (.int 0)), oStoreI 3, tGo 1],
  [oLoadI 3, oLoadI 1, tCmp (fun x y => decide (y ≤ x)) 5 2],
  [oLoadR 0, oGet 6 3 0, oLoadI 3, oCall cl 0 2, oLoadI 3, tCmp (fun x y => !decide (x = y)) 4 3],
  [oIinc 2 1, tGo 4],
  [oIinc 3 1, tGo 1],
  [oLoadI 2, tIret]]
set_option maxRecDepth 100000 in
set_option maxHeartbeats 4000000 in
theorem mok_X6_countUnmoved {E : kE} {σ : List Nat} {l : Launch} {tb : List (List Int32)} (hE : kcl E = kCl) (hn : kn E = 6) (htb : ktb E = tb) : kMOK E (kXX (kb E)) σ kZs l kY kWS yX6_countUnmoved (kws yX6_countUnmoved cX6_countUnmoved 4 (some .int)) cX6_countUnmoved 4 (some .int) (fun cl => bl_X6_countUnmoved tb cl) := by
  intro d cl hS p e R s m args below meth c α0 nc0 ns0 res C hf hlo hr hnm hout
  have hXX : kXX (kb E) s := C.2.2.2.2.2.2.1.2.2.2.2
  refine ⟨fun b => [0, 4, 9, 21, 24, 30].getD b 0, rfl, kAllB_get (bl := bl_X6_countUnmoved tb cl) ⟨?_, ?_, ?_, ?_, ?_, ?_, trivial⟩⟩
  · exact (ch_cons (pc := 0) (pc' := 1) (ok_iconst C dX6_countUnmoved_0 (by decide)) <| ch_cons (pc := 1) (pc' := 2) (ok_istoren C dX6_countUnmoved_1 rfl (by decide)) <| ch_cons (pc := 2) (pc' := 3) (ok_iconst C dX6_countUnmoved_2 (by decide)) <| ch_cons (pc := 3) (pc' := 4) (ok_istoren C dX6_countUnmoved_3 rfl (by decide)) <| ch_last (pc := 4) (ok_fall rfl))
  · exact (ch_cons (pc := 4) (pc' := 5) (ok_iloadn C dX6_countUnmoved_4 rfl) <| ch_cons (pc := 5) (pc' := 6) (ok_iloadn C dX6_countUnmoved_5 rfl) <| ch_last (pc := 6) (ok_icmp_ge (tgt := 30) C dX6_countUnmoved_6 (by decide) rfl rfl))
  · exact (ch_cons (pc := 9) (pc' := 10) (ok_aloadRn C dX6_countUnmoved_9 rfl) <| ch_cons (pc := 10) (pc' := 13) (ok_get C hn (fun w h => kG_in (inG_X6 w h)) (kcl_at hE 3 rfl) (by decide) (kG_in gw_196) (fun _ h => h) dX6_countUnmoved_10) <| ch_cons (pc := 13) (pc' := 14) (ok_iloadn C dX6_countUnmoved_13 rfl) <| ch_cons (pc := 14) (pc' := 17) (ok_callS (d := d) C hout hf hlo (sn_0 hS) rfl (kG_s gw_39 gw_194 gw_41 gw_42) (by decide) (by decide +kernel) dX6_countUnmoved_14) <| ch_cons (pc := 17) (pc' := 18) (ok_iloadn C dX6_countUnmoved_17 rfl) <| ch_last (pc := 18) (ok_icmp_ne (tgt := 24) C dX6_countUnmoved_18 (by decide) rfl rfl))
  · exact (ch_cons (pc := 21) (pc' := 24) (ok_iinc C dX6_countUnmoved_21 (by decide) (by decide)) <| ch_last (pc := 24) (ok_fall rfl))
  · exact (ch_cons (pc := 24) (pc' := 27) (ok_iinc C dX6_countUnmoved_24 (by decide) (by decide)) <| ch_last (pc := 27) (ok_goto (tgt := 4) C dX6_countUnmoved_27 (by decide) rfl))
  · exact (ch_cons (pc := 30) (pc' := 31) (ok_iloadn C dX6_countUnmoved_30 rfl) <| ch_last (pc := 31) (ok_ireturn C hr dX6_countUnmoved_31))
/-- Bijectory$Survey.followRounds(LBijectory$Chart;I)V -/
def bl_X6_followRounds (tb : List (List Int32)) (cl : kCall) : List (List kOp) := [
  [oLoadR 0, oCallV cl 63 0 3 6, oLoadR 1, oS (gPush (.int 0)), oPut 6 0 8 .int, oLoadR 1, oS (gPush (.long 1)), oPut 6 0 9 .long, oS (gPush (.int 0)), oStoreI 3, tGo 1],
  [oLoadI 3, oLoadI 2, tCmp (fun x y => decide (y ≤ x)) 5 2],
  [oLoadR 0, oLoadI 3, oLoadI 2, oCallV cl 61 2 3 6, oStoreI 4, oLoadI 4, tIf (fun x => decide (x ≤ 0)) 4 3],
  [oLoadR 1, oS gDup, oGet 6 0 8, oS (gPush (.int 1)), oBin (fun x y => x + y), oPut 6 0 8 .int, oLoadR 1, oLoadR 1, oGet 6 0 9, oLoadI 4, oCall cl 62 2, oPut 6 0 9 .long, tGo 4],
  [oIinc 3 1, tGo 1],
  [tVret]]
set_option maxRecDepth 100000 in
set_option maxHeartbeats 4000000 in
theorem mok_X6_followRounds {E : kE} {σ : List Nat} {l : Launch} {tb : List (List Int32)} (hE : kcl E = kCl) (hn : kn E = 6) (htb : ktb E = tb) : kMOK E (kXX (kb E)) σ kZs l kY kWS yX6_followRounds (kws yX6_followRounds cX6_followRounds 5 none) cX6_followRounds 5 none (fun cl => bl_X6_followRounds tb cl) := by
  intro d cl hS p e R s m args below meth c α0 nc0 ns0 res C hf hlo hr hnm hout
  have hXX : kXX (kb E) s := C.2.2.2.2.2.2.1.2.2.2.2
  refine ⟨fun b => [0, 16, 21, 34, 57, 63].getD b 0, rfl, kAllB_get (bl := bl_X6_followRounds tb cl) ⟨?_, ?_, ?_, ?_, ?_, ?_, trivial⟩⟩
  · exact (ch_cons (pc := 0) (pc' := 1) (ok_aloadRn C dX6_followRounds_0 rfl) <| ch_cons (pc := 1) (pc' := 4) (ok_callV (d := d) (maxL := 2) C hn hout hf hlo (sn_63 hS) rfl (kcl_at hE 3 rfl) (kG_v gw_230 gw_231 gw_232 gw_233 gw_212) (by decide) (by decide +kernel) dX6_followRounds_1) <| ch_cons (pc := 4) (pc' := 5) (ok_aloadRn C dX6_followRounds_4 rfl) <| ch_cons (pc := 5) (pc' := 6) (ok_iconst C dX6_followRounds_5 (by decide)) <| ch_cons (pc := 6) (pc' := 9) (ok_put C hn (fun w h => kG_in (inG_X0 w h)) tyX0 tyX0_ok nmX0 (kcl_at hE 0 rfl) (by decide) (kG_in gw_223) (fun _ h => h) (Or.inl rfl) rfl dX6_followRounds_6) <| ch_cons (pc := 9) (pc' := 10) (ok_aloadRn C dX6_followRounds_9 rfl) <| ch_cons (pc := 10) (pc' := 11) (ok_lconst C dX6_followRounds_10 (by decide)) <| ch_cons (pc := 11) (pc' := 14) (ok_put C hn (fun w h => kG_in (inG_X0 w h)) tyX0 tyX0_ok nmX0 (kcl_at hE 0 rfl) (by decide) (kG_in gw_225) (fun _ h => h) (Or.inl rfl) rfl dX6_followRounds_11) <| ch_cons (pc := 14) (pc' := 15) (ok_iconst C dX6_followRounds_14 (by decide)) <| ch_cons (pc := 15) (pc' := 16) (ok_istoren C dX6_followRounds_15 rfl (by decide)) <| ch_last (pc := 16) (ok_fall rfl))
  · exact (ch_cons (pc := 16) (pc' := 17) (ok_iloadn C dX6_followRounds_16 rfl) <| ch_cons (pc := 17) (pc' := 18) (ok_iloadn C dX6_followRounds_17 rfl) <| ch_last (pc := 18) (ok_icmp_ge (tgt := 63) C dX6_followRounds_18 (by decide) rfl rfl))
  · exact (ch_cons (pc := 21) (pc' := 22) (ok_aloadRn C dX6_followRounds_21 rfl) <| ch_cons (pc := 22) (pc' := 23) (ok_iloadn C dX6_followRounds_22 rfl) <| ch_cons (pc := 23) (pc' := 24) (ok_iloadn C dX6_followRounds_23 rfl) <| ch_cons (pc := 24) (pc' := 27) (ok_callV (d := d) (maxL := 5) C hn hout hf hlo (sn_61 hS) rfl (kcl_at hE 3 rfl) (kG_v gw_238 gw_239 gw_240 gw_241 gw_212) (by decide) (by decide +kernel) dX6_followRounds_24) <| ch_cons (pc := 27) (pc' := 29) (ok_istore C dX6_followRounds_27 (by decide)) <| ch_cons (pc := 29) (pc' := 31) (ok_iload C dX6_followRounds_29) <| ch_last (pc := 31) (ok_if_le (tgt := 57) C dX6_followRounds_31 (by decide) rfl rfl))
  · exact (ch_cons (pc := 34) (pc' := 35) (ok_aloadRn C dX6_followRounds_34 rfl) <| ch_cons (pc := 35) (pc' := 36) (ok_dup C dX6_followRounds_35) <| ch_cons (pc := 36) (pc' := 39) (ok_get C hn (fun w h => kG_in (inG_X0 w h)) (kcl_at hE 0 rfl) (by decide) (kG_in gw_223) (fun _ h => h) dX6_followRounds_36) <| ch_cons (pc := 39) (pc' := 40) (ok_iconst C dX6_followRounds_39 (by decide)) <| ch_cons (pc := 40) (pc' := 41) (ok_iadd C dX6_followRounds_40) <| ch_cons (pc := 41) (pc' := 44) (ok_put C hn (fun w h => kG_in (inG_X0 w h)) tyX0 tyX0_ok nmX0 (kcl_at hE 0 rfl) (by decide) (kG_in gw_223) (fun _ h => h) (Or.inl rfl) rfl dX6_followRounds_41) <| ch_cons (pc := 44) (pc' := 45) (ok_aloadRn C dX6_followRounds_44 rfl) <| ch_cons (pc := 45) (pc' := 46) (ok_aloadRn C dX6_followRounds_45 rfl) <| ch_cons (pc := 46) (pc' := 49) (ok_get C hn (fun w h => kG_in (inG_X0 w h)) (kcl_at hE 0 rfl) (by decide) (kG_in gw_225) (fun _ h => h) dX6_followRounds_46) <| ch_cons (pc := 49) (pc' := 51) (ok_iload C dX6_followRounds_49) <| ch_cons (pc := 51) (pc' := 54) (ok_callS (d := d) C hout hf hlo (sn_62 hS) rfl (kG_s gw_242 gw_243 gw_244 gw_212) (by decide) (by decide +kernel) dX6_followRounds_51) <| ch_cons (pc := 54) (pc' := 57) (ok_put C hn (fun w h => kG_in (inG_X0 w h)) tyX0 tyX0_ok nmX0 (kcl_at hE 0 rfl) (by decide) (kG_in gw_225) (fun _ h => h) (Or.inl rfl) rfl dX6_followRounds_54) <| ch_last (pc := 57) (ok_fall rfl))
  · exact (ch_cons (pc := 57) (pc' := 60) (ok_iinc C dX6_followRounds_57 (by decide) (by decide)) <| ch_last (pc := 60) (ok_goto (tgt := 16) C dX6_followRounds_60 (by decide) rfl))
  · exact (ch_last (pc := 63) (ok_return C hr dX6_followRounds_63))
/-- Bijectory$Survey.roundLength(II)I -/
def bl_X6_roundLength (tb : List (List Int32)) (cl : kCall) : List (List kOp) := [
  [oS (gPush (.int 0)), oStoreI 3, oLoadI 1, oStoreI 4, tGo 1],
  [oLoadI 3, oLoadI 2, tCmp (fun x y => decide (y ≤ x)) 4 2],
  [oLoadR 0, oLoadI 4, oCallV cl 64 1 3 6, tIf (fun x => decide (x = 0)) 4 3],
  [oIinc 3 1, oLoadR 0, oGet 6 3 0, oLoadI 4, oCall cl 0 2, oStoreI 4, tGo 1],
  [oLoadI 3, tIret]]
set_option maxRecDepth 100000 in
set_option maxHeartbeats 4000000 in
theorem mok_X6_roundLength {E : kE} {σ : List Nat} {l : Launch} {tb : List (List Int32)} (hE : kcl E = kCl) (hn : kn E = 6) (htb : ktb E = tb) : kMOK E (kXX (kb E)) σ kZs l kY kWS yX6_roundLength (kws yX6_roundLength cX6_roundLength 5 (some .int)) cX6_roundLength 5 (some .int) (fun cl => bl_X6_roundLength tb cl) := by
  intro d cl hS p e R s m args below meth c α0 nc0 ns0 res C hf hlo hr hnm hout
  have hXX : kXX (kb E) s := C.2.2.2.2.2.2.1.2.2.2.2
  refine ⟨fun b => [0, 5, 10, 19, 36].getD b 0, rfl, kAllB_get (bl := bl_X6_roundLength tb cl) ⟨?_, ?_, ?_, ?_, ?_, trivial⟩⟩
  · exact (ch_cons (pc := 0) (pc' := 1) (ok_iconst C dX6_roundLength_0 (by decide)) <| ch_cons (pc := 1) (pc' := 2) (ok_istoren C dX6_roundLength_1 rfl (by decide)) <| ch_cons (pc := 2) (pc' := 3) (ok_iloadn C dX6_roundLength_2 rfl) <| ch_cons (pc := 3) (pc' := 5) (ok_istore C dX6_roundLength_3 (by decide)) <| ch_last (pc := 5) (ok_fall rfl))
  · exact (ch_cons (pc := 5) (pc' := 6) (ok_iloadn C dX6_roundLength_5 rfl) <| ch_cons (pc := 6) (pc' := 7) (ok_iloadn C dX6_roundLength_6 rfl) <| ch_last (pc := 7) (ok_icmp_ge (tgt := 36) C dX6_roundLength_7 (by decide) rfl rfl))
  · exact (ch_cons (pc := 10) (pc' := 11) (ok_aloadRn C dX6_roundLength_10 rfl) <| ch_cons (pc := 11) (pc' := 13) (ok_iload C dX6_roundLength_11) <| ch_cons (pc := 13) (pc' := 16) (ok_callV (d := d) (maxL := 2) C hn hout hf hlo (sn_64 hS) rfl (kcl_at hE 3 rfl) (kG_v gw_234 gw_235 gw_236 gw_237 gw_212) (by decide) (by decide +kernel) dX6_roundLength_13) <| ch_last (pc := 16) (ok_if_eq (tgt := 36) C dX6_roundLength_16 (by decide) rfl rfl))
  · exact (ch_cons (pc := 19) (pc' := 22) (ok_iinc C dX6_roundLength_19 (by decide) (by decide)) <| ch_cons (pc := 22) (pc' := 23) (ok_aloadRn C dX6_roundLength_22 rfl) <| ch_cons (pc := 23) (pc' := 26) (ok_get C hn (fun w h => kG_in (inG_X6 w h)) (kcl_at hE 3 rfl) (by decide) (kG_in gw_196) (fun _ h => h) dX6_roundLength_23) <| ch_cons (pc := 26) (pc' := 28) (ok_iload C dX6_roundLength_26) <| ch_cons (pc := 28) (pc' := 31) (ok_callS (d := d) C hout hf hlo (sn_0 hS) rfl (kG_s gw_39 gw_194 gw_41 gw_42) (by decide) (by decide +kernel) dX6_roundLength_28) <| ch_cons (pc := 31) (pc' := 33) (ok_istore C dX6_roundLength_31 (by decide)) <| ch_last (pc := 33) (ok_goto (tgt := 5) C dX6_roundLength_33 (by decide) rfl))
  · exact (ch_cons (pc := 36) (pc' := 37) (ok_iloadn C dX6_roundLength_36 rfl) <| ch_last (pc := 37) (ok_ireturn C hr dX6_roundLength_37))
/-- Bijectory$Survey.commonMultiple(JI)J -/
def bl_X6_commonMultiple (tb : List (List Int32)) (cl : kCall) : List (List kOp) := [
  [oS (gPush (.int 1)), oStoreI 3, tGo 1],
  [oLoadI 3, oLoadI 2, tCmp (fun x y => decide (y < x)) 5 2],
  [oLoadL 0, oLoadI 3, oS gI2l, oBinL (fun x y => x * y), oLoadI 2, oS gI2l, oBinL0 (fun x y => x - x / y * y), oS (gPush (.long 0)), oS gLcmp, tIf (fun x => !decide (x = 0)) 4 3],
  [oLoadL 0, oLoadI 3, oS gI2l, oBinL (fun x y => x * y), tLret],
  [oIinc 3 1, tGo 1],
  [oLoadL 0, tLret]]
set_option maxRecDepth 100000 in
set_option maxHeartbeats 4000000 in
theorem mok_X6_commonMultiple {E : kE} {σ : List Nat} {l : Launch} {tb : List (List Int32)} (hE : kcl E = kCl) (hn : kn E = 6) (htb : ktb E = tb) : kMOK E (kXX (kb E)) σ kZs l kY kWS yX6_commonMultiple (kws yX6_commonMultiple cX6_commonMultiple 4 (some .long)) cX6_commonMultiple 4 (some .long) (fun cl => bl_X6_commonMultiple tb cl) := by
  intro d cl hS p e R s m args below meth c α0 nc0 ns0 res C hf hlo hr hnm hout
  have hXX : kXX (kb E) s := C.2.2.2.2.2.2.1.2.2.2.2
  refine ⟨fun b => [0, 2, 7, 19, 24, 30].getD b 0, rfl, kAllB_get (bl := bl_X6_commonMultiple tb cl) ⟨?_, ?_, ?_, ?_, ?_, ?_, trivial⟩⟩
  · exact (ch_cons (pc := 0) (pc' := 1) (ok_iconst C dX6_commonMultiple_0 (by decide)) <| ch_cons (pc := 1) (pc' := 2) (ok_istoren C dX6_commonMultiple_1 rfl (by decide)) <| ch_last (pc := 2) (ok_fall rfl))
  · exact (ch_cons (pc := 2) (pc' := 3) (ok_iloadn C dX6_commonMultiple_2 rfl) <| ch_cons (pc := 3) (pc' := 4) (ok_iloadn C dX6_commonMultiple_3 rfl) <| ch_last (pc := 4) (ok_icmp_gt (tgt := 30) C dX6_commonMultiple_4 (by decide) rfl rfl))
  · exact (ch_cons (pc := 7) (pc' := 8) (ok_lloadn C dX6_commonMultiple_7 rfl) <| ch_cons (pc := 8) (pc' := 9) (ok_iloadn C dX6_commonMultiple_8 rfl) <| ch_cons (pc := 9) (pc' := 10) (ok_i2l C dX6_commonMultiple_9) <| ch_cons (pc := 10) (pc' := 11) (ok_lmul C dX6_commonMultiple_10) <| ch_cons (pc := 11) (pc' := 12) (ok_iloadn C dX6_commonMultiple_11 rfl) <| ch_cons (pc := 12) (pc' := 13) (ok_i2l C dX6_commonMultiple_12) <| ch_cons (pc := 13) (pc' := 14) (ok_lrem C dX6_commonMultiple_13) <| ch_cons (pc := 14) (pc' := 15) (ok_lconst C dX6_commonMultiple_14 (by decide)) <| ch_cons (pc := 15) (pc' := 16) (ok_lcmp C dX6_commonMultiple_15) <| ch_last (pc := 16) (ok_if_ne (tgt := 24) C dX6_commonMultiple_16 (by decide) rfl rfl))
  · exact (ch_cons (pc := 19) (pc' := 20) (ok_lloadn C dX6_commonMultiple_19 rfl) <| ch_cons (pc := 20) (pc' := 21) (ok_iloadn C dX6_commonMultiple_20 rfl) <| ch_cons (pc := 21) (pc' := 22) (ok_i2l C dX6_commonMultiple_21) <| ch_cons (pc := 22) (pc' := 23) (ok_lmul C dX6_commonMultiple_22) <| ch_last (pc := 23) (ok_lreturn C hr dX6_commonMultiple_23))
  · exact (ch_cons (pc := 24) (pc' := 27) (ok_iinc C dX6_commonMultiple_24 (by decide) (by decide)) <| ch_last (pc := 27) (ok_goto (tgt := 2) C dX6_commonMultiple_27 (by decide) rfl))
  · exact (ch_cons (pc := 30) (pc' := 31) (ok_lloadn C dX6_commonMultiple_30 rfl) <| ch_last (pc := 31) (ok_lreturn C hr dX6_commonMultiple_31))
/-- Bijectory$Survey.forget()V -/
def bl_X6_forget (tb : List (List Int32)) (cl : kCall) : List (List kOp) := [
  [oS (gPush (.int 0)), oStoreI 1, tGo 1],
  [oLoadI 1, oLoadR 0, oGet 6 3 1, oAlen tb, tCmp (fun x y => decide (y ≤ x)) 3 2],
  [oLoadR 0, oGet 6 3 1, oLoadI 1, oS (gPush (.int 0)), oZast 6, oIinc 1 1, tGo 1],
  [tVret]]
set_option maxRecDepth 100000 in
set_option maxHeartbeats 4000000 in
theorem mok_X6_forget {E : kE} {σ : List Nat} {l : Launch} {tb : List (List Int32)} (hE : kcl E = kCl) (hn : kn E = 6) (htb : ktb E = tb) : kMOK E (kXX (kb E)) σ kZs l kY kWS yX6_forget (kws yX6_forget cX6_forget 2 none) cX6_forget 2 none (fun cl => bl_X6_forget tb cl) := by
  intro d cl hS p e R s m args below meth c α0 nc0 ns0 res C hf hlo hr hnm hout
  have hXX : kXX (kb E) s := C.2.2.2.2.2.2.1.2.2.2.2
  refine ⟨fun b => [0, 2, 11, 24].getD b 0, rfl, kAllB_get (bl := bl_X6_forget tb cl) ⟨?_, ?_, ?_, ?_, trivial⟩⟩
  · exact (ch_cons (pc := 0) (pc' := 1) (ok_iconst C dX6_forget_0 (by decide)) <| ch_cons (pc := 1) (pc' := 2) (ok_istoren C dX6_forget_1 rfl (by decide)) <| ch_last (pc := 2) (ok_fall rfl))
  · exact (ch_cons (pc := 2) (pc' := 3) (ok_iloadn C dX6_forget_2 rfl) <| ch_cons (pc := 3) (pc' := 4) (ok_aloadRn C dX6_forget_3 rfl) <| ch_cons (pc := 4) (pc' := 7) (ok_get C hn (fun w h => kG_in (inG_X6 w h)) (kcl_at hE 3 rfl) (by decide) (kG_in gw_198) (fun _ h => h) dX6_forget_4) <| ch_cons (pc := 7) (pc' := 8) (ok_alen C htb dX6_forget_7) <| ch_last (pc := 8) (ok_icmp_ge (tgt := 24) C dX6_forget_8 (by decide) rfl rfl))
  · exact (ch_cons (pc := 11) (pc' := 12) (ok_aloadRn C dX6_forget_11 rfl) <| ch_cons (pc := 12) (pc' := 15) (ok_get C hn (fun w h => kG_in (inG_X6 w h)) (kcl_at hE 3 rfl) (by decide) (kG_in gw_198) (fun _ h => h) dX6_forget_12) <| ch_cons (pc := 15) (pc' := 16) (ok_iloadn C dX6_forget_15 rfl) <| ch_cons (pc := 16) (pc' := 17) (ok_iconst C dX6_forget_16 (by decide)) <| ch_cons (pc := 17) (pc' := 18) (ok_bastore C hn dX6_forget_17) <| ch_cons (pc := 18) (pc' := 21) (ok_iinc C dX6_forget_18 (by decide) (by decide)) <| ch_last (pc := 21) (ok_goto (tgt := 2) C dX6_forget_21 (by decide) rfl))
  · exact (ch_last (pc := 24) (ok_return C hr dX6_forget_24))
/-- Bijectory$Survey.meet(I)Z -/
def bl_X6_meet (tb : List (List Int32)) (cl : kCall) : List (List kOp) := [
  [oLoadI 1, tIf (fun x => decide (x < 0)) 3 1],
  [oLoadI 1, oLoadR 0, oGet 6 3 1, oAlen tb, tCmp (fun x y => decide (y ≤ x)) 3 2],
  [oLoadR 0, oGet 6 3 1, oLoadI 1, oZald 6, tIf (fun x => decide (x = 0)) 4 3],
  [oS (gPush (.int 0)), tZret],
  [oLoadR 0, oGet 6 3 1, oLoadI 1, oS (gPush (.int 1)), oZast 6, oS (gPush (.int 1)), tZret]]
set_option maxRecDepth 100000 in
set_option maxHeartbeats 4000000 in
theorem mok_X6_meet {E : kE} {σ : List Nat} {l : Launch} {tb : List (List Int32)} (hE : kcl E = kCl) (hn : kn E = 6) (htb : ktb E = tb) : kMOK E (kXX (kb E)) σ kZs l kY kWS yX6_meet (kws yX6_meet cX6_meet 2 (some .boolean)) cX6_meet 2 (some .boolean) (fun cl => bl_X6_meet tb cl) := by
  intro d cl hS p e R s m args below meth c α0 nc0 ns0 res C hf hlo hr hnm hout
  have hXX : kXX (kb E) s := C.2.2.2.2.2.2.1.2.2.2.2
  refine ⟨fun b => [0, 4, 13, 22, 24].getD b 0, rfl, kAllB_get (bl := bl_X6_meet tb cl) ⟨?_, ?_, ?_, ?_, ?_, trivial⟩⟩
  · exact (ch_cons (pc := 0) (pc' := 1) (ok_iloadn C dX6_meet_0 rfl) <| ch_last (pc := 1) (ok_if_lt (tgt := 22) C dX6_meet_1 (by decide) rfl rfl))
  · exact (ch_cons (pc := 4) (pc' := 5) (ok_iloadn C dX6_meet_4 rfl) <| ch_cons (pc := 5) (pc' := 6) (ok_aloadRn C dX6_meet_5 rfl) <| ch_cons (pc := 6) (pc' := 9) (ok_get C hn (fun w h => kG_in (inG_X6 w h)) (kcl_at hE 3 rfl) (by decide) (kG_in gw_198) (fun _ h => h) dX6_meet_6) <| ch_cons (pc := 9) (pc' := 10) (ok_alen C htb dX6_meet_9) <| ch_last (pc := 10) (ok_icmp_ge (tgt := 22) C dX6_meet_10 (by decide) rfl rfl))
  · exact (ch_cons (pc := 13) (pc' := 14) (ok_aloadRn C dX6_meet_13 rfl) <| ch_cons (pc := 14) (pc' := 17) (ok_get C hn (fun w h => kG_in (inG_X6 w h)) (kcl_at hE 3 rfl) (by decide) (kG_in gw_198) (fun _ h => h) dX6_meet_14) <| ch_cons (pc := 17) (pc' := 18) (ok_iloadn C dX6_meet_17 rfl) <| ch_cons (pc := 18) (pc' := 19) (ok_baload C hn dX6_meet_18) <| ch_last (pc := 19) (ok_if_eq (tgt := 24) C dX6_meet_19 (by decide) rfl rfl))
  · exact (ch_cons (pc := 22) (pc' := 23) (ok_iconst C dX6_meet_22 (by decide)) <| ch_last (pc := 23) (ok_zreturn C hr dX6_meet_23))
  · exact (ch_cons (pc := 24) (pc' := 25) (ok_aloadRn C dX6_meet_24 rfl) <| ch_cons (pc := 25) (pc' := 28) (ok_get C hn (fun w h => kG_in (inG_X6 w h)) (kcl_at hE 3 rfl) (by decide) (kG_in gw_198) (fun _ h => h) dX6_meet_25) <| ch_cons (pc := 28) (pc' := 29) (ok_iloadn C dX6_meet_28 rfl) <| ch_cons (pc := 29) (pc' := 30) (ok_iconst C dX6_meet_29 (by decide)) <| ch_cons (pc := 30) (pc' := 31) (ok_bastore C hn dX6_meet_30) <| ch_cons (pc := 31) (pc' := 32) (ok_iconst C dX6_meet_31 (by decide)) <| ch_last (pc := 32) (ok_zreturn C hr dX6_meet_32))
