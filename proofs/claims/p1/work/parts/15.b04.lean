/-- Bijectory.digest()J -/
def bl_X9_digest (tb : List (List Int32)) (cl : kCall) : List (List kOp) := [
  [oLoadR 0, oS (gPush (.long (9503))), oCallV cl 104 1 8 20, oStoreL 1, oS (gPush (.int 0)), oStoreI 3, tGo 1],
  [oLoadI 3, oLoadR 0, oGet 20 8 6, tCmp (fun x y => decide (y ≤ x)) 3 2],
  [oLoadR 0, oLoadL 1, oLoadI 3, oCallV cl 105 2 8 20, oStoreL 1, oIinc 3 1, tGo 1],
  [oS (gPush (.int 0)), oStoreI 3, tGo 4],
  [oLoadI 3, oLoadR 0, oGet 20 8 7, tCmp (fun x y => decide (y ≤ x)) 9 5],
  [oS (gPush (.int 0)), oStoreI 4, tGo 6],
  [oLoadI 4, oS (gPush (.int 5)), tCmp (fun x y => decide (y ≤ x)) 8 7],
  [oLoadL 1, oS (gPush (.long (31))), oBinL (fun x y => x * y), oLoadR 0, oLoadI 3, oLoadI 4, oCallV cl 99 2 8 20, oS gI2l, oBinL (fun x y => x + y), oStoreL 1, oIinc 4 1, tGo 6],
  [oIinc 3 1, tGo 4],
  [oS (gPush (.int 0)), oStoreI 3, tGo 10],
  [oLoadI 3, oLoadR 0, oGet 20 8 8, tCmp (fun x y => decide (y ≤ x)) 15 11],
  [oS (gPush (.int 0)), oStoreI 4, tGo 12],
  [oLoadI 4, oS (gPush (.int 5)), tCmp (fun x y => decide (y ≤ x)) 14 13],
  [oLoadL 1, oS (gPush (.long (31))), oBinL (fun x y => x * y), oLoadR 0, oLoadI 3, oLoadI 4, oCallV cl 100 2 8 20, oS gI2l, oBinL (fun x y => x + y), oStoreL 1, oIinc 4 1, tGo 12],
  [oIinc 3 1, tGo 10],
  [oLoadL 1, oS (gPush (.long (31))), oBinL (fun x y => x * y), oLoadR 0, oS (gPush (.int 1)), oCallV cl 91 1 8 20, oS gI2l, oBinL (fun x y => x + y), tLret]]
set_option maxRecDepth 100000 in
set_option maxHeartbeats 4000000 in
theorem mok_X9_digest {E : kE} {σ : List Nat} {l : Launch} {tb : List (List Int32)} (hE : kcl E = kCl) (hn : kn E = 20) (htb : ktb E = tb) : kMOK E (kXX (kb E) σ) σ kZs l kY kWS yX9_digest (kws yX9_digest cX9_digest 5 (some .long)) cX9_digest 5 (some .long) (fun cl => bl_X9_digest tb cl) := by
  intro d cl hS p e R s m args below meth c α0 nc0 ns0 res C hf hlo hr hnm hout
  have hXX : kXX (kb E) σ s := C.2.2.2.2.2.2.1.2.2.2.2
  refine ⟨fun b => [0, 10, 18, 31, 33, 41, 44, 50, 71, 77, 79, 87, 90, 96, 117, 123].getD b 0, rfl, kAllB_get (bl := bl_X9_digest tb cl) ⟨?_, ?_, ?_, ?_, ?_, ?_, ?_, ?_, ?_, ?_, ?_, ?_, ?_, ?_, ?_, ?_, trivial⟩⟩
  · exact (ch_cons (pc := 0) (pc' := 1) (ok_aloadRn C dX9_digest_0 rfl) <| ch_cons (pc := 1) (pc' := 4) (ok_ldc2 C dX9_digest_1 (kG_in gw_419)) <| ch_cons (pc := 4) (pc' := 7) (ok_callV (d := d) (maxL := 7) C hn hout hf hlo (sn_104 hS) rfl (kcl_at hE 8 rfl) (kG_v gw_420 gw_421 gw_422 gw_423 gw_300) (by decide) (by decide +kernel) dX9_digest_4) <| ch_cons (pc := 7) (pc' := 8) (ok_lstoren C dX9_digest_7 rfl (by decide)) <| ch_cons (pc := 8) (pc' := 9) (ok_iconst C dX9_digest_8 (by decide)) <| ch_cons (pc := 9) (pc' := 10) (ok_istoren C dX9_digest_9 rfl (by decide)) <| ch_last (pc := 10) (ok_fall rfl))
  · exact (ch_cons (pc := 10) (pc' := 11) (ok_iloadn C dX9_digest_10 rfl) <| ch_cons (pc := 11) (pc' := 12) (ok_aloadRn C dX9_digest_11 rfl) <| ch_cons (pc := 12) (pc' := 15) (ok_get C hn (fun w h => kG_in (inG_X9 w h)) (kcl_at hE 8 rfl) (by decide) (kG_in gw_301) (fun _ h => h) dX9_digest_12) <| ch_last (pc := 15) (ok_icmp_ge (tgt := 31) C dX9_digest_15 (by decide) rfl rfl))
  · exact (ch_cons (pc := 18) (pc' := 19) (ok_aloadRn C dX9_digest_18 rfl) <| ch_cons (pc := 19) (pc' := 20) (ok_lloadn C dX9_digest_19 rfl) <| ch_cons (pc := 20) (pc' := 21) (ok_iloadn C dX9_digest_20 rfl) <| ch_cons (pc := 21) (pc' := 24) (ok_callV (d := d) (maxL := 7) C hn hout hf hlo (sn_105 hS) rfl (kcl_at hE 8 rfl) (kG_v gw_424 gw_425 gw_426 gw_427 gw_300) (by decide) (by decide +kernel) dX9_digest_21) <| ch_cons (pc := 24) (pc' := 25) (ok_lstoren C dX9_digest_24 rfl (by decide)) <| ch_cons (pc := 25) (pc' := 28) (ok_iinc C dX9_digest_25 (by decide) (by decide)) <| ch_last (pc := 28) (ok_goto (tgt := 10) C dX9_digest_28 (by decide) rfl))
  · exact (ch_cons (pc := 31) (pc' := 32) (ok_iconst C dX9_digest_31 (by decide)) <| ch_cons (pc := 32) (pc' := 33) (ok_istoren C dX9_digest_32 rfl (by decide)) <| ch_last (pc := 33) (ok_fall rfl))
  · exact (ch_cons (pc := 33) (pc' := 34) (ok_iloadn C dX9_digest_33 rfl) <| ch_cons (pc := 34) (pc' := 35) (ok_aloadRn C dX9_digest_34 rfl) <| ch_cons (pc := 35) (pc' := 38) (ok_get C hn (fun w h => kG_in (inG_X9 w h)) (kcl_at hE 8 rfl) (by decide) (kG_in gw_296) (fun _ h => h) dX9_digest_35) <| ch_last (pc := 38) (ok_icmp_ge (tgt := 77) C dX9_digest_38 (by decide) rfl rfl))
  · exact (ch_cons (pc := 41) (pc' := 42) (ok_iconst C dX9_digest_41 (by decide)) <| ch_cons (pc := 42) (pc' := 44) (ok_istore C dX9_digest_42 (by decide)) <| ch_last (pc := 44) (ok_fall rfl))
  · exact (ch_cons (pc := 44) (pc' := 46) (ok_iload C dX9_digest_44) <| ch_cons (pc := 46) (pc' := 47) (ok_iconst C dX9_digest_46 (by decide)) <| ch_last (pc := 47) (ok_icmp_ge (tgt := 71) C dX9_digest_47 (by decide) rfl rfl))
  · exact (ch_cons (pc := 50) (pc' := 51) (ok_lloadn C dX9_digest_50 rfl) <| ch_cons (pc := 51) (pc' := 54) (ok_ldc2 C dX9_digest_51 (kG_in gw_428)) <| ch_cons (pc := 54) (pc' := 55) (ok_lmul C dX9_digest_54) <| ch_cons (pc := 55) (pc' := 56) (ok_aloadRn C dX9_digest_55 rfl) <| ch_cons (pc := 56) (pc' := 57) (ok_iloadn C dX9_digest_56 rfl) <| ch_cons (pc := 57) (pc' := 59) (ok_iload C dX9_digest_57) <| ch_cons (pc := 59) (pc' := 62) (ok_callV (d := d) (maxL := 4) C hn hout hf hlo (sn_99 hS) rfl (kcl_at hE 8 rfl) (kG_v gw_429 gw_430 gw_431 gw_432 gw_300) (by decide) (by decide +kernel) dX9_digest_59) <| ch_cons (pc := 62) (pc' := 63) (ok_i2l C dX9_digest_62) <| ch_cons (pc := 63) (pc' := 64) (ok_ladd C dX9_digest_63) <| ch_cons (pc := 64) (pc' := 65) (ok_lstoren C dX9_digest_64 rfl (by decide)) <| ch_cons (pc := 65) (pc' := 68) (ok_iinc C dX9_digest_65 (by decide) (by decide)) <| ch_last (pc := 68) (ok_goto (tgt := 44) C dX9_digest_68 (by decide) rfl))
  · exact (ch_cons (pc := 71) (pc' := 74) (ok_iinc C dX9_digest_71 (by decide) (by decide)) <| ch_last (pc := 74) (ok_goto (tgt := 33) C dX9_digest_74 (by decide) rfl))
  · exact (ch_cons (pc := 77) (pc' := 78) (ok_iconst C dX9_digest_77 (by decide)) <| ch_cons (pc := 78) (pc' := 79) (ok_istoren C dX9_digest_78 rfl (by decide)) <| ch_last (pc := 79) (ok_fall rfl))
  · exact (ch_cons (pc := 79) (pc' := 80) (ok_iloadn C dX9_digest_79 rfl) <| ch_cons (pc := 80) (pc' := 81) (ok_aloadRn C dX9_digest_80 rfl) <| ch_cons (pc := 81) (pc' := 84) (ok_get C hn (fun w h => kG_in (inG_X9 w h)) (kcl_at hE 8 rfl) (by decide) (kG_in gw_333) (fun _ h => h) dX9_digest_81) <| ch_last (pc := 84) (ok_icmp_ge (tgt := 123) C dX9_digest_84 (by decide) rfl rfl))
  · exact (ch_cons (pc := 87) (pc' := 88) (ok_iconst C dX9_digest_87 (by decide)) <| ch_cons (pc := 88) (pc' := 90) (ok_istore C dX9_digest_88 (by decide)) <| ch_last (pc := 90) (ok_fall rfl))
  · exact (ch_cons (pc := 90) (pc' := 92) (ok_iload C dX9_digest_90) <| ch_cons (pc := 92) (pc' := 93) (ok_iconst C dX9_digest_92 (by decide)) <| ch_last (pc := 93) (ok_icmp_ge (tgt := 117) C dX9_digest_93 (by decide) rfl rfl))
  · exact (ch_cons (pc := 96) (pc' := 97) (ok_lloadn C dX9_digest_96 rfl) <| ch_cons (pc := 97) (pc' := 100) (ok_ldc2 C dX9_digest_97 (kG_in gw_428)) <| ch_cons (pc := 100) (pc' := 101) (ok_lmul C dX9_digest_100) <| ch_cons (pc := 101) (pc' := 102) (ok_aloadRn C dX9_digest_101 rfl) <| ch_cons (pc := 102) (pc' := 103) (ok_iloadn C dX9_digest_102 rfl) <| ch_cons (pc := 103) (pc' := 105) (ok_iload C dX9_digest_103) <| ch_cons (pc := 105) (pc' := 108) (ok_callV (d := d) (maxL := 4) C hn hout hf hlo (sn_100 hS) rfl (kcl_at hE 8 rfl) (kG_v gw_433 gw_434 gw_435 gw_436 gw_300) (by decide) (by decide +kernel) dX9_digest_105) <| ch_cons (pc := 108) (pc' := 109) (ok_i2l C dX9_digest_108) <| ch_cons (pc := 109) (pc' := 110) (ok_ladd C dX9_digest_109) <| ch_cons (pc := 110) (pc' := 111) (ok_lstoren C dX9_digest_110 rfl (by decide)) <| ch_cons (pc := 111) (pc' := 114) (ok_iinc C dX9_digest_111 (by decide) (by decide)) <| ch_last (pc := 114) (ok_goto (tgt := 90) C dX9_digest_114 (by decide) rfl))
  · exact (ch_cons (pc := 117) (pc' := 120) (ok_iinc C dX9_digest_117 (by decide) (by decide)) <| ch_last (pc := 120) (ok_goto (tgt := 79) C dX9_digest_120 (by decide) rfl))
  · exact (ch_cons (pc := 123) (pc' := 124) (ok_lloadn C dX9_digest_123 rfl) <| ch_cons (pc := 124) (pc' := 127) (ok_ldc2 C dX9_digest_124 (kG_in gw_428)) <| ch_cons (pc := 127) (pc' := 128) (ok_lmul C dX9_digest_127) <| ch_cons (pc := 128) (pc' := 129) (ok_aloadRn C dX9_digest_128 rfl) <| ch_cons (pc := 129) (pc' := 130) (ok_iconst C dX9_digest_129 (by decide)) <| ch_cons (pc := 130) (pc' := 133) (ok_callV (d := d) (maxL := 4) C hn hout hf hlo (sn_91 hS) rfl (kcl_at hE 8 rfl) (kG_v gw_437 gw_438 gw_439 gw_440 gw_300) (by decide) (by decide +kernel) dX9_digest_130) <| ch_cons (pc := 133) (pc' := 134) (ok_i2l C dX9_digest_133) <| ch_cons (pc := 134) (pc' := 135) (ok_ladd C dX9_digest_134) <| ch_last (pc := 135) (ok_lreturn C hr dX9_digest_135))
/-- Bijectory.digestOfObjects(J)J -/
def bl_X9_digestOfObjects (tb : List (List Int32)) (cl : kCall) : List (List kOp) := [
  [oLoadL 1, oStoreL 3, oS (gPush (.int 0)), oStoreI 5, tGo 1],
  [oLoadI 5, oS (gPush (.int 7)), tCmp (fun x y => decide (y ≤ x)) 3 2],
  [oLoadL 3, oS (gPush (.long (31))), oBinL (fun x y => x * y), oLoadR 0, oLoadI 5, oCallV cl 101 1 8 20, oS gI2l, oBinL (fun x y => x + y), oStoreL 3, oIinc 5 1, tGo 1],
  [oS (gPush (.int 0)), oStoreI 5, tGo 4],
  [oLoadI 5, oS (gPush (.int 3)), tCmp (fun x y => decide (y ≤ x)) 9 5],
  [oLoadL 3, oS (gPush (.long (31))), oBinL (fun x y => x * y), oLoadR 0, oLoadI 5, oCallV cl 83 1 8 20, oS gI2l, oBinL (fun x y => x + y), oStoreL 3, oS (gPush (.int 0)), oStoreI 6, tGo 6],
  [oLoadI 6, oS (gPush (.int 4)), tCmp (fun x y => decide (y ≤ x)) 8 7],
  [oLoadL 3, oS (gPush (.long (31))), oBinL (fun x y => x * y), oLoadR 0, oLoadI 5, oLoadI 6, oCallV cl 88 2 8 20, oS gI2l, oBinL (fun x y => x + y), oStoreL 3, oIinc 6 1, tGo 6],
  [oIinc 5 1, tGo 4],
  [oLoadL 3, tLret]]
set_option maxRecDepth 100000 in
set_option maxHeartbeats 4000000 in
theorem mok_X9_digestOfObjects {E : kE} {σ : List Nat} {l : Launch} {tb : List (List Int32)} (hE : kcl E = kCl) (hn : kn E = 20) (htb : ktb E = tb) : kMOK E (kXX (kb E) σ) σ kZs l kY kWS yX9_digestOfObjects (kws yX9_digestOfObjects cX9_digestOfObjects 7 (some .long)) cX9_digestOfObjects 7 (some .long) (fun cl => bl_X9_digestOfObjects tb cl) := by
  intro d cl hS p e R s m args below meth c α0 nc0 ns0 res C hf hlo hr hnm hout
  have hXX : kXX (kb E) σ s := C.2.2.2.2.2.2.1.2.2.2.2
  refine ⟨fun b => [0, 5, 12, 32, 35, 41, 58, 64, 86, 92].getD b 0, rfl, kAllB_get (bl := bl_X9_digestOfObjects tb cl) ⟨?_, ?_, ?_, ?_, ?_, ?_, ?_, ?_, ?_, ?_, trivial⟩⟩
  · exact (ch_cons (pc := 0) (pc' := 1) (ok_lloadn C dX9_digestOfObjects_0 rfl) <| ch_cons (pc := 1) (pc' := 2) (ok_lstoren C dX9_digestOfObjects_1 rfl (by decide)) <| ch_cons (pc := 2) (pc' := 3) (ok_iconst C dX9_digestOfObjects_2 (by decide)) <| ch_cons (pc := 3) (pc' := 5) (ok_istore C dX9_digestOfObjects_3 (by decide)) <| ch_last (pc := 5) (ok_fall rfl))
  · exact (ch_cons (pc := 5) (pc' := 7) (ok_iload C dX9_digestOfObjects_5) <| ch_cons (pc := 7) (pc' := 9) (ok_bipush C dX9_digestOfObjects_7 (by decide)) <| ch_last (pc := 9) (ok_icmp_ge (tgt := 32) C dX9_digestOfObjects_9 (by decide) rfl rfl))
  · exact (ch_cons (pc := 12) (pc' := 13) (ok_lloadn C dX9_digestOfObjects_12 rfl) <| ch_cons (pc := 13) (pc' := 16) (ok_ldc2 C dX9_digestOfObjects_13 (kG_in gw_428)) <| ch_cons (pc := 16) (pc' := 17) (ok_lmul C dX9_digestOfObjects_16) <| ch_cons (pc := 17) (pc' := 18) (ok_aloadRn C dX9_digestOfObjects_17 rfl) <| ch_cons (pc := 18) (pc' := 20) (ok_iload C dX9_digestOfObjects_18) <| ch_cons (pc := 20) (pc' := 23) (ok_callV (d := d) (maxL := 2) C hn hout hf hlo (sn_101 hS) rfl (kcl_at hE 8 rfl) (kG_v gw_441 gw_442 gw_443 gw_444 gw_300) (by decide) (by decide +kernel) dX9_digestOfObjects_20) <| ch_cons (pc := 23) (pc' := 24) (ok_i2l C dX9_digestOfObjects_23) <| ch_cons (pc := 24) (pc' := 25) (ok_ladd C dX9_digestOfObjects_24) <| ch_cons (pc := 25) (pc' := 26) (ok_lstoren C dX9_digestOfObjects_25 rfl (by decide)) <| ch_cons (pc := 26) (pc' := 29) (ok_iinc C dX9_digestOfObjects_26 (by decide) (by decide)) <| ch_last (pc := 29) (ok_goto (tgt := 5) C dX9_digestOfObjects_29 (by decide) rfl))
  · exact (ch_cons (pc := 32) (pc' := 33) (ok_iconst C dX9_digestOfObjects_32 (by decide)) <| ch_cons (pc := 33) (pc' := 35) (ok_istore C dX9_digestOfObjects_33 (by decide)) <| ch_last (pc := 35) (ok_fall rfl))
  · exact (ch_cons (pc := 35) (pc' := 37) (ok_iload C dX9_digestOfObjects_35) <| ch_cons (pc := 37) (pc' := 38) (ok_iconst C dX9_digestOfObjects_37 (by decide)) <| ch_last (pc := 38) (ok_icmp_ge (tgt := 92) C dX9_digestOfObjects_38 (by decide) rfl rfl))
  · exact (ch_cons (pc := 41) (pc' := 42) (ok_lloadn C dX9_digestOfObjects_41 rfl) <| ch_cons (pc := 42) (pc' := 45) (ok_ldc2 C dX9_digestOfObjects_42 (kG_in gw_428)) <| ch_cons (pc := 45) (pc' := 46) (ok_lmul C dX9_digestOfObjects_45) <| ch_cons (pc := 46) (pc' := 47) (ok_aloadRn C dX9_digestOfObjects_46 rfl) <| ch_cons (pc := 47) (pc' := 49) (ok_iload C dX9_digestOfObjects_47) <| ch_cons (pc := 49) (pc' := 52) (ok_callV (d := d) (maxL := 2) C hn hout hf hlo (sn_83 hS) rfl (kcl_at hE 8 rfl) (kG_v gw_445 gw_446 gw_447 gw_448 gw_300) (by decide) (by decide +kernel) dX9_digestOfObjects_49) <| ch_cons (pc := 52) (pc' := 53) (ok_i2l C dX9_digestOfObjects_52) <| ch_cons (pc := 53) (pc' := 54) (ok_ladd C dX9_digestOfObjects_53) <| ch_cons (pc := 54) (pc' := 55) (ok_lstoren C dX9_digestOfObjects_54 rfl (by decide)) <| ch_cons (pc := 55) (pc' := 56) (ok_iconst C dX9_digestOfObjects_55 (by decide)) <| ch_cons (pc := 56) (pc' := 58) (ok_istore C dX9_digestOfObjects_56 (by decide)) <| ch_last (pc := 58) (ok_fall rfl))
  · exact (ch_cons (pc := 58) (pc' := 60) (ok_iload C dX9_digestOfObjects_58) <| ch_cons (pc := 60) (pc' := 61) (ok_iconst C dX9_digestOfObjects_60 (by decide)) <| ch_last (pc := 61) (ok_icmp_ge (tgt := 86) C dX9_digestOfObjects_61 (by decide) rfl rfl))
  · exact (ch_cons (pc := 64) (pc' := 65) (ok_lloadn C dX9_digestOfObjects_64 rfl) <| ch_cons (pc := 65) (pc' := 68) (ok_ldc2 C dX9_digestOfObjects_65 (kG_in gw_428)) <| ch_cons (pc := 68) (pc' := 69) (ok_lmul C dX9_digestOfObjects_68) <| ch_cons (pc := 69) (pc' := 70) (ok_aloadRn C dX9_digestOfObjects_69 rfl) <| ch_cons (pc := 70) (pc' := 72) (ok_iload C dX9_digestOfObjects_70) <| ch_cons (pc := 72) (pc' := 74) (ok_iload C dX9_digestOfObjects_72) <| ch_cons (pc := 74) (pc' := 77) (ok_callV (d := d) (maxL := 5) C hn hout hf hlo (sn_88 hS) rfl (kcl_at hE 8 rfl) (kG_v gw_449 gw_450 gw_451 gw_452 gw_300) (by decide) (by decide +kernel) dX9_digestOfObjects_74) <| ch_cons (pc := 77) (pc' := 78) (ok_i2l C dX9_digestOfObjects_77) <| ch_cons (pc := 78) (pc' := 79) (ok_ladd C dX9_digestOfObjects_78) <| ch_cons (pc := 79) (pc' := 80) (ok_lstoren C dX9_digestOfObjects_79 rfl (by decide)) <| ch_cons (pc := 80) (pc' := 83) (ok_iinc C dX9_digestOfObjects_80 (by decide) (by decide)) <| ch_last (pc := 83) (ok_goto (tgt := 58) C dX9_digestOfObjects_83 (by decide) rfl))
  · exact (ch_cons (pc := 86) (pc' := 89) (ok_iinc C dX9_digestOfObjects_86 (by decide) (by decide)) <| ch_last (pc := 89) (ok_goto (tgt := 35) C dX9_digestOfObjects_89 (by decide) rfl))
  · exact (ch_cons (pc := 92) (pc' := 93) (ok_lloadn C dX9_digestOfObjects_92 rfl) <| ch_last (pc := 93) (ok_lreturn C hr dX9_digestOfObjects_93))
/-- Bijectory.digestOfMap(JI)J -/
def bl_X9_digestOfMap (tb : List (List Int32)) (cl : kCall) : List (List kOp) := [
  [oLoadL 1, oStoreL 4, oS (gPush (.int 0)), oStoreI 6, tGo 1],
  [oLoadI 6, oS (gPush (.int 8)), tCmp (fun x y => decide (y ≤ x)) 3 2],
  [oLoadL 4, oS (gPush (.long (31))), oBinL (fun x y => x * y), oLoadR 0, oLoadI 3, oLoadI 6, oCallV cl 92 2 8 20, oS gI2l, oBinL (fun x y => x + y), oStoreL 4, oIinc 6 1, tGo 1],
  [oLoadL 4, oS (gPush (.long (31))), oBinL (fun x y => x * y), oLoadR 0, oLoadI 3, oS (gPush (.int 0)), oCallV cl 93 2 8 20, oS gI2l, oBinL (fun x y => x + y), oStoreL 4, oLoadL 4, oS (gPush (.long (31))), oBinL (fun x y => x * y), oLoadR 0, oLoadI 3, oCallV cl 95 1 8 20, oS gI2l, oBinL (fun x y => x + y), oStoreL 4, oLoadL 4, oS (gPush (.long (31))), oBinL (fun x y => x * y), oLoadR 0, oLoadI 3, oCallV cl 96 1 8 20, oBinL (fun x y => x + y), oStoreL 4, oLoadL 4, oS (gPush (.long (31))), oBinL (fun x y => x * y), oLoadR 0, oLoadI 3, oS (gPush (.int 0)), oS (gPush (.int 0)), oCallV cl 97 3 8 20, oS gI2l, oBinL (fun x y => x + y), tLret]]
set_option maxRecDepth 100000 in
set_option maxHeartbeats 4000000 in
theorem mok_X9_digestOfMap {E : kE} {σ : List Nat} {l : Launch} {tb : List (List Int32)} (hE : kcl E = kCl) (hn : kn E = 20) (htb : ktb E = tb) : kMOK E (kXX (kb E) σ) σ kZs l kY kWS yX9_digestOfMap (kws yX9_digestOfMap cX9_digestOfMap 7 (some .long)) cX9_digestOfMap 7 (some .long) (fun cl => bl_X9_digestOfMap tb cl) := by
  intro d cl hS p e R s m args below meth c α0 nc0 ns0 res C hf hlo hr hnm hout
  have hXX : kXX (kb E) σ s := C.2.2.2.2.2.2.1.2.2.2.2
  refine ⟨fun b => [0, 6, 13, 36].getD b 0, rfl, kAllB_get (bl := bl_X9_digestOfMap tb cl) ⟨?_, ?_, ?_, ?_, trivial⟩⟩
  · exact (ch_cons (pc := 0) (pc' := 1) (ok_lloadn C dX9_digestOfMap_0 rfl) <| ch_cons (pc := 1) (pc' := 3) (ok_lstore C dX9_digestOfMap_1 (by decide)) <| ch_cons (pc := 3) (pc' := 4) (ok_iconst C dX9_digestOfMap_3 (by decide)) <| ch_cons (pc := 4) (pc' := 6) (ok_istore C dX9_digestOfMap_4 (by decide)) <| ch_last (pc := 6) (ok_fall rfl))
  · exact (ch_cons (pc := 6) (pc' := 8) (ok_iload C dX9_digestOfMap_6) <| ch_cons (pc := 8) (pc' := 10) (ok_bipush C dX9_digestOfMap_8 (by decide)) <| ch_last (pc := 10) (ok_icmp_ge (tgt := 36) C dX9_digestOfMap_10 (by decide) rfl rfl))
  · exact (ch_cons (pc := 13) (pc' := 15) (ok_lload C dX9_digestOfMap_13) <| ch_cons (pc := 15) (pc' := 18) (ok_ldc2 C dX9_digestOfMap_15 (kG_in gw_428)) <| ch_cons (pc := 18) (pc' := 19) (ok_lmul C dX9_digestOfMap_18) <| ch_cons (pc := 19) (pc' := 20) (ok_aloadRn C dX9_digestOfMap_19 rfl) <| ch_cons (pc := 20) (pc' := 21) (ok_iloadn C dX9_digestOfMap_20 rfl) <| ch_cons (pc := 21) (pc' := 23) (ok_iload C dX9_digestOfMap_21) <| ch_cons (pc := 23) (pc' := 26) (ok_callV (d := d) (maxL := 4) C hn hout hf hlo (sn_92 hS) rfl (kcl_at hE 8 rfl) (kG_v gw_453 gw_454 gw_455 gw_456 gw_300) (by decide) (by decide +kernel) dX9_digestOfMap_23) <| ch_cons (pc := 26) (pc' := 27) (ok_i2l C dX9_digestOfMap_26) <| ch_cons (pc := 27) (pc' := 28) (ok_ladd C dX9_digestOfMap_27) <| ch_cons (pc := 28) (pc' := 30) (ok_lstore C dX9_digestOfMap_28 (by decide)) <| ch_cons (pc := 30) (pc' := 33) (ok_iinc C dX9_digestOfMap_30 (by decide) (by decide)) <| ch_last (pc := 33) (ok_goto (tgt := 6) C dX9_digestOfMap_33 (by decide) rfl))
  · exact (ch_cons (pc := 36) (pc' := 38) (ok_lload C dX9_digestOfMap_36) <| ch_cons (pc := 38) (pc' := 41) (ok_ldc2 C dX9_digestOfMap_38 (kG_in gw_428)) <| ch_cons (pc := 41) (pc' := 42) (ok_lmul C dX9_digestOfMap_41) <| ch_cons (pc := 42) (pc' := 43) (ok_aloadRn C dX9_digestOfMap_42 rfl) <| ch_cons (pc := 43) (pc' := 44) (ok_iloadn C dX9_digestOfMap_43 rfl) <| ch_cons (pc := 44) (pc' := 45) (ok_iconst C dX9_digestOfMap_44 (by decide)) <| ch_cons (pc := 45) (pc' := 48) (ok_callV (d := d) (maxL := 4) C hn hout hf hlo (sn_93 hS) rfl (kcl_at hE 8 rfl) (kG_v gw_457 gw_458 gw_459 gw_460 gw_300) (by decide) (by decide +kernel) dX9_digestOfMap_45) <| ch_cons (pc := 48) (pc' := 49) (ok_i2l C dX9_digestOfMap_48) <| ch_cons (pc := 49) (pc' := 50) (ok_ladd C dX9_digestOfMap_49) <| ch_cons (pc := 50) (pc' := 52) (ok_lstore C dX9_digestOfMap_50 (by decide)) <| ch_cons (pc := 52) (pc' := 54) (ok_lload C dX9_digestOfMap_52) <| ch_cons (pc := 54) (pc' := 57) (ok_ldc2 C dX9_digestOfMap_54 (kG_in gw_428)) <| ch_cons (pc := 57) (pc' := 58) (ok_lmul C dX9_digestOfMap_57) <| ch_cons (pc := 58) (pc' := 59) (ok_aloadRn C dX9_digestOfMap_58 rfl) <| ch_cons (pc := 59) (pc' := 60) (ok_iloadn C dX9_digestOfMap_59 rfl) <| ch_cons (pc := 60) (pc' := 63) (ok_callV (d := d) (maxL := 3) C hn hout hf hlo (sn_95 hS) rfl (kcl_at hE 8 rfl) (kG_v gw_461 gw_462 gw_463 gw_464 gw_300) (by decide) (by decide +kernel) dX9_digestOfMap_60) <| ch_cons (pc := 63) (pc' := 64) (ok_i2l C dX9_digestOfMap_63) <| ch_cons (pc := 64) (pc' := 65) (ok_ladd C dX9_digestOfMap_64) <| ch_cons (pc := 65) (pc' := 67) (ok_lstore C dX9_digestOfMap_65 (by decide)) <| ch_cons (pc := 67) (pc' := 69) (ok_lload C dX9_digestOfMap_67) <| ch_cons (pc := 69) (pc' := 72) (ok_ldc2 C dX9_digestOfMap_69 (kG_in gw_428)) <| ch_cons (pc := 72) (pc' := 73) (ok_lmul C dX9_digestOfMap_72) <| ch_cons (pc := 73) (pc' := 74) (ok_aloadRn C dX9_digestOfMap_73 rfl) <| ch_cons (pc := 74) (pc' := 75) (ok_iloadn C dX9_digestOfMap_74 rfl) <| ch_cons (pc := 75) (pc' := 78) (ok_callV (d := d) (maxL := 3) C hn hout hf hlo (sn_96 hS) rfl (kcl_at hE 8 rfl) (kG_v gw_465 gw_466 gw_467 gw_468 gw_300) (by decide) (by decide +kernel) dX9_digestOfMap_75) <| ch_cons (pc := 78) (pc' := 79) (ok_ladd C dX9_digestOfMap_78) <| ch_cons (pc := 79) (pc' := 81) (ok_lstore C dX9_digestOfMap_79 (by decide)) <| ch_cons (pc := 81) (pc' := 83) (ok_lload C dX9_digestOfMap_81) <| ch_cons (pc := 83) (pc' := 86) (ok_ldc2 C dX9_digestOfMap_83 (kG_in gw_428)) <| ch_cons (pc := 86) (pc' := 87) (ok_lmul C dX9_digestOfMap_86) <| ch_cons (pc := 87) (pc' := 88) (ok_aloadRn C dX9_digestOfMap_87 rfl) <| ch_cons (pc := 88) (pc' := 89) (ok_iloadn C dX9_digestOfMap_88 rfl) <| ch_cons (pc := 89) (pc' := 90) (ok_iconst C dX9_digestOfMap_89 (by decide)) <| ch_cons (pc := 90) (pc' := 91) (ok_iconst C dX9_digestOfMap_90 (by decide)) <| ch_cons (pc := 91) (pc' := 94) (ok_callV (d := d) (maxL := 5) C hn hout hf hlo (sn_97 hS) rfl (kcl_at hE 8 rfl) (kG_v gw_469 gw_470 gw_471 gw_472 gw_300) (by decide) (by decide +kernel) dX9_digestOfMap_91) <| ch_cons (pc := 94) (pc' := 95) (ok_i2l C dX9_digestOfMap_94) <| ch_cons (pc := 95) (pc' := 96) (ok_ladd C dX9_digestOfMap_95) <| ch_last (pc := 96) (ok_lreturn C hr dX9_digestOfMap_96))
/-- Bijectory.needStep(I)V -/
def bl_X9_needStep (tb : List (List Int32)) (cl : kCall) : List (List kOp) := [
  [oLoadI 0, tIf (fun x => decide (x < 0)) 2 1],
  [oLoadI 0, oS (gPush (.int 11)), tCmp (fun x y => decide (x < y)) 3 2],
  [tThrow 0],
  [tVret]]
set_option maxRecDepth 100000 in
set_option maxHeartbeats 4000000 in
theorem mok_X9_needStep {E : kE} {σ : List Nat} {l : Launch} {tb : List (List Int32)} (hE : kcl E = kCl) (hn : kn E = 20) (htb : ktb E = tb) : kMOK E (kXX (kb E) σ) σ kZs l kY kWS yX9_needStep (kws yX9_needStep cX9_needStep 1 none) cX9_needStep 1 none (fun cl => bl_X9_needStep tb cl) := by
  intro d cl hS p e R s m args below meth c α0 nc0 ns0 res C hf hlo hr hnm hout
  have hXX : kXX (kb E) σ s := C.2.2.2.2.2.2.1.2.2.2.2
  refine ⟨fun b => [0, 4, 10, 21].getD b 0, rfl, kAllB_get (bl := bl_X9_needStep tb cl) ⟨?_, ?_, ?_, ?_, trivial⟩⟩
  · exact (ch_cons (pc := 0) (pc' := 1) (ok_iloadn C dX9_needStep_0 rfl) <| ch_last (pc := 1) (ok_if_lt (tgt := 10) C dX9_needStep_1 (by decide) rfl rfl))
  · exact (ch_cons (pc := 4) (pc' := 5) (ok_iloadn C dX9_needStep_4 rfl) <| ch_cons (pc := 5) (pc' := 7) (ok_bipush C dX9_needStep_5 (by decide)) <| ch_last (pc := 7) (ok_icmp_lt (tgt := 21) C dX9_needStep_7 (by decide) rfl rfl))
  · exact (ch_last (pc := 10) (ok_throwW (k := 0) (text := "step is not 0 to 10") (names := ["java/lang/RuntimeException", "java/lang/Exception"]) C (by decide) (by decide) (by decide) (kG_in gw_294) (kG_in gw_295) (st_16 hXX).choose_spec (at_0 C.2.2.2.2.1 hXX) gd_0 hXX.2.2.1 hXX.2.2.2.1 dX9_needStep_10 dX9_needStep_13 dX9_needStep_14 dX9_needStep_17 dX9_needStep_20 hout))
  · exact (ch_last (pc := 21) (ok_return C hr dX9_needStep_21))
/-- Bijectory.needFamily(I)V -/
def bl_X9_needFamily (tb : List (List Int32)) (cl : kCall) : List (List kOp) := [
  [oLoadI 0, tIf (fun x => decide (x < 0)) 2 1],
  [oLoadI 0, oS (gPush (.int 3)), tCmp (fun x y => decide (x < y)) 3 2],
  [tThrow 2],
  [tVret]]
set_option maxRecDepth 100000 in
set_option maxHeartbeats 4000000 in
theorem mok_X9_needFamily {E : kE} {σ : List Nat} {l : Launch} {tb : List (List Int32)} (hE : kcl E = kCl) (hn : kn E = 20) (htb : ktb E = tb) : kMOK E (kXX (kb E) σ) σ kZs l kY kWS yX9_needFamily (kws yX9_needFamily cX9_needFamily 1 none) cX9_needFamily 1 none (fun cl => bl_X9_needFamily tb cl) := by
  intro d cl hS p e R s m args below meth c α0 nc0 ns0 res C hf hlo hr hnm hout
  have hXX : kXX (kb E) σ s := C.2.2.2.2.2.2.1.2.2.2.2
  refine ⟨fun b => [0, 4, 9, 20].getD b 0, rfl, kAllB_get (bl := bl_X9_needFamily tb cl) ⟨?_, ?_, ?_, ?_, trivial⟩⟩
  · exact (ch_cons (pc := 0) (pc' := 1) (ok_iloadn C dX9_needFamily_0 rfl) <| ch_last (pc := 1) (ok_if_lt (tgt := 9) C dX9_needFamily_1 (by decide) rfl rfl))
  · exact (ch_cons (pc := 4) (pc' := 5) (ok_iloadn C dX9_needFamily_4 rfl) <| ch_cons (pc := 5) (pc' := 6) (ok_iconst C dX9_needFamily_5 (by decide)) <| ch_last (pc := 6) (ok_icmp_lt (tgt := 20) C dX9_needFamily_6 (by decide) rfl rfl))
  · exact (ch_last (pc := 9) (ok_throwW (k := 2) (text := "family is not 0 to 2") (names := ["java/lang/RuntimeException", "java/lang/Exception"]) C (by decide) (by decide) (by decide) (kG_in gw_473) (kG_in gw_474) (st_17 hXX).choose_spec (at_2 C.2.2.2.2.1 hXX) gd_2 hXX.2.2.1 hXX.2.2.2.1 dX9_needFamily_9 dX9_needFamily_12 dX9_needFamily_13 dX9_needFamily_16 dX9_needFamily_19 hout))
  · exact (ch_last (pc := 20) (ok_return C hr dX9_needFamily_20))
/-- Bijectory.needStatistic(I)V -/
def bl_X9_needStatistic (tb : List (List Int32)) (cl : kCall) : List (List kOp) := [
  [oLoadI 0, tIf (fun x => decide (x < 0)) 2 1],
  [oLoadI 0, oS (gPush (.int 4)), tCmp (fun x y => decide (x < y)) 3 2],
  [tThrow 0],
  [tVret]]
set_option maxRecDepth 100000 in
set_option maxHeartbeats 4000000 in
theorem mok_X9_needStatistic {E : kE} {σ : List Nat} {l : Launch} {tb : List (List Int32)} (hE : kcl E = kCl) (hn : kn E = 20) (htb : ktb E = tb) : kMOK E (kXX (kb E) σ) σ kZs l kY kWS yX9_needStatistic (kws yX9_needStatistic cX9_needStatistic 1 none) cX9_needStatistic 1 none (fun cl => bl_X9_needStatistic tb cl) := by
  intro d cl hS p e R s m args below meth c α0 nc0 ns0 res C hf hlo hr hnm hout
  have hXX : kXX (kb E) σ s := C.2.2.2.2.2.2.1.2.2.2.2
  refine ⟨fun b => [0, 4, 9, 20].getD b 0, rfl, kAllB_get (bl := bl_X9_needStatistic tb cl) ⟨?_, ?_, ?_, ?_, trivial⟩⟩
  · exact (ch_cons (pc := 0) (pc' := 1) (ok_iloadn C dX9_needStatistic_0 rfl) <| ch_last (pc := 1) (ok_if_lt (tgt := 9) C dX9_needStatistic_1 (by decide) rfl rfl))
  · exact (ch_cons (pc := 4) (pc' := 5) (ok_iloadn C dX9_needStatistic_4 rfl) <| ch_cons (pc := 5) (pc' := 6) (ok_iconst C dX9_needStatistic_5 (by decide)) <| ch_last (pc := 6) (ok_icmp_lt (tgt := 20) C dX9_needStatistic_6 (by decide) rfl rfl))
  · exact (ch_last (pc := 9) (ok_throwW (k := 0) (text := "a statistic is not 0 to 3") (names := ["java/lang/RuntimeException", "java/lang/Exception"]) C (by decide) (by decide) (by decide) (kG_in gw_294) (kG_in gw_295) (st_18 hXX).choose_spec (at_0 C.2.2.2.2.1 hXX) gd_0 hXX.2.2.1 hXX.2.2.2.1 dX9_needStatistic_9 dX9_needStatistic_12 dX9_needStatistic_13 dX9_needStatistic_16 dX9_needStatistic_19 hout))
  · exact (ch_last (pc := 20) (ok_return C hr dX9_needStatistic_20))
/-- Bijectory.needRank(II)V -/
def bl_X9_needRank (tb : List (List Int32)) (cl : kCall) : List (List kOp) := [
  [oLoadI 1, oCall cl 107 1, oLoadI 2, tIf (fun x => decide (x < 0)) 2 1],
  [oLoadI 2, oLoadR 0, oGet 20 8 5, oLoadI 1, oCallV cl 51 1 5 20, tCmp (fun x y => decide (x < y)) 3 2],
  [tThrow 2],
  [tVret]]
set_option maxRecDepth 100000 in
set_option maxHeartbeats 4000000 in
theorem mok_X9_needRank {E : kE} {σ : List Nat} {l : Launch} {tb : List (List Int32)} (hE : kcl E = kCl) (hn : kn E = 20) (htb : ktb E = tb) : kMOK E (kXX (kb E) σ) σ kZs l kY kWS yX9_needRank (kws yX9_needRank cX9_needRank 3 none) cX9_needRank 3 none (fun cl => bl_X9_needRank tb cl) := by
  intro d cl hS p e R s m args below meth c α0 nc0 ns0 res C hf hlo hr hnm hout
  have hXX : kXX (kb E) σ s := C.2.2.2.2.2.2.1.2.2.2.2
  refine ⟨fun b => [0, 8, 20, 31].getD b 0, rfl, kAllB_get (bl := bl_X9_needRank tb cl) ⟨?_, ?_, ?_, ?_, trivial⟩⟩
  · exact (ch_cons (pc := 0) (pc' := 1) (ok_iloadn C dX9_needRank_0 rfl) <| ch_cons (pc := 1) (pc' := 4) (ok_callS (d := d) C hout hf hlo (sn_107 hS) rfl (kG_s gw_321 gw_322 gw_323 gw_300) (by decide) (by decide +kernel) dX9_needRank_1) <| ch_cons (pc := 4) (pc' := 5) (ok_iloadn C dX9_needRank_4 rfl) <| ch_last (pc := 5) (ok_if_lt (tgt := 20) C dX9_needRank_5 (by decide) rfl rfl))
  · exact (ch_cons (pc := 8) (pc' := 9) (ok_iloadn C dX9_needRank_8 rfl) <| ch_cons (pc := 9) (pc' := 10) (ok_aloadRn C dX9_needRank_9 rfl) <| ch_cons (pc := 10) (pc' := 13) (ok_get C hn (fun w h => kG_in (inG_X9 w h)) (kcl_at hE 8 rfl) (by decide) (kG_in gw_293) (fun _ h => h) dX9_needRank_10) <| ch_cons (pc := 13) (pc' := 14) (ok_iloadn C dX9_needRank_13 rfl) <| ch_cons (pc := 14) (pc' := 17) (ok_callV (d := d) (maxL := 2) C hn hout hf hlo (sn_51 hS) rfl (kcl_at hE 5 rfl) (kG_v gw_147 gw_363 gw_149 gw_150 gw_118) (by decide) (by decide +kernel) dX9_needRank_14) <| ch_last (pc := 17) (ok_icmp_lt (tgt := 31) C dX9_needRank_17 (by decide) rfl rfl))
  · exact (ch_last (pc := 20) (ok_throwW (k := 2) (text := "there is no such RANK") (names := ["java/lang/RuntimeException", "java/lang/Exception"]) C (by decide) (by decide) (by decide) (kG_in gw_473) (kG_in gw_474) (st_19 hXX).choose_spec (at_2 C.2.2.2.2.1 hXX) gd_2 hXX.2.2.1 hXX.2.2.2.1 dX9_needRank_20 dX9_needRank_23 dX9_needRank_24 dX9_needRank_27 dX9_needRank_30 hout))
  · exact (ch_last (pc := 31) (ok_return C hr dX9_needRank_31))
/-- Bijectory.chartAt(I)LBijectory$Chart; -/
def bl_X9_chartAt (tb : List (List Int32)) (cl : kCall) : List (List kOp) := [
  [oLoadI 1, tIf (fun x => decide (x < 0)) 4 1],
  [oLoadI 1, oLoadR 0, oGet 20 8 6, tCmp (fun x y => decide (y ≤ x)) 4 2],
  [oLoadI 1, oLoadR 0, oGet 20 8 2, oAlen tb, tCmp (fun x y => decide (y ≤ x)) 4 3],
  [oLoadR 0, oGet 20 8 2, oLoadI 1, oAald 20, tGo 5],
  [oS (gPush .null), tGo 5],
  [oStoreR 2, oLoadR 2, tNull 6 7],
  [tThrow 2],
  [oLoadR 2, tAret]]
set_option maxRecDepth 100000 in
set_option maxHeartbeats 4000000 in
theorem mok_X9_chartAt {E : kE} {σ : List Nat} {l : Launch} {tb : List (List Int32)} (hE : kcl E = kCl) (hn : kn E = 20) (htb : ktb E = tb) : kMOK E (kXX (kb E) σ) σ kZs l kY kWS yX9_chartAt (kws yX9_chartAt cX9_chartAt 3 (some (.object "Bijectory$Chart"))) cX9_chartAt 3 (some (.object "Bijectory$Chart")) (fun cl => bl_X9_chartAt tb cl) := by
  intro d cl hS p e R s m args below meth c α0 nc0 ns0 res C hf hlo hr hnm hout
  have hXX : kXX (kb E) σ s := C.2.2.2.2.2.2.1.2.2.2.2
  refine ⟨fun b => [0, 4, 12, 21, 30, 31, 36, 47].getD b 0, rfl, kAllB_get (bl := bl_X9_chartAt tb cl) ⟨?_, ?_, ?_, ?_, ?_, ?_, ?_, ?_, trivial⟩⟩
  · exact (ch_cons (pc := 0) (pc' := 1) (ok_iloadn C dX9_chartAt_0 rfl) <| ch_last (pc := 1) (ok_if_lt (tgt := 30) C dX9_chartAt_1 (by decide) rfl rfl))
  · exact (ch_cons (pc := 4) (pc' := 5) (ok_iloadn C dX9_chartAt_4 rfl) <| ch_cons (pc := 5) (pc' := 6) (ok_aloadRn C dX9_chartAt_5 rfl) <| ch_cons (pc := 6) (pc' := 9) (ok_get C hn (fun w h => kG_in (inG_X9 w h)) (kcl_at hE 8 rfl) (by decide) (kG_in gw_301) (fun _ h => h) dX9_chartAt_6) <| ch_last (pc := 9) (ok_icmp_ge (tgt := 30) C dX9_chartAt_9 (by decide) rfl rfl))
  · exact (ch_cons (pc := 12) (pc' := 13) (ok_iloadn C dX9_chartAt_12 rfl) <| ch_cons (pc := 13) (pc' := 14) (ok_aloadRn C dX9_chartAt_13 rfl) <| ch_cons (pc := 14) (pc' := 17) (ok_get C hn (fun w h => kG_in (inG_X9 w h)) (kcl_at hE 8 rfl) (by decide) (kG_in gw_285) (fun _ h => h) dX9_chartAt_14) <| ch_cons (pc := 17) (pc' := 18) (ok_alen C htb dX9_chartAt_17) <| ch_last (pc := 18) (ok_icmp_ge (tgt := 30) C dX9_chartAt_18 (by decide) rfl rfl))
  · exact (ch_cons (pc := 21) (pc' := 22) (ok_aloadRn C dX9_chartAt_21 rfl) <| ch_cons (pc := 22) (pc' := 25) (ok_get C hn (fun w h => kG_in (inG_X9 w h)) (kcl_at hE 8 rfl) (by decide) (kG_in gw_285) (fun _ h => h) dX9_chartAt_22) <| ch_cons (pc := 25) (pc' := 26) (ok_iloadn C dX9_chartAt_25 rfl) <| ch_cons (pc := 26) (pc' := 27) (ok_aaload C hn dX9_chartAt_26) <| ch_last (pc := 27) (ok_goto (tgt := 31) C dX9_chartAt_27 (by decide) rfl))
  · exact (ch_cons (pc := 30) (pc' := 31) (ok_null C dX9_chartAt_30) <| ch_last (pc := 31) (ok_fall rfl))
  · exact (ch_cons (pc := 31) (pc' := 32) (ok_astoreRn C dX9_chartAt_31 rfl (by decide)) <| ch_cons (pc := 32) (pc' := 33) (ok_aloadRn C dX9_chartAt_32 rfl) <| ch_last (pc := 33) (ok_ifnonnull (tgt := 47) C dX9_chartAt_33 (by decide) rfl rfl))
  · exact (ch_last (pc := 36) (ok_throwW (k := 2) (text := "there is no such MAP") (names := ["java/lang/RuntimeException", "java/lang/Exception"]) C (by decide) (by decide) (by decide) (kG_in gw_473) (kG_in gw_474) (st_20 hXX).choose_spec (at_2 C.2.2.2.2.1 hXX) gd_2 hXX.2.2.1 hXX.2.2.2.1 dX9_chartAt_36 dX9_chartAt_39 dX9_chartAt_40 dX9_chartAt_43 dX9_chartAt_46 hout))
  · exact (ch_cons (pc := 47) (pc' := 48) (ok_aloadRn C dX9_chartAt_47 rfl) <| ch_last (pc := 48) (ok_areturn C hr (Or.inl ⟨_, rfl⟩) dX9_chartAt_48))
/-- Bijectory.walkerAt(I)LBijectory$Walker; -/
def bl_X9_walkerAt (tb : List (List Int32)) (cl : kCall) : List (List kOp) := [
  [oLoadI 1, tIf (fun x => decide (x < 0)) 4 1],
  [oLoadI 1, oLoadR 0, oGet 20 8 7, tCmp (fun x y => decide (y ≤ x)) 4 2],
  [oLoadI 1, oLoadR 0, oGet 20 8 3, oAlen tb, tCmp (fun x y => decide (y ≤ x)) 4 3],
  [oLoadR 0, oGet 20 8 3, oLoadI 1, oAald 20, tGo 5],
  [oS (gPush .null), tGo 5],
  [oStoreR 2, oLoadR 2, tNull 6 7],
  [tThrow 2],
  [oLoadR 2, tAret]]
set_option maxRecDepth 100000 in
set_option maxHeartbeats 4000000 in
theorem mok_X9_walkerAt {E : kE} {σ : List Nat} {l : Launch} {tb : List (List Int32)} (hE : kcl E = kCl) (hn : kn E = 20) (htb : ktb E = tb) : kMOK E (kXX (kb E) σ) σ kZs l kY kWS yX9_walkerAt (kws yX9_walkerAt cX9_walkerAt 3 (some (.object "Bijectory$Walker"))) cX9_walkerAt 3 (some (.object "Bijectory$Walker")) (fun cl => bl_X9_walkerAt tb cl) := by
  intro d cl hS p e R s m args below meth c α0 nc0 ns0 res C hf hlo hr hnm hout
  have hXX : kXX (kb E) σ s := C.2.2.2.2.2.2.1.2.2.2.2
  refine ⟨fun b => [0, 4, 12, 21, 30, 31, 36, 47].getD b 0, rfl, kAllB_get (bl := bl_X9_walkerAt tb cl) ⟨?_, ?_, ?_, ?_, ?_, ?_, ?_, ?_, trivial⟩⟩
  · exact (ch_cons (pc := 0) (pc' := 1) (ok_iloadn C dX9_walkerAt_0 rfl) <| ch_last (pc := 1) (ok_if_lt (tgt := 30) C dX9_walkerAt_1 (by decide) rfl rfl))
  · exact (ch_cons (pc := 4) (pc' := 5) (ok_iloadn C dX9_walkerAt_4 rfl) <| ch_cons (pc := 5) (pc' := 6) (ok_aloadRn C dX9_walkerAt_5 rfl) <| ch_cons (pc := 6) (pc' := 9) (ok_get C hn (fun w h => kG_in (inG_X9 w h)) (kcl_at hE 8 rfl) (by decide) (kG_in gw_296) (fun _ h => h) dX9_walkerAt_6) <| ch_last (pc := 9) (ok_icmp_ge (tgt := 30) C dX9_walkerAt_9 (by decide) rfl rfl))
  · exact (ch_cons (pc := 12) (pc' := 13) (ok_iloadn C dX9_walkerAt_12 rfl) <| ch_cons (pc := 13) (pc' := 14) (ok_aloadRn C dX9_walkerAt_13 rfl) <| ch_cons (pc := 14) (pc' := 17) (ok_get C hn (fun w h => kG_in (inG_X9 w h)) (kcl_at hE 8 rfl) (by decide) (kG_in gw_287) (fun _ h => h) dX9_walkerAt_14) <| ch_cons (pc := 17) (pc' := 18) (ok_alen C htb dX9_walkerAt_17) <| ch_last (pc := 18) (ok_icmp_ge (tgt := 30) C dX9_walkerAt_18 (by decide) rfl rfl))
  · exact (ch_cons (pc := 21) (pc' := 22) (ok_aloadRn C dX9_walkerAt_21 rfl) <| ch_cons (pc := 22) (pc' := 25) (ok_get C hn (fun w h => kG_in (inG_X9 w h)) (kcl_at hE 8 rfl) (by decide) (kG_in gw_287) (fun _ h => h) dX9_walkerAt_22) <| ch_cons (pc := 25) (pc' := 26) (ok_iloadn C dX9_walkerAt_25 rfl) <| ch_cons (pc := 26) (pc' := 27) (ok_aaload C hn dX9_walkerAt_26) <| ch_last (pc := 27) (ok_goto (tgt := 31) C dX9_walkerAt_27 (by decide) rfl))
  · exact (ch_cons (pc := 30) (pc' := 31) (ok_null C dX9_walkerAt_30) <| ch_last (pc := 31) (ok_fall rfl))
  · exact (ch_cons (pc := 31) (pc' := 32) (ok_astoreRn C dX9_walkerAt_31 rfl (by decide)) <| ch_cons (pc := 32) (pc' := 33) (ok_aloadRn C dX9_walkerAt_32 rfl) <| ch_last (pc := 33) (ok_ifnonnull (tgt := 47) C dX9_walkerAt_33 (by decide) rfl rfl))
  · exact (ch_last (pc := 36) (ok_throwW (k := 2) (text := "there is no such WALKER") (names := ["java/lang/RuntimeException", "java/lang/Exception"]) C (by decide) (by decide) (by decide) (kG_in gw_473) (kG_in gw_474) (st_21 hXX).choose_spec (at_2 C.2.2.2.2.1 hXX) gd_2 hXX.2.2.1 hXX.2.2.2.1 dX9_walkerAt_36 dX9_walkerAt_39 dX9_walkerAt_40 dX9_walkerAt_43 dX9_walkerAt_46 hout))
  · exact (ch_cons (pc := 47) (pc' := 48) (ok_aloadRn C dX9_walkerAt_47 rfl) <| ch_last (pc := 48) (ok_areturn C hr (Or.inl ⟨_, rfl⟩) dX9_walkerAt_48))
/-- Bijectory.claimAt(I)LBijectory$Claim; -/
def bl_X9_claimAt (tb : List (List Int32)) (cl : kCall) : List (List kOp) := [
  [oLoadI 1, tIf (fun x => decide (x < 0)) 4 1],
  [oLoadI 1, oLoadR 0, oGet 20 8 8, tCmp (fun x y => decide (y ≤ x)) 4 2],
  [oLoadI 1, oLoadR 0, oGet 20 8 4, oAlen tb, tCmp (fun x y => decide (y ≤ x)) 4 3],
  [oLoadR 0, oGet 20 8 4, oLoadI 1, oAald 20, tGo 5],
  [oS (gPush .null), tGo 5],
  [oStoreR 2, oLoadR 2, tNull 6 7],
  [tThrow 2],
  [oLoadR 2, tAret]]
set_option maxRecDepth 100000 in
set_option maxHeartbeats 4000000 in
theorem mok_X9_claimAt {E : kE} {σ : List Nat} {l : Launch} {tb : List (List Int32)} (hE : kcl E = kCl) (hn : kn E = 20) (htb : ktb E = tb) : kMOK E (kXX (kb E) σ) σ kZs l kY kWS yX9_claimAt (kws yX9_claimAt cX9_claimAt 3 (some (.object "Bijectory$Claim"))) cX9_claimAt 3 (some (.object "Bijectory$Claim")) (fun cl => bl_X9_claimAt tb cl) := by
  intro d cl hS p e R s m args below meth c α0 nc0 ns0 res C hf hlo hr hnm hout
  have hXX : kXX (kb E) σ s := C.2.2.2.2.2.2.1.2.2.2.2
  refine ⟨fun b => [0, 4, 12, 21, 30, 31, 36, 47].getD b 0, rfl, kAllB_get (bl := bl_X9_claimAt tb cl) ⟨?_, ?_, ?_, ?_, ?_, ?_, ?_, ?_, trivial⟩⟩
  · exact (ch_cons (pc := 0) (pc' := 1) (ok_iloadn C dX9_claimAt_0 rfl) <| ch_last (pc := 1) (ok_if_lt (tgt := 30) C dX9_claimAt_1 (by decide) rfl rfl))
  · exact (ch_cons (pc := 4) (pc' := 5) (ok_iloadn C dX9_claimAt_4 rfl) <| ch_cons (pc := 5) (pc' := 6) (ok_aloadRn C dX9_claimAt_5 rfl) <| ch_cons (pc := 6) (pc' := 9) (ok_get C hn (fun w h => kG_in (inG_X9 w h)) (kcl_at hE 8 rfl) (by decide) (kG_in gw_333) (fun _ h => h) dX9_claimAt_6) <| ch_last (pc := 9) (ok_icmp_ge (tgt := 30) C dX9_claimAt_9 (by decide) rfl rfl))
  · exact (ch_cons (pc := 12) (pc' := 13) (ok_iloadn C dX9_claimAt_12 rfl) <| ch_cons (pc := 13) (pc' := 14) (ok_aloadRn C dX9_claimAt_13 rfl) <| ch_cons (pc := 14) (pc' := 17) (ok_get C hn (fun w h => kG_in (inG_X9 w h)) (kcl_at hE 8 rfl) (by decide) (kG_in gw_289) (fun _ h => h) dX9_claimAt_14) <| ch_cons (pc := 17) (pc' := 18) (ok_alen C htb dX9_claimAt_17) <| ch_last (pc := 18) (ok_icmp_ge (tgt := 30) C dX9_claimAt_18 (by decide) rfl rfl))
  · exact (ch_cons (pc := 21) (pc' := 22) (ok_aloadRn C dX9_claimAt_21 rfl) <| ch_cons (pc := 22) (pc' := 25) (ok_get C hn (fun w h => kG_in (inG_X9 w h)) (kcl_at hE 8 rfl) (by decide) (kG_in gw_289) (fun _ h => h) dX9_claimAt_22) <| ch_cons (pc := 25) (pc' := 26) (ok_iloadn C dX9_claimAt_25 rfl) <| ch_cons (pc := 26) (pc' := 27) (ok_aaload C hn dX9_claimAt_26) <| ch_last (pc := 27) (ok_goto (tgt := 31) C dX9_claimAt_27 (by decide) rfl))
  · exact (ch_cons (pc := 30) (pc' := 31) (ok_null C dX9_claimAt_30) <| ch_last (pc := 31) (ok_fall rfl))
  · exact (ch_cons (pc := 31) (pc' := 32) (ok_astoreRn C dX9_claimAt_31 rfl (by decide)) <| ch_cons (pc := 32) (pc' := 33) (ok_aloadRn C dX9_claimAt_32 rfl) <| ch_last (pc := 33) (ok_ifnonnull (tgt := 47) C dX9_claimAt_33 (by decide) rfl rfl))
  · exact (ch_last (pc := 36) (ok_throwW (k := 2) (text := "there is no such CLAIM") (names := ["java/lang/RuntimeException", "java/lang/Exception"]) C (by decide) (by decide) (by decide) (kG_in gw_473) (kG_in gw_474) (st_22 hXX).choose_spec (at_2 C.2.2.2.2.1 hXX) gd_2 hXX.2.2.1 hXX.2.2.2.1 dX9_claimAt_36 dX9_claimAt_39 dX9_claimAt_40 dX9_claimAt_43 dX9_claimAt_46 hout))
  · exact (ch_cons (pc := 47) (pc' := 48) (ok_aloadRn C dX9_claimAt_47 rfl) <| ch_last (pc := 48) (ok_areturn C hr (Or.inl ⟨_, rfl⟩) dX9_claimAt_48))
/-- Bijectory.signOf(I)I -/
def bl_X9_signOf (tb : List (List Int32)) (cl : kCall) : List (List kOp) := [
  [oLoadI 0, oS (gPush (.int 1)), oBin (fun x y => x &&& y), tIf (fun x => !decide (x = 0)) 2 1],
  [oS (gPush (.int 1)), tGo 3],
  [oS (gPush (.int (-1))), tGo 3],
  [tIret]]
set_option maxRecDepth 100000 in
set_option maxHeartbeats 4000000 in
theorem mok_X9_signOf {E : kE} {σ : List Nat} {l : Launch} {tb : List (List Int32)} (hE : kcl E = kCl) (hn : kn E = 20) (htb : ktb E = tb) : kMOK E (kXX (kb E) σ) σ kZs l kY kWS yX9_signOf (kws yX9_signOf cX9_signOf 1 (some .int)) cX9_signOf 1 (some .int) (fun cl => bl_X9_signOf tb cl) := by
  intro d cl hS p e R s m args below meth c α0 nc0 ns0 res C hf hlo hr hnm hout
  have hXX : kXX (kb E) σ s := C.2.2.2.2.2.2.1.2.2.2.2
  refine ⟨fun b => [0, 6, 10, 11].getD b 0, rfl, kAllB_get (bl := bl_X9_signOf tb cl) ⟨?_, ?_, ?_, ?_, trivial⟩⟩
  · exact (ch_cons (pc := 0) (pc' := 1) (ok_iloadn C dX9_signOf_0 rfl) <| ch_cons (pc := 1) (pc' := 2) (ok_iconst C dX9_signOf_1 (by decide)) <| ch_cons (pc := 2) (pc' := 3) (ok_iand C dX9_signOf_2) <| ch_last (pc := 3) (ok_if_ne (tgt := 10) C dX9_signOf_3 (by decide) rfl rfl))
  · exact (ch_cons (pc := 6) (pc' := 7) (ok_iconst C dX9_signOf_6 (by decide)) <| ch_last (pc := 7) (ok_goto (tgt := 11) C dX9_signOf_7 (by decide) rfl))
  · exact (ch_cons (pc := 10) (pc' := 11) (ok_iconst C dX9_signOf_10 (by decide)) <| ch_last (pc := 11) (ok_fall rfl))
  · exact (ch_last (pc := 11) (ok_ireturn C hr dX9_signOf_11))
/-- Bijectory.patternLength(I)I -/
def bl_X9_patternLength (tb : List (List Int32)) (cl : kCall) : List (List kOp) := [
  [oS (gPush (.int 2)), oStoreI 1, tGo 1],
  [oLoadI 1, oS (gPush (.int 4)), tCmp (fun x y => decide (y < x)) 5 2],
  [oLoadI 0, oLoadI 1, oCall cl 18 2, tIf (fun x => decide (x = 0)) 4 3],
  [oLoadI 1, tIret],
  [oIinc 1 1, tGo 1],
  [oS (gPush (.int (-1))), tIret]]
set_option maxRecDepth 100000 in
set_option maxHeartbeats 4000000 in
theorem mok_X9_patternLength {E : kE} {σ : List Nat} {l : Launch} {tb : List (List Int32)} (hE : kcl E = kCl) (hn : kn E = 20) (htb : ktb E = tb) : kMOK E (kXX (kb E) σ) σ kZs l kY kWS yX9_patternLength (kws yX9_patternLength cX9_patternLength 2 (some .int)) cX9_patternLength 2 (some .int) (fun cl => bl_X9_patternLength tb cl) := by
  intro d cl hS p e R s m args below meth c α0 nc0 ns0 res C hf hlo hr hnm hout
  have hXX : kXX (kb E) σ s := C.2.2.2.2.2.2.1.2.2.2.2
  refine ⟨fun b => [0, 2, 7, 15, 17, 23].getD b 0, rfl, kAllB_get (bl := bl_X9_patternLength tb cl) ⟨?_, ?_, ?_, ?_, ?_, ?_, trivial⟩⟩
  · exact (ch_cons (pc := 0) (pc' := 1) (ok_iconst C dX9_patternLength_0 (by decide)) <| ch_cons (pc := 1) (pc' := 2) (ok_istoren C dX9_patternLength_1 rfl (by decide)) <| ch_last (pc := 2) (ok_fall rfl))
  · exact (ch_cons (pc := 2) (pc' := 3) (ok_iloadn C dX9_patternLength_2 rfl) <| ch_cons (pc := 3) (pc' := 4) (ok_iconst C dX9_patternLength_3 (by decide)) <| ch_last (pc := 4) (ok_icmp_gt (tgt := 23) C dX9_patternLength_4 (by decide) rfl rfl))
  · exact (ch_cons (pc := 7) (pc' := 8) (ok_iloadn C dX9_patternLength_7 rfl) <| ch_cons (pc := 8) (pc' := 9) (ok_iloadn C dX9_patternLength_8 rfl) <| ch_cons (pc := 9) (pc' := 12) (ok_callS (d := d) C hout hf hlo (sn_18 hS) rfl (kG_s gw_475 gw_476 gw_477 gw_46) (by decide) (by decide +kernel) dX9_patternLength_9) <| ch_last (pc := 12) (ok_if_eq (tgt := 17) C dX9_patternLength_12 (by decide) rfl rfl))
  · exact (ch_cons (pc := 15) (pc' := 16) (ok_iloadn C dX9_patternLength_15 rfl) <| ch_last (pc := 16) (ok_ireturn C hr dX9_patternLength_16))
  · exact (ch_cons (pc := 17) (pc' := 20) (ok_iinc C dX9_patternLength_17 (by decide) (by decide)) <| ch_last (pc := 20) (ok_goto (tgt := 2) C dX9_patternLength_20 (by decide) rfl))
  · exact (ch_cons (pc := 23) (pc' := 24) (ok_iconst C dX9_patternLength_23 (by decide)) <| ch_last (pc := 24) (ok_ireturn C hr dX9_patternLength_24))
/-- Bijectory.tryClaim(LBijectory$Claim;LBijectory$Chart;)Z -/
def bl_X9_tryClaim (tb : List (List Int32)) (cl : kCall) : List (List kOp) := [
  [oLoadR 0, oLoadR 2, oLoadR 1, oGet 20 4 1, oLoadR 1, oGet 20 4 2, oCallV cl 116 3 8 20, oS (gPush (.int (-1))), tCmp (fun x y => !decide (x = y)) 2 1],
  [oS (gPush (.int 1)), tGo 3],
  [oS (gPush (.int 0)), tGo 3],
  [oStoreI 3, oLoadR 1, oLoadR 0, oGet 20 8 5, oGet 20 5 0, oLoadI 3, oCallV cl 74 2 4 20, oLoadR 0, oS gDup, oGet 20 8 10, oS (gPush (.int 1)), oBin (fun x y => x + y), oPut 20 8 10 .int, oLoadI 3, tZret]]
set_option maxRecDepth 100000 in
set_option maxHeartbeats 4000000 in
theorem mok_X9_tryClaim {E : kE} {σ : List Nat} {l : Launch} {tb : List (List Int32)} (hE : kcl E = kCl) (hn : kn E = 20) (htb : ktb E = tb) : kMOK E (kXX (kb E) σ) σ kZs l kY kWS yX9_tryClaim (kws yX9_tryClaim cX9_tryClaim 4 (some .boolean)) cX9_tryClaim 4 (some .boolean) (fun cl => bl_X9_tryClaim tb cl) := by
  intro d cl hS p e R s m args below meth c α0 nc0 ns0 res C hf hlo hr hnm hout
  have hXX : kXX (kb E) σ s := C.2.2.2.2.2.2.1.2.2.2.2
  refine ⟨fun b => [0, 17, 21, 22].getD b 0, rfl, kAllB_get (bl := bl_X9_tryClaim tb cl) ⟨?_, ?_, ?_, ?_, trivial⟩⟩
  · exact (ch_cons (pc := 0) (pc' := 1) (ok_aloadRn C dX9_tryClaim_0 rfl) <| ch_cons (pc := 1) (pc' := 2) (ok_aloadRn C dX9_tryClaim_1 rfl) <| ch_cons (pc := 2) (pc' := 3) (ok_aloadRn C dX9_tryClaim_2 rfl) <| ch_cons (pc := 3) (pc' := 6) (ok_get C hn (fun w h => kG_in (inG_X1 w h)) (kcl_at hE 4 rfl) (by decide) (kG_in gw_410) (fun _ h => h) dX9_tryClaim_3) <| ch_cons (pc := 6) (pc' := 7) (ok_aloadRn C dX9_tryClaim_6 rfl) <| ch_cons (pc := 7) (pc' := 10) (ok_get C hn (fun w h => kG_in (inG_X1 w h)) (kcl_at hE 4 rfl) (by decide) (kG_in gw_411) (fun _ h => h) dX9_tryClaim_7) <| ch_cons (pc := 10) (pc' := 13) (ok_callV (d := d) (maxL := 6) C hn hout hf hlo (sn_116 hS) rfl (kcl_at hE 8 rfl) (kG_v gw_398 gw_399 gw_400 gw_401 gw_300) (by decide) (by decide +kernel) dX9_tryClaim_10) <| ch_cons (pc := 13) (pc' := 14) (ok_iconst C dX9_tryClaim_13 (by decide)) <| ch_last (pc := 14) (ok_icmp_ne (tgt := 21) C dX9_tryClaim_14 (by decide) rfl rfl))
  · exact (ch_cons (pc := 17) (pc' := 18) (ok_iconst C dX9_tryClaim_17 (by decide)) <| ch_last (pc := 18) (ok_goto (tgt := 22) C dX9_tryClaim_18 (by decide) rfl))
  · exact (ch_cons (pc := 21) (pc' := 22) (ok_iconst C dX9_tryClaim_21 (by decide)) <| ch_last (pc := 22) (ok_fall rfl))
  · exact (ch_cons (pc := 22) (pc' := 23) (ok_istoren C dX9_tryClaim_22 rfl (by decide)) <| ch_cons (pc := 23) (pc' := 24) (ok_aloadRn C dX9_tryClaim_23 rfl) <| ch_cons (pc := 24) (pc' := 25) (ok_aloadRn C dX9_tryClaim_24 rfl) <| ch_cons (pc := 25) (pc' := 28) (ok_get C hn (fun w h => kG_in (inG_X9 w h)) (kcl_at hE 8 rfl) (by decide) (kG_in gw_293) (fun _ h => h) dX9_tryClaim_25) <| ch_cons (pc := 28) (pc' := 31) (ok_get C hn (fun w h => kG_in (inG_X4 w h)) (kcl_at hE 5 rfl) (by decide) (kG_in gw_382) (fun _ h => h) dX9_tryClaim_28) <| ch_cons (pc := 31) (pc' := 32) (ok_iloadn C dX9_tryClaim_31 rfl) <| ch_cons (pc := 32) (pc' := 35) (ok_callV (d := d) (maxL := 3) C hn hout hf hlo (sn_74 hS) rfl (kcl_at hE 4 rfl) (kG_v gw_478 gw_479 gw_480 gw_481 gw_335) (by decide) (by decide +kernel) dX9_tryClaim_32) <| ch_cons (pc := 35) (pc' := 36) (ok_aloadRn C dX9_tryClaim_35 rfl) <| ch_cons (pc := 36) (pc' := 37) (ok_dup C dX9_tryClaim_36) <| ch_cons (pc := 37) (pc' := 40) (ok_get C hn (fun w h => kG_in (inG_X9 w h)) (kcl_at hE 8 rfl) (by decide) (kG_in gw_418) (fun _ h => h) dX9_tryClaim_37) <| ch_cons (pc := 40) (pc' := 41) (ok_iconst C dX9_tryClaim_40 (by decide)) <| ch_cons (pc := 41) (pc' := 42) (ok_iadd C dX9_tryClaim_41) <| ch_cons (pc := 42) (pc' := 45) (ok_put C hn (fun w h => kG_in (inG_X9 w h)) tyX9 tyX9_ok nmX9 (kcl_at hE 8 rfl) (by decide) (kG_in gw_418) (fun _ h => h) (Or.inl rfl) rfl dX9_tryClaim_42) <| ch_cons (pc := 45) (pc' := 46) (ok_iloadn C dX9_tryClaim_45 rfl) <| ch_last (pc := 46) (ok_zreturn C hr dX9_tryClaim_46))
/-- Bijectory.firstAgainst(LBijectory$Chart;II)I -/
def bl_X9_firstAgainst (tb : List (List Int32)) (cl : kCall) : List (List kOp) := [
  [oS (gPush (.int 0)), oStoreI 4, tGo 1],
  [oLoadI 4, oLoadR 0, oGet 20 8 5, oLoadR 1, oGet 20 3 0, oCallV cl 51 1 5 20, tCmp (fun x y => decide (y ≤ x)) 5 2],
  [oLoadR 0, oGet 20 8 5, oLoadR 1, oLoadI 4, oCallV cl 54 2 5 20, oStoreI 5, oLoadR 0, oGet 20 8 5, oLoadR 1, oGet 20 3 0, oLoadI 2, oLoadI 4, oCallV cl 55 3 5 20, oLoadR 0, oGet 20 8 5, oLoadR 1, oGet 20 3 1, oLoadI 3, oLoadI 5, oCallV cl 55 3 5 20, tCmp (fun x y => decide (x = y)) 4 3],
  [oLoadI 4, tIret],
  [oIinc 4 1, tGo 1],
  [oS (gPush (.int (-1))), tIret]]
set_option maxRecDepth 100000 in
set_option maxHeartbeats 4000000 in
theorem mok_X9_firstAgainst {E : kE} {σ : List Nat} {l : Launch} {tb : List (List Int32)} (hE : kcl E = kCl) (hn : kn E = 20) (htb : ktb E = tb) : kMOK E (kXX (kb E) σ) σ kZs l kY kWS yX9_firstAgainst (kws yX9_firstAgainst cX9_firstAgainst 6 (some .int)) cX9_firstAgainst 6 (some .int) (fun cl => bl_X9_firstAgainst tb cl) := by
  intro d cl hS p e R s m args below meth c α0 nc0 ns0 res C hf hlo hr hnm hout
  have hXX : kXX (kb E) σ s := C.2.2.2.2.2.2.1.2.2.2.2
  refine ⟨fun b => [0, 3, 19, 62, 65, 71].getD b 0, rfl, kAllB_get (bl := bl_X9_firstAgainst tb cl) ⟨?_, ?_, ?_, ?_, ?_, ?_, trivial⟩⟩
  · exact (ch_cons (pc := 0) (pc' := 1) (ok_iconst C dX9_firstAgainst_0 (by decide)) <| ch_cons (pc := 1) (pc' := 3) (ok_istore C dX9_firstAgainst_1 (by decide)) <| ch_last (pc := 3) (ok_fall rfl))
  · exact (ch_cons (pc := 3) (pc' := 5) (ok_iload C dX9_firstAgainst_3) <| ch_cons (pc := 5) (pc' := 6) (ok_aloadRn C dX9_firstAgainst_5 rfl) <| ch_cons (pc := 6) (pc' := 9) (ok_get C hn (fun w h => kG_in (inG_X9 w h)) (kcl_at hE 8 rfl) (by decide) (kG_in gw_293) (fun _ h => h) dX9_firstAgainst_6) <| ch_cons (pc := 9) (pc' := 10) (ok_aloadRn C dX9_firstAgainst_9 rfl) <| ch_cons (pc := 10) (pc' := 13) (ok_get C hn (fun w h => kG_in (inG_X0 w h)) (kcl_at hE 3 rfl) (by decide) (kG_in gw_347) (fun _ h => h) dX9_firstAgainst_10) <| ch_cons (pc := 13) (pc' := 16) (ok_callV (d := d) (maxL := 2) C hn hout hf hlo (sn_51 hS) rfl (kcl_at hE 5 rfl) (kG_v gw_147 gw_363 gw_149 gw_150 gw_118) (by decide) (by decide +kernel) dX9_firstAgainst_13) <| ch_last (pc := 16) (ok_icmp_ge (tgt := 71) C dX9_firstAgainst_16 (by decide) rfl rfl))
  · exact (ch_cons (pc := 19) (pc' := 20) (ok_aloadRn C dX9_firstAgainst_19 rfl) <| ch_cons (pc := 20) (pc' := 23) (ok_get C hn (fun w h => kG_in (inG_X9 w h)) (kcl_at hE 8 rfl) (by decide) (kG_in gw_293) (fun _ h => h) dX9_firstAgainst_20) <| ch_cons (pc := 23) (pc' := 24) (ok_aloadRn C dX9_firstAgainst_23 rfl) <| ch_cons (pc := 24) (pc' := 26) (ok_iload C dX9_firstAgainst_24) <| ch_cons (pc := 26) (pc' := 29) (ok_callV (d := d) (maxL := 5) C hn hout hf hlo (sn_54 hS) rfl (kcl_at hE 5 rfl) (kG_v gw_220 gw_351 gw_222 gw_223 gw_118) (by decide) (by decide +kernel) dX9_firstAgainst_26) <| ch_cons (pc := 29) (pc' := 31) (ok_istore C dX9_firstAgainst_29 (by decide)) <| ch_cons (pc := 31) (pc' := 32) (ok_aloadRn C dX9_firstAgainst_31 rfl) <| ch_cons (pc := 32) (pc' := 35) (ok_get C hn (fun w h => kG_in (inG_X9 w h)) (kcl_at hE 8 rfl) (by decide) (kG_in gw_293) (fun _ h => h) dX9_firstAgainst_32) <| ch_cons (pc := 35) (pc' := 36) (ok_aloadRn C dX9_firstAgainst_35 rfl) <| ch_cons (pc := 36) (pc' := 39) (ok_get C hn (fun w h => kG_in (inG_X0 w h)) (kcl_at hE 3 rfl) (by decide) (kG_in gw_347) (fun _ h => h) dX9_firstAgainst_36) <| ch_cons (pc := 39) (pc' := 40) (ok_iloadn C dX9_firstAgainst_39 rfl) <| ch_cons (pc := 40) (pc' := 42) (ok_iload C dX9_firstAgainst_40) <| ch_cons (pc := 42) (pc' := 45) (ok_callV (d := d) (maxL := 4) C hn hout hf hlo (sn_55 hS) rfl (kcl_at hE 5 rfl) (kG_v gw_368 gw_369 gw_370 gw_371 gw_118) (by decide) (by decide +kernel) dX9_firstAgainst_42) <| ch_cons (pc := 45) (pc' := 46) (ok_aloadRn C dX9_firstAgainst_45 rfl) <| ch_cons (pc := 46) (pc' := 49) (ok_get C hn (fun w h => kG_in (inG_X9 w h)) (kcl_at hE 8 rfl) (by decide) (kG_in gw_293) (fun _ h => h) dX9_firstAgainst_46) <| ch_cons (pc := 49) (pc' := 50) (ok_aloadRn C dX9_firstAgainst_49 rfl) <| ch_cons (pc := 50) (pc' := 53) (ok_get C hn (fun w h => kG_in (inG_X0 w h)) (kcl_at hE 3 rfl) (by decide) (kG_in gw_316) (fun _ h => h) dX9_firstAgainst_50) <| ch_cons (pc := 53) (pc' := 54) (ok_iloadn C dX9_firstAgainst_53 rfl) <| ch_cons (pc := 54) (pc' := 56) (ok_iload C dX9_firstAgainst_54) <| ch_cons (pc := 56) (pc' := 59) (ok_callV (d := d) (maxL := 4) C hn hout hf hlo (sn_55 hS) rfl (kcl_at hE 5 rfl) (kG_v gw_368 gw_369 gw_370 gw_371 gw_118) (by decide) (by decide +kernel) dX9_firstAgainst_56) <| ch_last (pc := 59) (ok_icmp_eq (tgt := 65) C dX9_firstAgainst_59 (by decide) rfl rfl))
  · exact (ch_cons (pc := 62) (pc' := 64) (ok_iload C dX9_firstAgainst_62) <| ch_last (pc := 64) (ok_ireturn C hr dX9_firstAgainst_64))
  · exact (ch_cons (pc := 65) (pc' := 68) (ok_iinc C dX9_firstAgainst_65 (by decide) (by decide)) <| ch_last (pc := 68) (ok_goto (tgt := 3) C dX9_firstAgainst_68 (by decide) rfl))
  · exact (ch_cons (pc := 71) (pc' := 72) (ok_iconst C dX9_firstAgainst_71 (by decide)) <| ch_last (pc := 72) (ok_ireturn C hr dX9_firstAgainst_72))
/-- Bijectory.isPairedOff(LBijectory$Chart;II)Z -/
def bl_X9_isPairedOff (tb : List (List Int32)) (cl : kCall) : List (List kOp) := [
  [oLoadR 0, oGet 20 8 5, oLoadR 1, oLoadI 3, oCallV cl 54 2 5 20, oStoreI 4, oLoadI 4, oLoadI 3, tCmp (fun x y => !decide (x = y)) 2 1],
  [oS (gPush (.int 1)), tZret],
  [oLoadR 1, oGet 20 3 0, oStoreI 5, oLoadR 0, oGet 20 8 5, oLoadR 1, oLoadI 4, oCallV cl 54 2 5 20, oLoadI 3, tCmp (fun x y => !decide (x = y)) 5 3],
  [oLoadR 0, oGet 20 8 5, oLoadI 5, oLoadI 2, oLoadI 3, oCallV cl 55 3 5 20, oCall cl 113 1, oLoadR 0, oGet 20 8 5, oLoadI 5, oLoadI 2, oLoadI 4, oCallV cl 55 3 5 20, oCall cl 113 1, tCmp (fun x y => decide (x = y)) 5 4],
  [oS (gPush (.int 1)), tGo 6],
  [oS (gPush (.int 0)), tGo 6],
  [tZret]]
set_option maxRecDepth 100000 in
set_option maxHeartbeats 4000000 in
theorem mok_X9_isPairedOff {E : kE} {σ : List Nat} {l : Launch} {tb : List (List Int32)} (hE : kcl E = kCl) (hn : kn E = 20) (htb : ktb E = tb) : kMOK E (kXX (kb E) σ) σ kZs l kY kWS yX9_isPairedOff (kws yX9_isPairedOff cX9_isPairedOff 6 (some .boolean)) cX9_isPairedOff 6 (some .boolean) (fun cl => bl_X9_isPairedOff tb cl) := by
  intro d cl hS p e R s m args below meth c α0 nc0 ns0 res C hf hlo hr hnm hout
  have hXX : kXX (kb E) σ s := C.2.2.2.2.2.2.1.2.2.2.2
  refine ⟨fun b => [0, 17, 19, 39, 71, 75, 76].getD b 0, rfl, kAllB_get (bl := bl_X9_isPairedOff tb cl) ⟨?_, ?_, ?_, ?_, ?_, ?_, ?_, trivial⟩⟩
  · exact (ch_cons (pc := 0) (pc' := 1) (ok_aloadRn C dX9_isPairedOff_0 rfl) <| ch_cons (pc := 1) (pc' := 4) (ok_get C hn (fun w h => kG_in (inG_X9 w h)) (kcl_at hE 8 rfl) (by decide) (kG_in gw_293) (fun _ h => h) dX9_isPairedOff_1) <| ch_cons (pc := 4) (pc' := 5) (ok_aloadRn C dX9_isPairedOff_4 rfl) <| ch_cons (pc := 5) (pc' := 6) (ok_iloadn C dX9_isPairedOff_5 rfl) <| ch_cons (pc := 6) (pc' := 9) (ok_callV (d := d) (maxL := 5) C hn hout hf hlo (sn_54 hS) rfl (kcl_at hE 5 rfl) (kG_v gw_220 gw_351 gw_222 gw_223 gw_118) (by decide) (by decide +kernel) dX9_isPairedOff_6) <| ch_cons (pc := 9) (pc' := 11) (ok_istore C dX9_isPairedOff_9 (by decide)) <| ch_cons (pc := 11) (pc' := 13) (ok_iload C dX9_isPairedOff_11) <| ch_cons (pc := 13) (pc' := 14) (ok_iloadn C dX9_isPairedOff_13 rfl) <| ch_last (pc := 14) (ok_icmp_ne (tgt := 19) C dX9_isPairedOff_14 (by decide) rfl rfl))
  · exact (ch_cons (pc := 17) (pc' := 18) (ok_iconst C dX9_isPairedOff_17 (by decide)) <| ch_last (pc := 18) (ok_zreturn C hr dX9_isPairedOff_18))
  · exact (ch_cons (pc := 19) (pc' := 20) (ok_aloadRn C dX9_isPairedOff_19 rfl) <| ch_cons (pc := 20) (pc' := 23) (ok_get C hn (fun w h => kG_in (inG_X0 w h)) (kcl_at hE 3 rfl) (by decide) (kG_in gw_347) (fun _ h => h) dX9_isPairedOff_20) <| ch_cons (pc := 23) (pc' := 25) (ok_istore C dX9_isPairedOff_23 (by decide)) <| ch_cons (pc := 25) (pc' := 26) (ok_aloadRn C dX9_isPairedOff_25 rfl) <| ch_cons (pc := 26) (pc' := 29) (ok_get C hn (fun w h => kG_in (inG_X9 w h)) (kcl_at hE 8 rfl) (by decide) (kG_in gw_293) (fun _ h => h) dX9_isPairedOff_26) <| ch_cons (pc := 29) (pc' := 30) (ok_aloadRn C dX9_isPairedOff_29 rfl) <| ch_cons (pc := 30) (pc' := 32) (ok_iload C dX9_isPairedOff_30) <| ch_cons (pc := 32) (pc' := 35) (ok_callV (d := d) (maxL := 5) C hn hout hf hlo (sn_54 hS) rfl (kcl_at hE 5 rfl) (kG_v gw_220 gw_351 gw_222 gw_223 gw_118) (by decide) (by decide +kernel) dX9_isPairedOff_32) <| ch_cons (pc := 35) (pc' := 36) (ok_iloadn C dX9_isPairedOff_35 rfl) <| ch_last (pc := 36) (ok_icmp_ne (tgt := 75) C dX9_isPairedOff_36 (by decide) rfl rfl))
  · exact (ch_cons (pc := 39) (pc' := 40) (ok_aloadRn C dX9_isPairedOff_39 rfl) <| ch_cons (pc := 40) (pc' := 43) (ok_get C hn (fun w h => kG_in (inG_X9 w h)) (kcl_at hE 8 rfl) (by decide) (kG_in gw_293) (fun _ h => h) dX9_isPairedOff_40) <| ch_cons (pc := 43) (pc' := 45) (ok_iload C dX9_isPairedOff_43) <| ch_cons (pc := 45) (pc' := 46) (ok_iloadn C dX9_isPairedOff_45 rfl) <| ch_cons (pc := 46) (pc' := 47) (ok_iloadn C dX9_isPairedOff_46 rfl) <| ch_cons (pc := 47) (pc' := 50) (ok_callV (d := d) (maxL := 4) C hn hout hf hlo (sn_55 hS) rfl (kcl_at hE 5 rfl) (kG_v gw_368 gw_369 gw_370 gw_371 gw_118) (by decide) (by decide +kernel) dX9_isPairedOff_47) <| ch_cons (pc := 50) (pc' := 53) (ok_callS (d := d) C hout hf hlo (sn_113 hS) rfl (kG_s gw_376 gw_377 gw_378 gw_300) (by decide) (by decide +kernel) dX9_isPairedOff_50) <| ch_cons (pc := 53) (pc' := 54) (ok_aloadRn C dX9_isPairedOff_53 rfl) <| ch_cons (pc := 54) (pc' := 57) (ok_get C hn (fun w h => kG_in (inG_X9 w h)) (kcl_at hE 8 rfl) (by decide) (kG_in gw_293) (fun _ h => h) dX9_isPairedOff_54) <| ch_cons (pc := 57) (pc' := 59) (ok_iload C dX9_isPairedOff_57) <| ch_cons (pc := 59) (pc' := 60) (ok_iloadn C dX9_isPairedOff_59 rfl) <| ch_cons (pc := 60) (pc' := 62) (ok_iload C dX9_isPairedOff_60) <| ch_cons (pc := 62) (pc' := 65) (ok_callV (d := d) (maxL := 4) C hn hout hf hlo (sn_55 hS) rfl (kcl_at hE 5 rfl) (kG_v gw_368 gw_369 gw_370 gw_371 gw_118) (by decide) (by decide +kernel) dX9_isPairedOff_62) <| ch_cons (pc := 65) (pc' := 68) (ok_callS (d := d) C hout hf hlo (sn_113 hS) rfl (kG_s gw_376 gw_377 gw_378 gw_300) (by decide) (by decide +kernel) dX9_isPairedOff_65) <| ch_last (pc := 68) (ok_icmp_eq (tgt := 75) C dX9_isPairedOff_68 (by decide) rfl rfl))
  · exact (ch_cons (pc := 71) (pc' := 72) (ok_iconst C dX9_isPairedOff_71 (by decide)) <| ch_last (pc := 72) (ok_goto (tgt := 76) C dX9_isPairedOff_72 (by decide) rfl))
  · exact (ch_cons (pc := 75) (pc' := 76) (ok_iconst C dX9_isPairedOff_75 (by decide)) <| ch_last (pc := 76) (ok_fall rfl))
  · exact (ch_last (pc := 76) (ok_zreturn C hr dX9_isPairedOff_76))
/-- Bijectory.refutedClaims()I -/
def bl_X9_refutedClaims (tb : List (List Int32)) (cl : kCall) : List (List kOp) := [
  [oS (gPush (.int 0)), oStoreI 1, oS (gPush (.int 0)), oStoreI 2, tGo 1],
  [oLoadI 2, oLoadR 0, oGet 20 8 8, tCmp (fun x y => decide (y ≤ x)) 5 2],
  [oLoadR 0, oLoadI 2, oCallV cl 112 1 8 20, oGet 20 4 4, tIf (fun x => decide (x = 0)) 4 3],
  [oIinc 1 1, tGo 4],
  [oIinc 2 1, tGo 1],
  [oLoadI 1, tIret]]
set_option maxRecDepth 100000 in
set_option maxHeartbeats 4000000 in
theorem mok_X9_refutedClaims {E : kE} {σ : List Nat} {l : Launch} {tb : List (List Int32)} (hE : kcl E = kCl) (hn : kn E = 20) (htb : ktb E = tb) : kMOK E (kXX (kb E) σ) σ kZs l kY kWS yX9_refutedClaims (kws yX9_refutedClaims cX9_refutedClaims 3 (some .int)) cX9_refutedClaims 3 (some .int) (fun cl => bl_X9_refutedClaims tb cl) := by
  intro d cl hS p e R s m args below meth c α0 nc0 ns0 res C hf hlo hr hnm hout
  have hXX : kXX (kb E) σ s := C.2.2.2.2.2.2.1.2.2.2.2
  refine ⟨fun b => [0, 4, 12, 23, 26, 32].getD b 0, rfl, kAllB_get (bl := bl_X9_refutedClaims tb cl) ⟨?_, ?_, ?_, ?_, ?_, ?_, trivial⟩⟩
  · exact (ch_cons (pc := 0) (pc' := 1) (ok_iconst C dX9_refutedClaims_0 (by decide)) <| ch_cons (pc := 1) (pc' := 2) (ok_istoren C dX9_refutedClaims_1 rfl (by decide)) <| ch_cons (pc := 2) (pc' := 3) (ok_iconst C dX9_refutedClaims_2 (by decide)) <| ch_cons (pc := 3) (pc' := 4) (ok_istoren C dX9_refutedClaims_3 rfl (by decide)) <| ch_last (pc := 4) (ok_fall rfl))
  · exact (ch_cons (pc := 4) (pc' := 5) (ok_iloadn C dX9_refutedClaims_4 rfl) <| ch_cons (pc := 5) (pc' := 6) (ok_aloadRn C dX9_refutedClaims_5 rfl) <| ch_cons (pc := 6) (pc' := 9) (ok_get C hn (fun w h => kG_in (inG_X9 w h)) (kcl_at hE 8 rfl) (by decide) (kG_in gw_333) (fun _ h => h) dX9_refutedClaims_6) <| ch_last (pc := 9) (ok_icmp_ge (tgt := 32) C dX9_refutedClaims_9 (by decide) rfl rfl))
  · exact (ch_cons (pc := 12) (pc' := 13) (ok_aloadRn C dX9_refutedClaims_12 rfl) <| ch_cons (pc := 13) (pc' := 14) (ok_iloadn C dX9_refutedClaims_13 rfl) <| ch_cons (pc := 14) (pc' := 17) (ok_callV (d := d) (maxL := 3) C hn hout hf hlo (sn_112 hS) rfl (kcl_at hE 8 rfl) (kG_v gw_358 gw_359 gw_360 gw_361 gw_300) (by decide) (by decide +kernel) dX9_refutedClaims_14) <| ch_cons (pc := 17) (pc' := 20) (ok_get C hn (fun w h => kG_in (inG_X1 w h)) (kcl_at hE 4 rfl) (by decide) (kG_in gw_413) (fun _ h => h) dX9_refutedClaims_17) <| ch_last (pc := 20) (ok_if_eq (tgt := 26) C dX9_refutedClaims_20 (by decide) rfl rfl))
  · exact (ch_cons (pc := 23) (pc' := 26) (ok_iinc C dX9_refutedClaims_23 (by decide) (by decide)) <| ch_last (pc := 26) (ok_fall rfl))
  · exact (ch_cons (pc := 26) (pc' := 29) (ok_iinc C dX9_refutedClaims_26 (by decide) (by decide)) <| ch_last (pc := 29) (ok_goto (tgt := 4) C dX9_refutedClaims_29 (by decide) rfl))
  · exact (ch_cons (pc := 32) (pc' := 33) (ok_iloadn C dX9_refutedClaims_32 rfl) <| ch_last (pc := 33) (ok_ireturn C hr dX9_refutedClaims_33))
/-- BijectoryModel$Walker.<init>(II)V -/
def bl_X11_init (tb : List (List Int32)) (cl : kCall) : List (List kOp) := [
  [oLoadR 0, oObj, oLoadR 0, oLoadI 1, oPut 20 10 0 .int, oLoadR 0, oLoadI 2, oPut 20 10 1 .int, oLoadR 0, oLoadI 1, oPut 20 10 2 .int, oLoadR 0, oLoadI 2, oPut 20 10 3 .int, tVret]]
set_option maxRecDepth 100000 in
set_option maxHeartbeats 4000000 in
theorem mok_X11_init {E : kE} {σ : List Nat} {l : Launch} {tb : List (List Int32)} (hE : kcl E = kCl) (hn : kn E = 20) (htb : ktb E = tb) : kMOK E (kXX (kb E) σ) σ kZs l kY kWS yX11_init (kws yX11_init cX11_init 3 none) cX11_init 3 none (fun cl => bl_X11_init tb cl) := by
  intro d cl hS p e R s m args below meth c α0 nc0 ns0 res C hf hlo hr hnm hout
  have hXX : kXX (kb E) σ s := C.2.2.2.2.2.2.1.2.2.2.2
  refine ⟨fun b => [0].getD b 0, rfl, kAllB_get (bl := bl_X11_init tb cl) ⟨?_, trivial⟩⟩
  · exact (ch_cons (pc := 0) (pc' := 1) (ok_aloadRn C dX11_init_0 rfl) <| ch_cons (pc := 1) (pc' := 4) (ok_obj C (kG_in gw_482) (kG_in gw_104) (kG_in gw_105) dX11_init_1) <| ch_cons (pc := 4) (pc' := 5) (ok_aloadRn C dX11_init_4 rfl) <| ch_cons (pc := 5) (pc' := 6) (ok_iloadn C dX11_init_5 rfl) <| ch_cons (pc := 6) (pc' := 9) (ok_put C hn (fun w h => kG_in (inG_X11 w h)) tyX11 tyX11_ok nmX11 (kcl_at hE 10 rfl) (by decide) (kG_in gw_483) (fun _ h => h) (Or.inl rfl) rfl dX11_init_6) <| ch_cons (pc := 9) (pc' := 10) (ok_aloadRn C dX11_init_9 rfl) <| ch_cons (pc := 10) (pc' := 11) (ok_iloadn C dX11_init_10 rfl) <| ch_cons (pc := 11) (pc' := 14) (ok_put C hn (fun w h => kG_in (inG_X11 w h)) tyX11 tyX11_ok nmX11 (kcl_at hE 10 rfl) (by decide) (kG_in gw_484) (fun _ h => h) (Or.inl rfl) rfl dX11_init_11) <| ch_cons (pc := 14) (pc' := 15) (ok_aloadRn C dX11_init_14 rfl) <| ch_cons (pc := 15) (pc' := 16) (ok_iloadn C dX11_init_15 rfl) <| ch_cons (pc := 16) (pc' := 19) (ok_put C hn (fun w h => kG_in (inG_X11 w h)) tyX11 tyX11_ok nmX11 (kcl_at hE 10 rfl) (by decide) (kG_in gw_485) (fun _ h => h) (Or.inr ⟨rfl, hnm, rfl⟩) rfl dX11_init_16) <| ch_cons (pc := 19) (pc' := 20) (ok_aloadRn C dX11_init_19 rfl) <| ch_cons (pc := 20) (pc' := 21) (ok_iloadn C dX11_init_20 rfl) <| ch_cons (pc := 21) (pc' := 24) (ok_put C hn (fun w h => kG_in (inG_X11 w h)) tyX11 tyX11_ok nmX11 (kcl_at hE 10 rfl) (by decide) (kG_in gw_486) (fun _ h => h) (Or.inr ⟨rfl, hnm, rfl⟩) rfl dX11_init_21) <| ch_last (pc := 24) (ok_return C hr dX11_init_24))
/-- BijectoryModel.isIn(III)Z -/
def bl_X12_isIn (tb : List (List Int32)) (cl : kCall) : List (List kOp) := [
  [oLoadI 0, oLoadI 1, tCmp (fun x y => decide (x < y)) 3 1],
  [oLoadI 0, oLoadI 2, tCmp (fun x y => decide (y < x)) 3 2],
  [oS (gPush (.int 1)), tGo 4],
  [oS (gPush (.int 0)), tGo 4],
  [tZret]]
set_option maxRecDepth 100000 in
set_option maxHeartbeats 4000000 in
theorem mok_X12_isIn {E : kE} {σ : List Nat} {l : Launch} {tb : List (List Int32)} (hE : kcl E = kCl) (hn : kn E = 20) (htb : ktb E = tb) : kMOK E (kXX (kb E) σ) σ kZs l kY kWS yX12_isIn (kws yX12_isIn cX12_isIn 3 (some .boolean)) cX12_isIn 3 (some .boolean) (fun cl => bl_X12_isIn tb cl) := by
  intro d cl hS p e R s m args below meth c α0 nc0 ns0 res C hf hlo hr hnm hout
  have hXX : kXX (kb E) σ s := C.2.2.2.2.2.2.1.2.2.2.2
  refine ⟨fun b => [0, 5, 10, 14, 15].getD b 0, rfl, kAllB_get (bl := bl_X12_isIn tb cl) ⟨?_, ?_, ?_, ?_, ?_, trivial⟩⟩
  · exact (ch_cons (pc := 0) (pc' := 1) (ok_iloadn C dX12_isIn_0 rfl) <| ch_cons (pc := 1) (pc' := 2) (ok_iloadn C dX12_isIn_1 rfl) <| ch_last (pc := 2) (ok_icmp_lt (tgt := 14) C dX12_isIn_2 (by decide) rfl rfl))
  · exact (ch_cons (pc := 5) (pc' := 6) (ok_iloadn C dX12_isIn_5 rfl) <| ch_cons (pc := 6) (pc' := 7) (ok_iloadn C dX12_isIn_6 rfl) <| ch_last (pc := 7) (ok_icmp_gt (tgt := 14) C dX12_isIn_7 (by decide) rfl rfl))
  · exact (ch_cons (pc := 10) (pc' := 11) (ok_iconst C dX12_isIn_10 (by decide)) <| ch_last (pc := 11) (ok_goto (tgt := 15) C dX12_isIn_11 (by decide) rfl))
  · exact (ch_cons (pc := 14) (pc' := 15) (ok_iconst C dX12_isIn_14 (by decide)) <| ch_last (pc := 15) (ok_fall rfl))
  · exact (ch_last (pc := 15) (ok_zreturn C hr dX12_isIn_15))
/-- BijectoryModel.<init>()V -/
def bl_X12_init (tb : List (List Int32)) (cl : kCall) : List (List kOp) := [
  [oLoadR 0, oObj, oLoadR 0, oS (gPush (.int 3)), oNewq 20 104, oPut 20 11 2 (.array (.array .int)), oLoadR 0, oNew 20 2 3 [.int 0, .null, .int 0], oS gDup, oCallI cl 185 0, oPut 20 11 3 (.object "java/util/ArrayList"), oLoadR 0, oNew 20 2 3 [.int 0, .null, .int 0], oS gDup, oCallI cl 185 0, oPut 20 11 4 (.object "java/util/ArrayList"), oLoadR 0, oNew 20 2 3 [.int 0, .null, .int 0], oS gDup, oCallI cl 185 0, oPut 20 11 5 (.object "java/util/ArrayList"), oLoadR 0, oS (gPush (.int 6)), oNewa 20 100, oPut 20 11 8 (.array .int), oLoadR 0, oS (gPush (.int 6)), oNewa 20 100, oPut 20 11 9 (.array .int), oLoadR 0, oS (gPush (.int 6)), oNewa 20 100, oPut 20 11 10 (.array .int), oLoadR 0, oS (gPush (.int 3)), oCallV cl 128 1 11 20, tVret]]
set_option maxRecDepth 100000 in
set_option maxHeartbeats 4000000 in
theorem mok_X12_init {E : kE} {σ : List Nat} {l : Launch} {tb : List (List Int32)} (hE : kcl E = kCl) (hn : kn E = 20) (htb : ktb E = tb) : kMOK E (kXX (kb E) σ) σ kZs l kY kWS yX12_init (kws yX12_init cX12_init 1 none) cX12_init 1 none (fun cl => bl_X12_init tb cl) := by
  intro d cl hS p e R s m args below meth c α0 nc0 ns0 res C hf hlo hr hnm hout
  have hXX : kXX (kb E) σ s := C.2.2.2.2.2.2.1.2.2.2.2
  refine ⟨fun b => [0].getD b 0, rfl, kAllB_get (bl := bl_X12_init tb cl) ⟨?_, trivial⟩⟩
  · exact (ch_cons (pc := 0) (pc' := 1) (ok_aloadRn C dX12_init_0 rfl) <| ch_cons (pc := 1) (pc' := 4) (ok_obj C (kG_in gw_487) (kG_in gw_104) (kG_in gw_105) dX12_init_1) <| ch_cons (pc := 4) (pc' := 5) (ok_aloadRn C dX12_init_4 rfl) <| ch_cons (pc := 5) (pc' := 6) (ok_iconst C dX12_init_5 (by decide)) <| ch_cons (pc := 6) (pc' := 9) (ok_newqA C hn (kG_in gw_488) (xw_5 hXX) dX12_init_6) <| ch_cons (pc := 9) (pc' := 12) (ok_put C hn (fun w h => kG_in (inG_X12 w h)) tyX12 tyX12_ok nmX12 (kcl_at hE 11 rfl) (by decide) (kG_in gw_489) (fun _ h => h) (Or.inr ⟨rfl, hnm, rfl⟩) rfl dX12_init_9) <| ch_cons (pc := 12) (pc' := 13) (ok_aloadRn C dX12_init_12 rfl) <| ch_cons (pc := 13) (pc' := 16) (ok_new C hn (fun w h => kG_in (inG_Jx4a65c w h)) tyJx4a65c tyJx4a65c_ok (kcl_at hE 2 rfl) (kG_in gw_490) (kG_in gw_491) (kG_in gw_492) rfl dX12_init_13) <| ch_cons (pc := 16) (pc' := 17) (ok_dup C dX12_init_16) <| ch_cons (pc := 17) (pc' := 20) (ok_callI (d := d) C hout hf hlo (sn_185 hS) rfl (kG_ws gw_493) (kG_in gw_492) (kG_in gw_494) (kG_in gw_495) rfl (by decide) (by decide +kernel) dX12_init_17) <| ch_cons (pc := 20) (pc' := 23) (ok_put C hn (fun w h => kG_in (inG_X12 w h)) tyX12 tyX12_ok nmX12 (kcl_at hE 11 rfl) (by decide) (kG_in gw_496) (fun _ h => h) (Or.inr ⟨rfl, hnm, rfl⟩) rfl dX12_init_20) <| ch_cons (pc := 23) (pc' := 24) (ok_aloadRn C dX12_init_23 rfl) <| ch_cons (pc := 24) (pc' := 27) (ok_new C hn (fun w h => kG_in (inG_Jx4a65c w h)) tyJx4a65c tyJx4a65c_ok (kcl_at hE 2 rfl) (kG_in gw_490) (kG_in gw_491) (kG_in gw_492) rfl dX12_init_24) <| ch_cons (pc := 27) (pc' := 28) (ok_dup C dX12_init_27) <| ch_cons (pc := 28) (pc' := 31) (ok_callI (d := d) C hout hf hlo (sn_185 hS) rfl (kG_ws gw_493) (kG_in gw_492) (kG_in gw_494) (kG_in gw_495) rfl (by decide) (by decide +kernel) dX12_init_28) <| ch_cons (pc := 31) (pc' := 34) (ok_put C hn (fun w h => kG_in (inG_X12 w h)) tyX12 tyX12_ok nmX12 (kcl_at hE 11 rfl) (by decide) (kG_in gw_497) (fun _ h => h) (Or.inr ⟨rfl, hnm, rfl⟩) rfl dX12_init_31) <| ch_cons (pc := 34) (pc' := 35) (ok_aloadRn C dX12_init_34 rfl) <| ch_cons (pc := 35) (pc' := 38) (ok_new C hn (fun w h => kG_in (inG_Jx4a65c w h)) tyJx4a65c tyJx4a65c_ok (kcl_at hE 2 rfl) (kG_in gw_490) (kG_in gw_491) (kG_in gw_492) rfl dX12_init_35) <| ch_cons (pc := 38) (pc' := 39) (ok_dup C dX12_init_38) <| ch_cons (pc := 39) (pc' := 42) (ok_callI (d := d) C hout hf hlo (sn_185 hS) rfl (kG_ws gw_493) (kG_in gw_492) (kG_in gw_494) (kG_in gw_495) rfl (by decide) (by decide +kernel) dX12_init_39) <| ch_cons (pc := 42) (pc' := 45) (ok_put C hn (fun w h => kG_in (inG_X12 w h)) tyX12 tyX12_ok nmX12 (kcl_at hE 11 rfl) (by decide) (kG_in gw_498) (fun _ h => h) (Or.inr ⟨rfl, hnm, rfl⟩) rfl dX12_init_42) <| ch_cons (pc := 45) (pc' := 46) (ok_aloadRn C dX12_init_45 rfl) <| ch_cons (pc := 46) (pc' := 48) (ok_bipush C dX12_init_46 (by decide)) <| ch_cons (pc := 48) (pc' := 50) (ok_newa C hn (by decide) rfl rfl (by decide) (fun _ h => by cases h) (kG_in gw_109) dX12_init_48) <| ch_cons (pc := 50) (pc' := 53) (ok_put C hn (fun w h => kG_in (inG_X12 w h)) tyX12 tyX12_ok nmX12 (kcl_at hE 11 rfl) (by decide) (kG_in gw_499) (fun _ h => h) (Or.inr ⟨rfl, hnm, rfl⟩) rfl dX12_init_50) <| ch_cons (pc := 53) (pc' := 54) (ok_aloadRn C dX12_init_53 rfl) <| ch_cons (pc := 54) (pc' := 56) (ok_bipush C dX12_init_54 (by decide)) <| ch_cons (pc := 56) (pc' := 58) (ok_newa C hn (by decide) rfl rfl (by decide) (fun _ h => by cases h) (kG_in gw_109) dX12_init_56) <| ch_cons (pc := 58) (pc' := 61) (ok_put C hn (fun w h => kG_in (inG_X12 w h)) tyX12 tyX12_ok nmX12 (kcl_at hE 11 rfl) (by decide) (kG_in gw_500) (fun _ h => h) (Or.inr ⟨rfl, hnm, rfl⟩) rfl dX12_init_58) <| ch_cons (pc := 61) (pc' := 62) (ok_aloadRn C dX12_init_61 rfl) <| ch_cons (pc := 62) (pc' := 64) (ok_bipush C dX12_init_62 (by decide)) <| ch_cons (pc := 64) (pc' := 66) (ok_newa C hn (by decide) rfl rfl (by decide) (fun _ h => by cases h) (kG_in gw_109) dX12_init_64) <| ch_cons (pc := 66) (pc' := 69) (ok_put C hn (fun w h => kG_in (inG_X12 w h)) tyX12 tyX12_ok nmX12 (kcl_at hE 11 rfl) (by decide) (kG_in gw_501) (fun _ h => h) (Or.inr ⟨rfl, hnm, rfl⟩) rfl dX12_init_66) <| ch_cons (pc := 69) (pc' := 70) (ok_aloadRn C dX12_init_69 rfl) <| ch_cons (pc := 70) (pc' := 71) (ok_iconst C dX12_init_70 (by decide)) <| ch_cons (pc := 71) (pc' := 74) (ok_callV (d := d) (maxL := 6) C hn hout hf hlo (sn_128 hS) rfl (kcl_at hE 11 rfl) (kG_v gw_502 gw_503 gw_504 gw_505 gw_506) (by decide) (by decide +kernel) dX12_init_71) <| ch_last (pc := 74) (ok_return C hr dX12_init_74))
/-- BijectoryModel.thrown()I -/
def bl_X12_thrown (tb : List (List Int32)) (cl : kCall) : List (List kOp) := [
  [oLoadR 0, oGet 20 11 0, tIret]]
set_option maxRecDepth 100000 in
set_option maxHeartbeats 4000000 in
theorem mok_X12_thrown {E : kE} {σ : List Nat} {l : Launch} {tb : List (List Int32)} (hE : kcl E = kCl) (hn : kn E = 20) (htb : ktb E = tb) : kMOK E (kXX (kb E) σ) σ kZs l kY kWS yX12_thrown (kws yX12_thrown cX12_thrown 1 (some .int)) cX12_thrown 1 (some .int) (fun cl => bl_X12_thrown tb cl) := by
  intro d cl hS p e R s m args below meth c α0 nc0 ns0 res C hf hlo hr hnm hout
  have hXX : kXX (kb E) σ s := C.2.2.2.2.2.2.1.2.2.2.2
  refine ⟨fun b => [0].getD b 0, rfl, kAllB_get (bl := bl_X12_thrown tb cl) ⟨?_, trivial⟩⟩
  · exact (ch_cons (pc := 0) (pc' := 1) (ok_aloadRn C dX12_thrown_0 rfl) <| ch_cons (pc := 1) (pc' := 4) (ok_get C hn (fun w h => kG_in (inG_X12 w h)) (kcl_at hE 11 rfl) (by decide) (kG_in gw_507) (fun _ h => h) dX12_thrown_1) <| ch_last (pc := 4) (ok_ireturn C hr dX12_thrown_4))
/-- BijectoryModel.refuse(ZI)Z -/
def bl_X12_refuse (tb : List (List Int32)) (cl : kCall) : List (List kOp) := [
  [oLoadI 1, tIf (fun x => decide (x = 0)) 3 1],
  [oLoadR 0, oGet 20 11 0, tIf (fun x => !decide (x = 0)) 3 2],
  [oLoadR 0, oLoadI 2, oPut 20 11 0 .int, tGo 3],
  [oLoadR 0, oGet 20 11 0, tIf (fun x => decide (x ≤ 0)) 5 4],
  [oS (gPush (.int 1)), tGo 6],
  [oS (gPush (.int 0)), tGo 6],
  [tZret]]
set_option maxRecDepth 100000 in
set_option maxHeartbeats 4000000 in
theorem mok_X12_refuse {E : kE} {σ : List Nat} {l : Launch} {tb : List (List Int32)} (hE : kcl E = kCl) (hn : kn E = 20) (htb : ktb E = tb) : kMOK E (kXX (kb E) σ) σ kZs l kY kWS yX12_refuse (kws yX12_refuse cX12_refuse 3 (some .boolean)) cX12_refuse 3 (some .boolean) (fun cl => bl_X12_refuse tb cl) := by
  intro d cl hS p e R s m args below meth c α0 nc0 ns0 res C hf hlo hr hnm hout
  have hXX : kXX (kb E) σ s := C.2.2.2.2.2.2.1.2.2.2.2
  refine ⟨fun b => [0, 4, 11, 16, 23, 27, 28].getD b 0, rfl, kAllB_get (bl := bl_X12_refuse tb cl) ⟨?_, ?_, ?_, ?_, ?_, ?_, ?_, trivial⟩⟩
  · exact (ch_cons (pc := 0) (pc' := 1) (ok_iloadn C dX12_refuse_0 rfl) <| ch_last (pc := 1) (ok_if_eq (tgt := 16) C dX12_refuse_1 (by decide) rfl rfl))
  · exact (ch_cons (pc := 4) (pc' := 5) (ok_aloadRn C dX12_refuse_4 rfl) <| ch_cons (pc := 5) (pc' := 8) (ok_get C hn (fun w h => kG_in (inG_X12 w h)) (kcl_at hE 11 rfl) (by decide) (kG_in gw_507) (fun _ h => h) dX12_refuse_5) <| ch_last (pc := 8) (ok_if_ne (tgt := 16) C dX12_refuse_8 (by decide) rfl rfl))
  · exact (ch_cons (pc := 11) (pc' := 12) (ok_aloadRn C dX12_refuse_11 rfl) <| ch_cons (pc := 12) (pc' := 13) (ok_iloadn C dX12_refuse_12 rfl) <| ch_cons (pc := 13) (pc' := 16) (ok_put C hn (fun w h => kG_in (inG_X12 w h)) tyX12 tyX12_ok nmX12 (kcl_at hE 11 rfl) (by decide) (kG_in gw_507) (fun _ h => h) (Or.inl rfl) rfl dX12_refuse_13) <| ch_last (pc := 16) (ok_fall rfl))
  · exact (ch_cons (pc := 16) (pc' := 17) (ok_aloadRn C dX12_refuse_16 rfl) <| ch_cons (pc := 17) (pc' := 20) (ok_get C hn (fun w h => kG_in (inG_X12 w h)) (kcl_at hE 11 rfl) (by decide) (kG_in gw_507) (fun _ h => h) dX12_refuse_17) <| ch_last (pc := 20) (ok_if_le (tgt := 27) C dX12_refuse_20 (by decide) rfl rfl))
  · exact (ch_cons (pc := 23) (pc' := 24) (ok_iconst C dX12_refuse_23 (by decide)) <| ch_last (pc := 24) (ok_goto (tgt := 28) C dX12_refuse_24 (by decide) rfl))
  · exact (ch_cons (pc := 27) (pc' := 28) (ok_iconst C dX12_refuse_27 (by decide)) <| ch_last (pc := 28) (ok_fall rfl))
  · exact (ch_last (pc := 28) (ok_zreturn C hr dX12_refuse_28))
/-- BijectoryModel.start(ZI)Z -/
def bl_X12_start (tb : List (List Int32)) (cl : kCall) : List (List kOp) := [
  [oLoadR 0, oS (gPush (.int 0)), oPut 20 11 0 .int, oLoadR 0, oLoadI 1, oLoadI 2, oCallV cl 123 2 11 20, tZret]]
set_option maxRecDepth 100000 in
set_option maxHeartbeats 4000000 in
theorem mok_X12_start {E : kE} {σ : List Nat} {l : Launch} {tb : List (List Int32)} (hE : kcl E = kCl) (hn : kn E = 20) (htb : ktb E = tb) : kMOK E (kXX (kb E) σ) σ kZs l kY kWS yX12_start (kws yX12_start cX12_start 3 (some .boolean)) cX12_start 3 (some .boolean) (fun cl => bl_X12_start tb cl) := by
  intro d cl hS p e R s m args below meth c α0 nc0 ns0 res C hf hlo hr hnm hout
  have hXX : kXX (kb E) σ s := C.2.2.2.2.2.2.1.2.2.2.2
  refine ⟨fun b => [0].getD b 0, rfl, kAllB_get (bl := bl_X12_start tb cl) ⟨?_, trivial⟩⟩
  · exact (ch_cons (pc := 0) (pc' := 1) (ok_aloadRn C dX12_start_0 rfl) <| ch_cons (pc := 1) (pc' := 2) (ok_iconst C dX12_start_1 (by decide)) <| ch_cons (pc := 2) (pc' := 5) (ok_put C hn (fun w h => kG_in (inG_X12 w h)) tyX12 tyX12_ok nmX12 (kcl_at hE 11 rfl) (by decide) (kG_in gw_507) (fun _ h => h) (Or.inl rfl) rfl dX12_start_2) <| ch_cons (pc := 5) (pc' := 6) (ok_aloadRn C dX12_start_5 rfl) <| ch_cons (pc := 6) (pc' := 7) (ok_iloadn C dX12_start_6 rfl) <| ch_cons (pc := 7) (pc' := 8) (ok_iloadn C dX12_start_7 rfl) <| ch_cons (pc := 8) (pc' := 11) (ok_callV (d := d) (maxL := 3) C hn hout hf hlo (sn_123 hS) rfl (kcl_at hE 11 rfl) (kG_v gw_508 gw_509 gw_510 gw_511 gw_506) (by decide) (by decide +kernel) dX12_start_8) <| ch_last (pc := 11) (ok_zreturn C hr dX12_start_11))
/-- BijectoryModel.isPath(II)Z -/
def bl_X12_isPath (tb : List (List Int32)) (cl : kCall) : List (List kOp) := [
  [oS (gPush (.int 0)), oStoreI 2, oLoadI 1, oS (gPush (.int 1)), oBin (fun x y => x - y), oStoreI 3, tGo 1],
  [oLoadI 3, tIf (fun x => decide (x < 0)) 8 2],
  [oLoadI 2, oLoadI 0, oLoadI 3, oBin (fun x y => x >>> (y &&& 31)), oS (gPush (.int 1)), oBin (fun x y => x &&& y), oS (gPush (.int 1)), tCmp (fun x y => !decide (x = y)) 4 3],
  [oS (gPush (.int 1)), tGo 5],
  [oS (gPush (.int (-1))), tGo 5],
  [oBin (fun x y => x + y), oStoreI 2, oLoadI 2, tIf (fun x => decide (0 ≤ x)) 7 6],
  [oS (gPush (.int 0)), tZret],
  [oIinc 3 (-1), tGo 1],
  [oLoadI 2, tIf (fun x => !decide (x = 0)) 11 9],
  [oLoadI 0, oLoadI 1, oBin (fun x y => x >>> (y &&& 31)), tIf (fun x => !decide (x = 0)) 11 10],
  [oS (gPush (.int 1)), tGo 12],
  [oS (gPush (.int 0)), tGo 12],
  [tZret]]
set_option maxRecDepth 100000 in
set_option maxHeartbeats 4000000 in
theorem mok_X12_isPath {E : kE} {σ : List Nat} {l : Launch} {tb : List (List Int32)} (hE : kcl E = kCl) (hn : kn E = 20) (htb : ktb E = tb) : kMOK E (kXX (kb E) σ) σ kZs l kY kWS yX12_isPath (kws yX12_isPath cX12_isPath 4 (some .boolean)) cX12_isPath 4 (some .boolean) (fun cl => bl_X12_isPath tb cl) := by
  intro d cl hS p e R s m args below meth c α0 nc0 ns0 res C hf hlo hr hnm hout
  have hXX : kXX (kb E) σ s := C.2.2.2.2.2.2.1.2.2.2.2
  refine ⟨fun b => [0, 6, 10, 20, 24, 25, 31, 33, 39, 43, 49, 53, 54].getD b 0, rfl, kAllB_get (bl := bl_X12_isPath tb cl) ⟨?_, ?_, ?_, ?_, ?_, ?_, ?_, ?_, ?_, ?_, ?_, ?_, ?_, trivial⟩⟩
  · exact (ch_cons (pc := 0) (pc' := 1) (ok_iconst C dX12_isPath_0 (by decide)) <| ch_cons (pc := 1) (pc' := 2) (ok_istoren C dX12_isPath_1 rfl (by decide)) <| ch_cons (pc := 2) (pc' := 3) (ok_iloadn C dX12_isPath_2 rfl) <| ch_cons (pc := 3) (pc' := 4) (ok_iconst C dX12_isPath_3 (by decide)) <| ch_cons (pc := 4) (pc' := 5) (ok_isub C dX12_isPath_4) <| ch_cons (pc := 5) (pc' := 6) (ok_istoren C dX12_isPath_5 rfl (by decide)) <| ch_last (pc := 6) (ok_fall rfl))
  · exact (ch_cons (pc := 6) (pc' := 7) (ok_iloadn C dX12_isPath_6 rfl) <| ch_last (pc := 7) (ok_if_lt (tgt := 39) C dX12_isPath_7 (by decide) rfl rfl))
  · exact (ch_cons (pc := 10) (pc' := 11) (ok_iloadn C dX12_isPath_10 rfl) <| ch_cons (pc := 11) (pc' := 12) (ok_iloadn C dX12_isPath_11 rfl) <| ch_cons (pc := 12) (pc' := 13) (ok_iloadn C dX12_isPath_12 rfl) <| ch_cons (pc := 13) (pc' := 14) (ok_ishr C dX12_isPath_13) <| ch_cons (pc := 14) (pc' := 15) (ok_iconst C dX12_isPath_14 (by decide)) <| ch_cons (pc := 15) (pc' := 16) (ok_iand C dX12_isPath_15) <| ch_cons (pc := 16) (pc' := 17) (ok_iconst C dX12_isPath_16 (by decide)) <| ch_last (pc := 17) (ok_icmp_ne (tgt := 24) C dX12_isPath_17 (by decide) rfl rfl))
  · exact (ch_cons (pc := 20) (pc' := 21) (ok_iconst C dX12_isPath_20 (by decide)) <| ch_last (pc := 21) (ok_goto (tgt := 25) C dX12_isPath_21 (by decide) rfl))
  · exact (ch_cons (pc := 24) (pc' := 25) (ok_iconst C dX12_isPath_24 (by decide)) <| ch_last (pc := 25) (ok_fall rfl))
  · exact (ch_cons (pc := 25) (pc' := 26) (ok_iadd C dX12_isPath_25) <| ch_cons (pc := 26) (pc' := 27) (ok_istoren C dX12_isPath_26 rfl (by decide)) <| ch_cons (pc := 27) (pc' := 28) (ok_iloadn C dX12_isPath_27 rfl) <| ch_last (pc := 28) (ok_if_ge (tgt := 33) C dX12_isPath_28 (by decide) rfl rfl))
  · exact (ch_cons (pc := 31) (pc' := 32) (ok_iconst C dX12_isPath_31 (by decide)) <| ch_last (pc := 32) (ok_zreturn C hr dX12_isPath_32))
  · exact (ch_cons (pc := 33) (pc' := 36) (ok_iinc C dX12_isPath_33 (by decide) (by decide)) <| ch_last (pc := 36) (ok_goto (tgt := 6) C dX12_isPath_36 (by decide) rfl))
  · exact (ch_cons (pc := 39) (pc' := 40) (ok_iloadn C dX12_isPath_39 rfl) <| ch_last (pc := 40) (ok_if_ne (tgt := 53) C dX12_isPath_40 (by decide) rfl rfl))
  · exact (ch_cons (pc := 43) (pc' := 44) (ok_iloadn C dX12_isPath_43 rfl) <| ch_cons (pc := 44) (pc' := 45) (ok_iloadn C dX12_isPath_44 rfl) <| ch_cons (pc := 45) (pc' := 46) (ok_ishr C dX12_isPath_45) <| ch_last (pc := 46) (ok_if_ne (tgt := 53) C dX12_isPath_46 (by decide) rfl rfl))
  · exact (ch_cons (pc := 49) (pc' := 50) (ok_iconst C dX12_isPath_49 (by decide)) <| ch_last (pc := 50) (ok_goto (tgt := 54) C dX12_isPath_50 (by decide) rfl))
  · exact (ch_cons (pc := 53) (pc' := 54) (ok_iconst C dX12_isPath_53 (by decide)) <| ch_last (pc := 54) (ok_fall rfl))
  · exact (ch_last (pc := 54) (ok_zreturn C hr dX12_isPath_54))
/-- BijectoryModel.isOrder(II)Z -/
def bl_X12_isOrder (tb : List (List Int32)) (cl : kCall) : List (List kOp) := [
  [oS (gPush (.int 0)), oStoreI 2, oLoadI 0, oStoreI 3, oS (gPush (.int 0)), oStoreI 4, tGo 1],
  [oLoadI 4, oLoadI 1, tCmp (fun x y => decide (y ≤ x)) 3 2],
  [oLoadI 2, oS (gPush (.int 1)), oLoadI 3, oS (gPush (.int 10)), oBin0 (fun x y => x - x / y * y), oBin (fun x y => x <<< (y &&& 31)), oBin (fun x y => x ||| y), oStoreI 2, oLoadI 3, oS (gPush (.int 10)), oBin0 (fun x y => x / y), oStoreI 3, oIinc 4 1, tGo 1],
  [oLoadI 3, tIf (fun x => !decide (x = 0)) 6 4],
  [oLoadI 2, oS (gPush (.int 1)), oLoadI 1, oS (gPush (.int 1)), oBin (fun x y => x + y), oBin (fun x y => x <<< (y &&& 31)), oS (gPush (.int 2)), oBin (fun x y => x - y), tCmp (fun x y => !decide (x = y)) 6 5],
  [oS (gPush (.int 1)), tGo 7],
  [oS (gPush (.int 0)), tGo 7],
  [tZret]]
set_option maxRecDepth 100000 in
set_option maxHeartbeats 4000000 in
theorem mok_X12_isOrder {E : kE} {σ : List Nat} {l : Launch} {tb : List (List Int32)} (hE : kcl E = kCl) (hn : kn E = 20) (htb : ktb E = tb) : kMOK E (kXX (kb E) σ) σ kZs l kY kWS yX12_isOrder (kws yX12_isOrder cX12_isOrder 5 (some .boolean)) cX12_isOrder 5 (some .boolean) (fun cl => bl_X12_isOrder tb cl) := by
  intro d cl hS p e R s m args below meth c α0 nc0 ns0 res C hf hlo hr hnm hout
  have hXX : kXX (kb E) σ s := C.2.2.2.2.2.2.1.2.2.2.2
  refine ⟨fun b => [0, 7, 13, 33, 37, 48, 52, 53].getD b 0, rfl, kAllB_get (bl := bl_X12_isOrder tb cl) ⟨?_, ?_, ?_, ?_, ?_, ?_, ?_, ?_, trivial⟩⟩
  · exact (ch_cons (pc := 0) (pc' := 1) (ok_iconst C dX12_isOrder_0 (by decide)) <| ch_cons (pc := 1) (pc' := 2) (ok_istoren C dX12_isOrder_1 rfl (by decide)) <| ch_cons (pc := 2) (pc' := 3) (ok_iloadn C dX12_isOrder_2 rfl) <| ch_cons (pc := 3) (pc' := 4) (ok_istoren C dX12_isOrder_3 rfl (by decide)) <| ch_cons (pc := 4) (pc' := 5) (ok_iconst C dX12_isOrder_4 (by decide)) <| ch_cons (pc := 5) (pc' := 7) (ok_istore C dX12_isOrder_5 (by decide)) <| ch_last (pc := 7) (ok_fall rfl))
  · exact (ch_cons (pc := 7) (pc' := 9) (ok_iload C dX12_isOrder_7) <| ch_cons (pc := 9) (pc' := 10) (ok_iloadn C dX12_isOrder_9 rfl) <| ch_last (pc := 10) (ok_icmp_ge (tgt := 33) C dX12_isOrder_10 (by decide) rfl rfl))
  · exact (ch_cons (pc := 13) (pc' := 14) (ok_iloadn C dX12_isOrder_13 rfl) <| ch_cons (pc := 14) (pc' := 15) (ok_iconst C dX12_isOrder_14 (by decide)) <| ch_cons (pc := 15) (pc' := 16) (ok_iloadn C dX12_isOrder_15 rfl) <| ch_cons (pc := 16) (pc' := 18) (ok_bipush C dX12_isOrder_16 (by decide)) <| ch_cons (pc := 18) (pc' := 19) (ok_irem C dX12_isOrder_18) <| ch_cons (pc := 19) (pc' := 20) (ok_ishl C dX12_isOrder_19) <| ch_cons (pc := 20) (pc' := 21) (ok_ior C dX12_isOrder_20) <| ch_cons (pc := 21) (pc' := 22) (ok_istoren C dX12_isOrder_21 rfl (by decide)) <| ch_cons (pc := 22) (pc' := 23) (ok_iloadn C dX12_isOrder_22 rfl) <| ch_cons (pc := 23) (pc' := 25) (ok_bipush C dX12_isOrder_23 (by decide)) <| ch_cons (pc := 25) (pc' := 26) (ok_idiv C dX12_isOrder_25) <| ch_cons (pc := 26) (pc' := 27) (ok_istoren C dX12_isOrder_26 rfl (by decide)) <| ch_cons (pc := 27) (pc' := 30) (ok_iinc C dX12_isOrder_27 (by decide) (by decide)) <| ch_last (pc := 30) (ok_goto (tgt := 7) C dX12_isOrder_30 (by decide) rfl))
  · exact (ch_cons (pc := 33) (pc' := 34) (ok_iloadn C dX12_isOrder_33 rfl) <| ch_last (pc := 34) (ok_if_ne (tgt := 52) C dX12_isOrder_34 (by decide) rfl rfl))
  · exact (ch_cons (pc := 37) (pc' := 38) (ok_iloadn C dX12_isOrder_37 rfl) <| ch_cons (pc := 38) (pc' := 39) (ok_iconst C dX12_isOrder_38 (by decide)) <| ch_cons (pc := 39) (pc' := 40) (ok_iloadn C dX12_isOrder_39 rfl) <| ch_cons (pc := 40) (pc' := 41) (ok_iconst C dX12_isOrder_40 (by decide)) <| ch_cons (pc := 41) (pc' := 42) (ok_iadd C dX12_isOrder_41) <| ch_cons (pc := 42) (pc' := 43) (ok_ishl C dX12_isOrder_42) <| ch_cons (pc := 43) (pc' := 44) (ok_iconst C dX12_isOrder_43 (by decide)) <| ch_cons (pc := 44) (pc' := 45) (ok_isub C dX12_isOrder_44) <| ch_last (pc := 45) (ok_icmp_ne (tgt := 52) C dX12_isOrder_45 (by decide) rfl rfl))
  · exact (ch_cons (pc := 48) (pc' := 49) (ok_iconst C dX12_isOrder_48 (by decide)) <| ch_last (pc := 49) (ok_goto (tgt := 53) C dX12_isOrder_49 (by decide) rfl))
  · exact (ch_cons (pc := 52) (pc' := 53) (ok_iconst C dX12_isOrder_52 (by decide)) <| ch_last (pc := 53) (ok_fall rfl))
  · exact (ch_last (pc := 53) (ok_zreturn C hr dX12_isOrder_53))
/-- BijectoryModel.tens(I)I -/
def bl_X12_tens (tb : List (List Int32)) (cl : kCall) : List (List kOp) := [
  [oLoadI 0, tIf (fun x => !decide (x = 0)) 2 1],
  [oS (gPush (.int 1)), tGo 3],
  [oS (gPush (.int 10)), oLoadI 0, oS (gPush (.int 1)), oBin (fun x y => x - y), oCall cl 127 1, oBin (fun x y => x * y), tGo 3],
  [tIret]]
set_option maxRecDepth 100000 in
set_option maxHeartbeats 4000000 in
theorem mok_X12_tens {E : kE} {σ : List Nat} {l : Launch} {tb : List (List Int32)} (hE : kcl E = kCl) (hn : kn E = 20) (htb : ktb E = tb) : kMOK E (kXX (kb E) σ) σ kZs l kY kWS yX12_tens (kws yX12_tens cX12_tens 1 (some .int)) cX12_tens 1 (some .int) (fun cl => bl_X12_tens tb cl) := by
  intro d cl hS p e R s m args below meth c α0 nc0 ns0 res C hf hlo hr hnm hout
  have hXX : kXX (kb E) σ s := C.2.2.2.2.2.2.1.2.2.2.2
  refine ⟨fun b => [0, 4, 8, 17].getD b 0, rfl, kAllB_get (bl := bl_X12_tens tb cl) ⟨?_, ?_, ?_, ?_, trivial⟩⟩
  · exact (ch_cons (pc := 0) (pc' := 1) (ok_iloadn C dX12_tens_0 rfl) <| ch_last (pc := 1) (ok_if_ne (tgt := 8) C dX12_tens_1 (by decide) rfl rfl))
  · exact (ch_cons (pc := 4) (pc' := 5) (ok_iconst C dX12_tens_4 (by decide)) <| ch_last (pc := 5) (ok_goto (tgt := 17) C dX12_tens_5 (by decide) rfl))
  · exact (ch_cons (pc := 8) (pc' := 10) (ok_bipush C dX12_tens_8 (by decide)) <| ch_cons (pc := 10) (pc' := 11) (ok_iloadn C dX12_tens_10 rfl) <| ch_cons (pc := 11) (pc' := 12) (ok_iconst C dX12_tens_11 (by decide)) <| ch_cons (pc := 12) (pc' := 13) (ok_isub C dX12_tens_12) <| ch_cons (pc := 13) (pc' := 16) (ok_callS (d := d) C hout hf hlo (sn_127 hS) rfl (kG_s gw_512 gw_513 gw_514 gw_506) (by decide) (by decide +kernel) dX12_tens_13) <| ch_cons (pc := 16) (pc' := 17) (ok_imul C dX12_tens_16) <| ch_last (pc := 17) (ok_fall rfl))
  · exact (ch_last (pc := 17) (ok_ireturn C hr dX12_tens_17))
/-- BijectoryModel.grow(I)V -/
def bl_X12_grow (tb : List (List Int32)) (cl : kCall) : List (List kOp) := [
  [oLoadR 0, oLoadI 1, oPut 20 11 1 .int, oS (gPush (.int 132)), oNewa 20 100, oStoreR 2, oS (gPush (.int 0)), oStoreI 3, oS (gPush (.int 0)), oStoreI 4, tGo 1],
  [oLoadI 4, oS (gPush (.int 1)), oS (gPush (.int 2)), oLoadI 1, oBin (fun x y => x * y), oBin (fun x y => x <<< (y &&& 31)), tCmp (fun x y => decide (y ≤ x)) 5 2],
  [oLoadI 4, oS (gPush (.int 2)), oLoadI 1, oBin (fun x y => x * y), oCall cl 125 2, tIf (fun x => decide (x = 0)) 4 3],
  [oLoadR 2, oLoadI 3, oIinc 3 1, oLoadI 4, oIast 20, tGo 4],
  [oIinc 4 1, tGo 1],
  [oLoadR 0, oGet 20 11 2, oS (gPush (.int 0)), oLoadI 3, oNewa 20 100, oAstA 20, oLoadR 2, oS (gPush (.int 0)), oLoadR 0, oGet 20 11 2, oS (gPush (.int 0)), oAald 20, oS (gPush (.int 0)), oLoadI 3, oCopyI 20, oLoadR 0, oGet 20 11 2, oS (gPush (.int 1)), oLoadR 0, oGet 20 11 2, oS (gPush (.int 0)), oAald 20, oAstA 20, oS (gPush (.int 1)), oStoreI 4, oS (gPush (.int 2)), oStoreI 5, tGo 6],
  [oLoadI 5, oLoadI 1, tCmp (fun x y => decide (y < x)) 8 7],
  [oLoadI 4, oLoadI 5, oBin (fun x y => x * y), oStoreI 4, oIinc 5 1, tGo 6],
  [oLoadR 0, oGet 20 11 2, oS (gPush (.int 2)), oLoadI 4, oNewa 20 100, oAstA 20, oS (gPush (.int 0)), oStoreI 3, oLoadR 0, oS (gPush (.int 0)), oS (gPush (.int 0)), oS (gPush (.int 1)), oNewa 20 100, oS gDup, oS (gPush (.int 0)), oS (gPush (.int 0)), oIast 20, oCallV cl 129 3 11 20, tVret]]
set_option maxRecDepth 100000 in
set_option maxHeartbeats 4000000 in
theorem mok_X12_grow {E : kE} {σ : List Nat} {l : Launch} {tb : List (List Int32)} (hE : kcl E = kCl) (hn : kn E = 20) (htb : ktb E = tb) : kMOK E (kXX (kb E) σ) σ kZs l kY kWS yX12_grow (kws yX12_grow cX12_grow 6 none) cX12_grow 6 none (fun cl => bl_X12_grow tb cl) := by
  intro d cl hS p e R s m args below meth c α0 nc0 ns0 res C hf hlo hr hnm hout
  have hXX : kXX (kb E) σ s := C.2.2.2.2.2.2.1.2.2.2.2
  refine ⟨fun b => [0, 16, 26, 37, 45, 51, 91, 97, 110].getD b 0, rfl, kAllB_get (bl := bl_X12_grow tb cl) ⟨?_, ?_, ?_, ?_, ?_, ?_, ?_, ?_, ?_, trivial⟩⟩
  · exact (ch_cons (pc := 0) (pc' := 1) (ok_aloadRn C dX12_grow_0 rfl) <| ch_cons (pc := 1) (pc' := 2) (ok_iloadn C dX12_grow_1 rfl) <| ch_cons (pc := 2) (pc' := 5) (ok_put C hn (fun w h => kG_in (inG_X12 w h)) tyX12 tyX12_ok nmX12 (kcl_at hE 11 rfl) (by decide) (kG_in gw_515) (fun _ h => h) (Or.inl rfl) rfl dX12_grow_2) <| ch_cons (pc := 5) (pc' := 8) (ok_sipush C dX12_grow_5 (by decide)) <| ch_cons (pc := 8) (pc' := 10) (ok_newa C hn (by decide) rfl rfl (by decide) (fun _ h => by cases h) (kG_in gw_109) dX12_grow_8) <| ch_cons (pc := 10) (pc' := 11) (ok_astoreRn C dX12_grow_10 rfl (by decide)) <| ch_cons (pc := 11) (pc' := 12) (ok_iconst C dX12_grow_11 (by decide)) <| ch_cons (pc := 12) (pc' := 13) (ok_istoren C dX12_grow_12 rfl (by decide)) <| ch_cons (pc := 13) (pc' := 14) (ok_iconst C dX12_grow_13 (by decide)) <| ch_cons (pc := 14) (pc' := 16) (ok_istore C dX12_grow_14 (by decide)) <| ch_last (pc := 16) (ok_fall rfl))
  · exact (ch_cons (pc := 16) (pc' := 18) (ok_iload C dX12_grow_16) <| ch_cons (pc := 18) (pc' := 19) (ok_iconst C dX12_grow_18 (by decide)) <| ch_cons (pc := 19) (pc' := 20) (ok_iconst C dX12_grow_19 (by decide)) <| ch_cons (pc := 20) (pc' := 21) (ok_iloadn C dX12_grow_20 rfl) <| ch_cons (pc := 21) (pc' := 22) (ok_imul C dX12_grow_21) <| ch_cons (pc := 22) (pc' := 23) (ok_ishl C dX12_grow_22) <| ch_last (pc := 23) (ok_icmp_ge (tgt := 51) C dX12_grow_23 (by decide) rfl rfl))
  · exact (ch_cons (pc := 26) (pc' := 28) (ok_iload C dX12_grow_26) <| ch_cons (pc := 28) (pc' := 29) (ok_iconst C dX12_grow_28 (by decide)) <| ch_cons (pc := 29) (pc' := 30) (ok_iloadn C dX12_grow_29 rfl) <| ch_cons (pc := 30) (pc' := 31) (ok_imul C dX12_grow_30) <| ch_cons (pc := 31) (pc' := 34) (ok_callS (d := d) C hout hf hlo (sn_125 hS) rfl (kG_s gw_516 gw_517 gw_518 gw_506) (by decide) (by decide +kernel) dX12_grow_31) <| ch_last (pc := 34) (ok_if_eq (tgt := 45) C dX12_grow_34 (by decide) rfl rfl))
  · exact (ch_cons (pc := 37) (pc' := 38) (ok_aloadRn C dX12_grow_37 rfl) <| ch_cons (pc := 38) (pc' := 39) (ok_iloadn C dX12_grow_38 rfl) <| ch_cons (pc := 39) (pc' := 42) (ok_iinc C dX12_grow_39 (by decide) (by decide)) <| ch_cons (pc := 42) (pc' := 44) (ok_iload C dX12_grow_42) <| ch_cons (pc := 44) (pc' := 45) (ok_iastore C hn dX12_grow_44) <| ch_last (pc := 45) (ok_fall rfl))
  · exact (ch_cons (pc := 45) (pc' := 48) (ok_iinc C dX12_grow_45 (by decide) (by decide)) <| ch_last (pc := 48) (ok_goto (tgt := 16) C dX12_grow_48 (by decide) rfl))
  · exact (ch_cons (pc := 51) (pc' := 52) (ok_aloadRn C dX12_grow_51 rfl) <| ch_cons (pc := 52) (pc' := 55) (ok_get C hn (fun w h => kG_in (inG_X12 w h)) (kcl_at hE 11 rfl) (by decide) (kG_in gw_489) (fun _ h => h) dX12_grow_52) <| ch_cons (pc := 55) (pc' := 56) (ok_iconst C dX12_grow_55 (by decide)) <| ch_cons (pc := 56) (pc' := 57) (ok_iloadn C dX12_grow_56 rfl) <| ch_cons (pc := 57) (pc' := 59) (ok_newa C hn (by decide) rfl rfl (by decide) (fun _ h => by cases h) (kG_in gw_109) dX12_grow_57) <| ch_cons (pc := 59) (pc' := 60) (ok_aastoreA C hn dX12_grow_59) <| ch_cons (pc := 60) (pc' := 61) (ok_aloadRn C dX12_grow_60 rfl) <| ch_cons (pc := 61) (pc' := 62) (ok_iconst C dX12_grow_61 (by decide)) <| ch_cons (pc := 62) (pc' := 63) (ok_aloadRn C dX12_grow_62 rfl) <| ch_cons (pc := 63) (pc' := 66) (ok_get C hn (fun w h => kG_in (inG_X12 w h)) (kcl_at hE 11 rfl) (by decide) (kG_in gw_489) (fun _ h => h) dX12_grow_63) <| ch_cons (pc := 66) (pc' := 67) (ok_iconst C dX12_grow_66 (by decide)) <| ch_cons (pc := 67) (pc' := 68) (ok_aaload C hn dX12_grow_67) <| ch_cons (pc := 68) (pc' := 69) (ok_iconst C dX12_grow_68 (by decide)) <| ch_cons (pc := 69) (pc' := 70) (ok_iloadn C dX12_grow_69 rfl) <| ch_cons (pc := 70) (pc' := 73) (ok_copyi C hn (kG_in gw_519) (kG_in gw_520) (kG_in gw_521) (kG_in gw_522) dX12_grow_70) <| ch_cons (pc := 73) (pc' := 74) (ok_aloadRn C dX12_grow_73 rfl) <| ch_cons (pc := 74) (pc' := 77) (ok_get C hn (fun w h => kG_in (inG_X12 w h)) (kcl_at hE 11 rfl) (by decide) (kG_in gw_489) (fun _ h => h) dX12_grow_74) <| ch_cons (pc := 77) (pc' := 78) (ok_iconst C dX12_grow_77 (by decide)) <| ch_cons (pc := 78) (pc' := 79) (ok_aloadRn C dX12_grow_78 rfl) <| ch_cons (pc := 79) (pc' := 82) (ok_get C hn (fun w h => kG_in (inG_X12 w h)) (kcl_at hE 11 rfl) (by decide) (kG_in gw_489) (fun _ h => h) dX12_grow_79) <| ch_cons (pc := 82) (pc' := 83) (ok_iconst C dX12_grow_82 (by decide)) <| ch_cons (pc := 83) (pc' := 84) (ok_aaload C hn dX12_grow_83) <| ch_cons (pc := 84) (pc' := 85) (ok_aastoreA C hn dX12_grow_84) <| ch_cons (pc := 85) (pc' := 86) (ok_iconst C dX12_grow_85 (by decide)) <| ch_cons (pc := 86) (pc' := 88) (ok_istore C dX12_grow_86 (by decide)) <| ch_cons (pc := 88) (pc' := 89) (ok_iconst C dX12_grow_88 (by decide)) <| ch_cons (pc := 89) (pc' := 91) (ok_istore C dX12_grow_89 (by decide)) <| ch_last (pc := 91) (ok_fall rfl))
  · exact (ch_cons (pc := 91) (pc' := 93) (ok_iload C dX12_grow_91) <| ch_cons (pc := 93) (pc' := 94) (ok_iloadn C dX12_grow_93 rfl) <| ch_last (pc := 94) (ok_icmp_gt (tgt := 110) C dX12_grow_94 (by decide) rfl rfl))
  · exact (ch_cons (pc := 97) (pc' := 99) (ok_iload C dX12_grow_97) <| ch_cons (pc := 99) (pc' := 101) (ok_iload C dX12_grow_99) <| ch_cons (pc := 101) (pc' := 102) (ok_imul C dX12_grow_101) <| ch_cons (pc := 102) (pc' := 104) (ok_istore C dX12_grow_102 (by decide)) <| ch_cons (pc := 104) (pc' := 107) (ok_iinc C dX12_grow_104 (by decide) (by decide)) <| ch_last (pc := 107) (ok_goto (tgt := 91) C dX12_grow_107 (by decide) rfl))
  · exact (ch_cons (pc := 110) (pc' := 111) (ok_aloadRn C dX12_grow_110 rfl) <| ch_cons (pc := 111) (pc' := 114) (ok_get C hn (fun w h => kG_in (inG_X12 w h)) (kcl_at hE 11 rfl) (by decide) (kG_in gw_489) (fun _ h => h) dX12_grow_111) <| ch_cons (pc := 114) (pc' := 115) (ok_iconst C dX12_grow_114 (by decide)) <| ch_cons (pc := 115) (pc' := 117) (ok_iload C dX12_grow_115) <| ch_cons (pc := 117) (pc' := 119) (ok_newa C hn (by decide) rfl rfl (by decide) (fun _ h => by cases h) (kG_in gw_109) dX12_grow_117) <| ch_cons (pc := 119) (pc' := 120) (ok_aastoreA C hn dX12_grow_119) <| ch_cons (pc := 120) (pc' := 121) (ok_iconst C dX12_grow_120 (by decide)) <| ch_cons (pc := 121) (pc' := 122) (ok_istoren C dX12_grow_121 rfl (by decide)) <| ch_cons (pc := 122) (pc' := 123) (ok_aloadRn C dX12_grow_122 rfl) <| ch_cons (pc := 123) (pc' := 124) (ok_iconst C dX12_grow_123 (by decide)) <| ch_cons (pc := 124) (pc' := 125) (ok_iconst C dX12_grow_124 (by decide)) <| ch_cons (pc := 125) (pc' := 126) (ok_iconst C dX12_grow_125 (by decide)) <| ch_cons (pc := 126) (pc' := 128) (ok_newa C hn (by decide) rfl rfl (by decide) (fun _ h => by cases h) (kG_in gw_109) dX12_grow_126) <| ch_cons (pc := 128) (pc' := 129) (ok_dup C dX12_grow_128) <| ch_cons (pc := 129) (pc' := 130) (ok_iconst C dX12_grow_129 (by decide)) <| ch_cons (pc := 130) (pc' := 131) (ok_iconst C dX12_grow_130 (by decide)) <| ch_cons (pc := 131) (pc' := 132) (ok_iastore C hn dX12_grow_131) <| ch_cons (pc := 132) (pc' := 135) (ok_callV (d := d) (maxL := 5) C hn hout hf hlo (sn_129 hS) rfl (kcl_at hE 11 rfl) (kG_v gw_523 gw_524 gw_525 gw_526 gw_506) (by decide) (by decide +kernel) dX12_grow_132) <| ch_last (pc := 135) (ok_return C hr dX12_grow_135))
