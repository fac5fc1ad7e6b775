/-- Bijectory$Realm.<init>(I)V -/
def bl_X4_init (tb : List (List Int32)) (cl : kCall) : List (List kOp) := [
  [oLoadR 0, oObj, oGetS 2, oLoadI 1, oCall cl 0 2, oS (gPush (.int 0)), oMax true, oStoreI 2, oGetS 3, oLoadI 1, oCall cl 0 2, oS (gPush (.int 0)), oMax true, oStoreI 3, oLoadR 0, oLoadI 1, oPut 6 2 0 .int, oLoadR 0, oLoadI 2, oNewa 6 100, oPut 6 2 1 (.array .int), oLoadR 0, oLoadI 3, oNewa 6 100, oPut 6 2 2 (.array .int), oLoadR 0, oS (gPush (.int 11)), oLoadI 3, oMna 6, oPut 6 2 3 (.array (.array .int)), oLoadR 0, oS (gPush (.int 12)), oLoadI 3, oMna 6, oPut 6 2 4 (.array (.array .int)), oLoadR 0, oS (gPush (.int 12)), oS (gPush (.int 37)), oMna 6, oPut 6 2 5 (.array (.array .int)), tVret]]
set_option maxRecDepth 100000 in
set_option maxHeartbeats 4000000 in
theorem mok_X4_init {E : kE} {σ : List Nat} {l : Launch} {tb : List (List Int32)} (hE : kcl E = kCl) (hn : kn E = 6) (htb : ktb E = tb) : kMOK E (kXX (kb E)) σ kZs l kY kWS yX4_init (kws yX4_init cX4_init 4 none) cX4_init 4 none (fun cl => bl_X4_init tb cl) := by
  intro d cl hS p e R s m args below meth c α0 nc0 ns0 res C hf hlo hr hnm hout
  have hXX : kXX (kb E) s := C.2.2.2.2.2.2.1.2.2.2.2
  refine ⟨fun b => [0].getD b 0, rfl, kAllB_get (bl := bl_X4_init tb cl) ⟨?_, trivial⟩⟩
  · exact (ch_cons (pc := 0) (pc' := 1) (ok_aloadRn C dX4_init_0 rfl) <| ch_cons (pc := 1) (pc' := 4) (ok_obj C (kG_in gw_86) (kG_in gw_87) (kG_in gw_88) dX4_init_1) <| ch_cons (pc := 4) (pc' := 7) (ok_getsN C zin_2 (xw_3 hXX) dX4_init_4) <| ch_cons (pc := 7) (pc' := 8) (ok_iloadn C dX4_init_7 rfl) <| ch_cons (pc := 8) (pc' := 11) (ok_callS (d := d) C hout hf hlo (sn_0 hS) rfl (kG_s gw_39 gw_89 gw_41 gw_42) (by decide) (by decide +kernel) dX4_init_8) <| ch_cons (pc := 11) (pc' := 12) (ok_iconst C dX4_init_11 (by decide)) <| ch_cons (pc := 12) (pc' := 15) (ok_max C (kG_in gw_90) (kG_in gw_36) (kG_in gw_37) (kG_in gw_38) dX4_init_12) <| ch_cons (pc := 15) (pc' := 16) (ok_istoren C dX4_init_15 rfl (by decide)) <| ch_cons (pc := 16) (pc' := 19) (ok_getsN C zin_3 (xw_4 hXX) dX4_init_16) <| ch_cons (pc := 19) (pc' := 20) (ok_iloadn C dX4_init_19 rfl) <| ch_cons (pc := 20) (pc' := 23) (ok_callS (d := d) C hout hf hlo (sn_0 hS) rfl (kG_s gw_39 gw_89 gw_41 gw_42) (by decide) (by decide +kernel) dX4_init_20) <| ch_cons (pc := 23) (pc' := 24) (ok_iconst C dX4_init_23 (by decide)) <| ch_cons (pc := 24) (pc' := 27) (ok_max C (kG_in gw_90) (kG_in gw_36) (kG_in gw_37) (kG_in gw_38) dX4_init_24) <| ch_cons (pc := 27) (pc' := 28) (ok_istoren C dX4_init_27 rfl (by decide)) <| ch_cons (pc := 28) (pc' := 29) (ok_aloadRn C dX4_init_28 rfl) <| ch_cons (pc := 29) (pc' := 30) (ok_iloadn C dX4_init_29 rfl) <| ch_cons (pc := 30) (pc' := 33) (ok_put C hn (fun w h => kG_in (inG_X4 w h)) tyX4 tyX4_ok nmX4 (kcl_at hE 2 rfl) (by decide) (kG_in gw_91) (fun _ h => h) (Or.inr ⟨rfl, hnm, rfl⟩) rfl dX4_init_30) <| ch_cons (pc := 33) (pc' := 34) (ok_aloadRn C dX4_init_33 rfl) <| ch_cons (pc := 34) (pc' := 35) (ok_iloadn C dX4_init_34 rfl) <| ch_cons (pc := 35) (pc' := 37) (ok_newa C hn (by decide) rfl rfl (by decide) (fun _ h => by cases h) (kG_in gw_92) dX4_init_35) <| ch_cons (pc := 37) (pc' := 40) (ok_put C hn (fun w h => kG_in (inG_X4 w h)) tyX4 tyX4_ok nmX4 (kcl_at hE 2 rfl) (by decide) (kG_in gw_93) (fun _ h => h) (Or.inr ⟨rfl, hnm, rfl⟩) rfl dX4_init_37) <| ch_cons (pc := 40) (pc' := 41) (ok_aloadRn C dX4_init_40 rfl) <| ch_cons (pc := 41) (pc' := 42) (ok_iloadn C dX4_init_41 rfl) <| ch_cons (pc := 42) (pc' := 44) (ok_newa C hn (by decide) rfl rfl (by decide) (fun _ h => by cases h) (kG_in gw_92) dX4_init_42) <| ch_cons (pc := 44) (pc' := 47) (ok_put C hn (fun w h => kG_in (inG_X4 w h)) tyX4 tyX4_ok nmX4 (kcl_at hE 2 rfl) (by decide) (kG_in gw_94) (fun _ h => h) (Or.inr ⟨rfl, hnm, rfl⟩) rfl dX4_init_44) <| ch_cons (pc := 47) (pc' := 48) (ok_aloadRn C dX4_init_47 rfl) <| ch_cons (pc := 48) (pc' := 50) (ok_bipush C dX4_init_48 (by decide)) <| ch_cons (pc := 50) (pc' := 51) (ok_iloadn C dX4_init_50 rfl) <| ch_cons (pc := 51) (pc' := 55) (ok_mna C hn (kG_in gw_95) (xw_5 hXX) (kG_in gw_92) dX4_init_51) <| ch_cons (pc := 55) (pc' := 58) (ok_put C hn (fun w h => kG_in (inG_X4 w h)) tyX4 tyX4_ok nmX4 (kcl_at hE 2 rfl) (by decide) (kG_in gw_96) (fun _ h => h) (Or.inr ⟨rfl, hnm, rfl⟩) rfl dX4_init_55) <| ch_cons (pc := 58) (pc' := 59) (ok_aloadRn C dX4_init_58 rfl) <| ch_cons (pc := 59) (pc' := 61) (ok_bipush C dX4_init_59 (by decide)) <| ch_cons (pc := 61) (pc' := 62) (ok_iloadn C dX4_init_61 rfl) <| ch_cons (pc := 62) (pc' := 66) (ok_mna C hn (kG_in gw_95) (xw_5 hXX) (kG_in gw_92) dX4_init_62) <| ch_cons (pc := 66) (pc' := 69) (ok_put C hn (fun w h => kG_in (inG_X4 w h)) tyX4 tyX4_ok nmX4 (kcl_at hE 2 rfl) (by decide) (kG_in gw_97) (fun _ h => h) (Or.inr ⟨rfl, hnm, rfl⟩) rfl dX4_init_66) <| ch_cons (pc := 69) (pc' := 70) (ok_aloadRn C dX4_init_69 rfl) <| ch_cons (pc := 70) (pc' := 72) (ok_bipush C dX4_init_70 (by decide)) <| ch_cons (pc := 72) (pc' := 74) (ok_bipush C dX4_init_72 (by decide)) <| ch_cons (pc := 74) (pc' := 78) (ok_mna C hn (kG_in gw_95) (xw_5 hXX) (kG_in gw_92) dX4_init_74) <| ch_cons (pc := 78) (pc' := 81) (ok_put C hn (fun w h => kG_in (inG_X4 w h)) tyX4 tyX4_ok nmX4 (kcl_at hE 2 rfl) (by decide) (kG_in gw_98) (fun _ h => h) (Or.inr ⟨rfl, hnm, rfl⟩) rfl dX4_init_78) <| ch_last (pc := 81) (ok_return C hr dX4_init_81))
/-- Bijectory$Realm.of(I)LBijectory$Realm; -/
def bl_X4_of (tb : List (List Int32)) (cl : kCall) : List (List kOp) := [
  [oNew 6 2 6 [.int 0, .null, .null, .null, .null, .null], oS gDup, oLoadI 0, oCallI cl 36 1, oStoreR 1, oLoadR 1, oCallV cl 38 0 2 6, oLoadR 1, oCallV cl 39 0 2 6, oS (gPush (.int 0)), oStoreI 2, tGo 1],
  [oLoadI 2, oS (gPush (.int 11)), tCmp (fun x y => decide (y ≤ x)) 3 2],
  [oLoadR 1, oLoadI 2, oCallV cl 40 1 2 6, oIinc 2 1, tGo 1],
  [oS (gPush (.int 0)), oStoreI 2, tGo 4],
  [oLoadI 2, oS (gPush (.int 3)), tCmp (fun x y => decide (y ≤ x)) 9 5],
  [oS (gPush (.int 0)), oStoreI 3, tGo 6],
  [oLoadI 3, oS (gPush (.int 4)), tCmp (fun x y => decide (y ≤ x)) 8 7],
  [oLoadR 1, oLoadI 2, oLoadI 3, oCallV cl 41 2 2 6, oIinc 3 1, tGo 6],
  [oIinc 2 1, tGo 4],
  [oLoadR 1, tAret]]
set_option maxRecDepth 100000 in
set_option maxHeartbeats 4000000 in
theorem mok_X4_of {E : kE} {σ : List Nat} {l : Launch} {tb : List (List Int32)} (hE : kcl E = kCl) (hn : kn E = 6) (htb : ktb E = tb) : kMOK E (kXX (kb E)) σ kZs l kY kWS yX4_of (kws yX4_of cX4_of 4 (some (.object "Bijectory$Realm"))) cX4_of 4 (some (.object "Bijectory$Realm")) (fun cl => bl_X4_of tb cl) := by
  intro d cl hS p e R s m args below meth c α0 nc0 ns0 res C hf hlo hr hnm hout
  have hXX : kXX (kb E) s := C.2.2.2.2.2.2.1.2.2.2.2
  refine ⟨fun b => [0, 19, 25, 36, 38, 43, 45, 50, 62, 68].getD b 0, rfl, kAllB_get (bl := bl_X4_of tb cl) ⟨?_, ?_, ?_, ?_, ?_, ?_, ?_, ?_, ?_, ?_, trivial⟩⟩
  · exact (ch_cons (pc := 0) (pc' := 3) (ok_new C hn (fun w h => kG_in (inG_X4 w h)) tyX4 tyX4_ok (kcl_at hE 2 rfl) (kG_in gw_99) (kG_in gw_100) (kG_in gw_101) rfl dX4_of_0) <| ch_cons (pc := 3) (pc' := 4) (ok_dup C dX4_of_3) <| ch_cons (pc := 4) (pc' := 5) (ok_iloadn C dX4_of_4 rfl) <| ch_cons (pc := 5) (pc' := 8) (ok_callI (d := d) C hout hf hlo (sn_36 hS) rfl (kG_ws gw_102) (kG_in gw_101) (kG_in gw_103) (kG_in gw_104) rfl (by decide) (by decide +kernel) dX4_of_5) <| ch_cons (pc := 8) (pc' := 9) (ok_astoreRn C dX4_of_8 rfl (by decide)) <| ch_cons (pc := 9) (pc' := 10) (ok_aloadRn C dX4_of_9 rfl) <| ch_cons (pc := 10) (pc' := 13) (ok_callV (d := d) (maxL := 3) C hn hout hf hlo (sn_38 hS) rfl (kcl_at hE 2 rfl) (kG_v gw_105 gw_106 gw_107 gw_108 gw_101) (by decide) (by decide +kernel) dX4_of_10) <| ch_cons (pc := 13) (pc' := 14) (ok_aloadRn C dX4_of_13 rfl) <| ch_cons (pc := 14) (pc' := 17) (ok_callV (d := d) (maxL := 2) C hn hout hf hlo (sn_39 hS) rfl (kcl_at hE 2 rfl) (kG_v gw_109 gw_110 gw_111 gw_112 gw_101) (by decide) (by decide +kernel) dX4_of_14) <| ch_cons (pc := 17) (pc' := 18) (ok_iconst C dX4_of_17 (by decide)) <| ch_cons (pc := 18) (pc' := 19) (ok_istoren C dX4_of_18 rfl (by decide)) <| ch_last (pc := 19) (ok_fall rfl))
  · exact (ch_cons (pc := 19) (pc' := 20) (ok_iloadn C dX4_of_19 rfl) <| ch_cons (pc := 20) (pc' := 22) (ok_bipush C dX4_of_20 (by decide)) <| ch_last (pc := 22) (ok_icmp_ge (tgt := 36) C dX4_of_22 (by decide) rfl rfl))
  · exact (ch_cons (pc := 25) (pc' := 26) (ok_aloadRn C dX4_of_25 rfl) <| ch_cons (pc := 26) (pc' := 27) (ok_iloadn C dX4_of_26 rfl) <| ch_cons (pc := 27) (pc' := 30) (ok_callV (d := d) (maxL := 5) C hn hout hf hlo (sn_40 hS) rfl (kcl_at hE 2 rfl) (kG_v gw_113 gw_114 gw_115 gw_116 gw_101) (by decide) (by decide +kernel) dX4_of_27) <| ch_cons (pc := 30) (pc' := 33) (ok_iinc C dX4_of_30 (by decide) (by decide)) <| ch_last (pc := 33) (ok_goto (tgt := 19) C dX4_of_33 (by decide) rfl))
  · exact (ch_cons (pc := 36) (pc' := 37) (ok_iconst C dX4_of_36 (by decide)) <| ch_cons (pc := 37) (pc' := 38) (ok_istoren C dX4_of_37 rfl (by decide)) <| ch_last (pc := 38) (ok_fall rfl))
  · exact (ch_cons (pc := 38) (pc' := 39) (ok_iloadn C dX4_of_38 rfl) <| ch_cons (pc := 39) (pc' := 40) (ok_iconst C dX4_of_39 (by decide)) <| ch_last (pc := 40) (ok_icmp_ge (tgt := 68) C dX4_of_40 (by decide) rfl rfl))
  · exact (ch_cons (pc := 43) (pc' := 44) (ok_iconst C dX4_of_43 (by decide)) <| ch_cons (pc := 44) (pc' := 45) (ok_istoren C dX4_of_44 rfl (by decide)) <| ch_last (pc := 45) (ok_fall rfl))
  · exact (ch_cons (pc := 45) (pc' := 46) (ok_iloadn C dX4_of_45 rfl) <| ch_cons (pc := 46) (pc' := 47) (ok_iconst C dX4_of_46 (by decide)) <| ch_last (pc := 47) (ok_icmp_ge (tgt := 62) C dX4_of_47 (by decide) rfl rfl))
  · exact (ch_cons (pc := 50) (pc' := 51) (ok_aloadRn C dX4_of_50 rfl) <| ch_cons (pc := 51) (pc' := 52) (ok_iloadn C dX4_of_51 rfl) <| ch_cons (pc := 52) (pc' := 53) (ok_iloadn C dX4_of_52 rfl) <| ch_cons (pc := 53) (pc' := 56) (ok_callV (d := d) (maxL := 6) C hn hout hf hlo (sn_41 hS) rfl (kcl_at hE 2 rfl) (kG_v gw_117 gw_118 gw_119 gw_120 gw_101) (by decide) (by decide +kernel) dX4_of_53) <| ch_cons (pc := 56) (pc' := 59) (ok_iinc C dX4_of_56 (by decide) (by decide)) <| ch_last (pc := 59) (ok_goto (tgt := 45) C dX4_of_59 (by decide) rfl))
  · exact (ch_cons (pc := 62) (pc' := 65) (ok_iinc C dX4_of_62 (by decide) (by decide)) <| ch_last (pc := 65) (ok_goto (tgt := 38) C dX4_of_65 (by decide) rfl))
  · exact (ch_cons (pc := 68) (pc' := 69) (ok_aloadRn C dX4_of_68 rfl) <| ch_last (pc := 69) (ok_areturn C hr (Or.inl ⟨_, rfl⟩) dX4_of_69))
/-- Bijectory$Realm.listPaths()V -/
def bl_X4_listPaths (tb : List (List Int32)) (cl : kCall) : List (List kOp) := [
  [oS (gPush (.int 0)), oStoreI 1, oS (gPush (.int 0)), oStoreI 2, tGo 1],
  [oLoadI 2, oS (gPush (.int 1)), oS (gPush (.int 2)), oLoadR 0, oGet 6 2 0, oBin (fun x y => x * y), oBin (fun x y => x <<< (y &&& 31)), tCmp (fun x y => decide (y ≤ x)) 5 2],
  [oLoadI 2, oLoadR 0, oGet 6 2 0, oCall cl 4 2, tIf (fun x => decide (x = 0)) 4 3],
  [oLoadR 0, oGet 6 2 1, oLoadI 1, oLoadI 2, oCall cl 2 3, oIinc 1 1, tGo 4],
  [oIinc 2 1, tGo 1],
  [tVret]]
set_option maxRecDepth 100000 in
set_option maxHeartbeats 4000000 in
theorem mok_X4_listPaths {E : kE} {σ : List Nat} {l : Launch} {tb : List (List Int32)} (hE : kcl E = kCl) (hn : kn E = 6) (htb : ktb E = tb) : kMOK E (kXX (kb E)) σ kZs l kY kWS yX4_listPaths (kws yX4_listPaths cX4_listPaths 3 none) cX4_listPaths 3 none (fun cl => bl_X4_listPaths tb cl) := by
  intro d cl hS p e R s m args below meth c α0 nc0 ns0 res C hf hlo hr hnm hout
  have hXX : kXX (kb E) s := C.2.2.2.2.2.2.1.2.2.2.2
  refine ⟨fun b => [0, 4, 16, 27, 39, 45].getD b 0, rfl, kAllB_get (bl := bl_X4_listPaths tb cl) ⟨?_, ?_, ?_, ?_, ?_, ?_, trivial⟩⟩
  · exact (ch_cons (pc := 0) (pc' := 1) (ok_iconst C dX4_listPaths_0 (by decide)) <| ch_cons (pc := 1) (pc' := 2) (ok_istoren C dX4_listPaths_1 rfl (by decide)) <| ch_cons (pc := 2) (pc' := 3) (ok_iconst C dX4_listPaths_2 (by decide)) <| ch_cons (pc := 3) (pc' := 4) (ok_istoren C dX4_listPaths_3 rfl (by decide)) <| ch_last (pc := 4) (ok_fall rfl))
  · exact (ch_cons (pc := 4) (pc' := 5) (ok_iloadn C dX4_listPaths_4 rfl) <| ch_cons (pc := 5) (pc' := 6) (ok_iconst C dX4_listPaths_5 (by decide)) <| ch_cons (pc := 6) (pc' := 7) (ok_iconst C dX4_listPaths_6 (by decide)) <| ch_cons (pc := 7) (pc' := 8) (ok_aloadRn C dX4_listPaths_7 rfl) <| ch_cons (pc := 8) (pc' := 11) (ok_get C hn (fun w h => kG_in (inG_X4 w h)) (kcl_at hE 2 rfl) (by decide) (kG_in gw_91) (fun _ h => h) dX4_listPaths_8) <| ch_cons (pc := 11) (pc' := 12) (ok_imul C dX4_listPaths_11) <| ch_cons (pc := 12) (pc' := 13) (ok_ishl C dX4_listPaths_12) <| ch_last (pc := 13) (ok_icmp_ge (tgt := 45) C dX4_listPaths_13 (by decide) rfl rfl))
  · exact (ch_cons (pc := 16) (pc' := 17) (ok_iloadn C dX4_listPaths_16 rfl) <| ch_cons (pc := 17) (pc' := 18) (ok_aloadRn C dX4_listPaths_17 rfl) <| ch_cons (pc := 18) (pc' := 21) (ok_get C hn (fun w h => kG_in (inG_X4 w h)) (kcl_at hE 2 rfl) (by decide) (kG_in gw_91) (fun _ h => h) dX4_listPaths_18) <| ch_cons (pc := 21) (pc' := 24) (ok_callS (d := d) C hout hf hlo (sn_4 hS) rfl (kG_s gw_121 gw_122 gw_123 gw_3) (by decide) (by decide +kernel) dX4_listPaths_21) <| ch_last (pc := 24) (ok_if_eq (tgt := 39) C dX4_listPaths_24 (by decide) rfl rfl))
  · exact (ch_cons (pc := 27) (pc' := 28) (ok_aloadRn C dX4_listPaths_27 rfl) <| ch_cons (pc := 28) (pc' := 31) (ok_get C hn (fun w h => kG_in (inG_X4 w h)) (kcl_at hE 2 rfl) (by decide) (kG_in gw_93) (fun _ h => h) dX4_listPaths_28) <| ch_cons (pc := 31) (pc' := 32) (ok_iloadn C dX4_listPaths_31 rfl) <| ch_cons (pc := 32) (pc' := 33) (ok_iloadn C dX4_listPaths_32 rfl) <| ch_cons (pc := 33) (pc' := 36) (ok_callS (d := d) C hout hf hlo (sn_2 hS) rfl (kG_s gw_124 gw_125 gw_126 gw_42) (by decide) (by decide +kernel) dX4_listPaths_33) <| ch_cons (pc := 36) (pc' := 39) (ok_iinc C dX4_listPaths_36 (by decide) (by decide)) <| ch_last (pc := 39) (ok_fall rfl))
  · exact (ch_cons (pc := 39) (pc' := 42) (ok_iinc C dX4_listPaths_39 (by decide) (by decide)) <| ch_last (pc := 42) (ok_goto (tgt := 4) C dX4_listPaths_42 (by decide) rfl))
  · exact (ch_last (pc := 45) (ok_return C hr dX4_listPaths_45))
/-- Bijectory$Realm.listOrders()V -/
def bl_X4_listOrders (tb : List (List Int32)) (cl : kCall) : List (List kOp) := [
  [oS (gPush (.int 0)), oStoreI 1, tGo 1],
  [oLoadI 1, oLoadR 0, oGet 6 2 2, oAlen tb, tCmp (fun x y => decide (y ≤ x)) 3 2],
  [oLoadR 0, oGet 6 2 2, oLoadI 1, oLoadI 1, oLoadR 0, oGet 6 2 0, oCall cl 19 2, oCall cl 2 3, oIinc 1 1, tGo 1],
  [tVret]]
set_option maxRecDepth 100000 in
set_option maxHeartbeats 4000000 in
theorem mok_X4_listOrders {E : kE} {σ : List Nat} {l : Launch} {tb : List (List Int32)} (hE : kcl E = kCl) (hn : kn E = 6) (htb : ktb E = tb) : kMOK E (kXX (kb E)) σ kZs l kY kWS yX4_listOrders (kws yX4_listOrders cX4_listOrders 2 none) cX4_listOrders 2 none (fun cl => bl_X4_listOrders tb cl) := by
  intro d cl hS p e R s m args below meth c α0 nc0 ns0 res C hf hlo hr hnm hout
  have hXX : kXX (kb E) s := C.2.2.2.2.2.2.1.2.2.2.2
  refine ⟨fun b => [0, 2, 11, 33].getD b 0, rfl, kAllB_get (bl := bl_X4_listOrders tb cl) ⟨?_, ?_, ?_, ?_, trivial⟩⟩
  · exact (ch_cons (pc := 0) (pc' := 1) (ok_iconst C dX4_listOrders_0 (by decide)) <| ch_cons (pc := 1) (pc' := 2) (ok_istoren C dX4_listOrders_1 rfl (by decide)) <| ch_last (pc := 2) (ok_fall rfl))
  · exact (ch_cons (pc := 2) (pc' := 3) (ok_iloadn C dX4_listOrders_2 rfl) <| ch_cons (pc := 3) (pc' := 4) (ok_aloadRn C dX4_listOrders_3 rfl) <| ch_cons (pc := 4) (pc' := 7) (ok_get C hn (fun w h => kG_in (inG_X4 w h)) (kcl_at hE 2 rfl) (by decide) (kG_in gw_94) (fun _ h => h) dX4_listOrders_4) <| ch_cons (pc := 7) (pc' := 8) (ok_alen C htb dX4_listOrders_7) <| ch_last (pc := 8) (ok_icmp_ge (tgt := 33) C dX4_listOrders_8 (by decide) rfl rfl))
  · exact (ch_cons (pc := 11) (pc' := 12) (ok_aloadRn C dX4_listOrders_11 rfl) <| ch_cons (pc := 12) (pc' := 15) (ok_get C hn (fun w h => kG_in (inG_X4 w h)) (kcl_at hE 2 rfl) (by decide) (kG_in gw_94) (fun _ h => h) dX4_listOrders_12) <| ch_cons (pc := 15) (pc' := 16) (ok_iloadn C dX4_listOrders_15 rfl) <| ch_cons (pc := 16) (pc' := 17) (ok_iloadn C dX4_listOrders_16 rfl) <| ch_cons (pc := 17) (pc' := 18) (ok_aloadRn C dX4_listOrders_17 rfl) <| ch_cons (pc := 18) (pc' := 21) (ok_get C hn (fun w h => kG_in (inG_X4 w h)) (kcl_at hE 2 rfl) (by decide) (kG_in gw_91) (fun _ h => h) dX4_listOrders_18) <| ch_cons (pc := 21) (pc' := 24) (ok_callS (d := d) C hout hf hlo (sn_19 hS) rfl (kG_s gw_127 gw_128 gw_129 gw_46) (by decide) (by decide +kernel) dX4_listOrders_21) <| ch_cons (pc := 24) (pc' := 27) (ok_callS (d := d) C hout hf hlo (sn_2 hS) rfl (kG_s gw_124 gw_125 gw_126 gw_42) (by decide) (by decide +kernel) dX4_listOrders_24) <| ch_cons (pc := 27) (pc' := 30) (ok_iinc C dX4_listOrders_27 (by decide) (by decide)) <| ch_last (pc := 30) (ok_goto (tgt := 2) C dX4_listOrders_30 (by decide) rfl))
  · exact (ch_last (pc := 33) (ok_return C hr dX4_listOrders_33))
/-- Bijectory$Realm.listImages(I)V -/
def bl_X4_listImages (tb : List (List Int32)) (cl : kCall) : List (List kOp) := [
  [oGetS 0, oLoadI 1, oCall cl 0 2, oStoreI 2, oGetS 1, oLoadI 1, oCall cl 0 2, oStoreI 3, oS (gPush (.int 0)), oStoreI 4, tGo 1],
  [oLoadI 4, oLoadR 0, oLoadI 2, oCallV cl 45 1 2 6, tCmp (fun x y => decide (y ≤ x)) 3 2],
  [oLoadR 0, oGet 6 2 3, oLoadI 1, oLoadI 4, oLoadR 0, oLoadI 3, oLoadI 1, oLoadR 0, oLoadI 2, oLoadI 4, oCallV cl 46 2 2 6, oLoadR 0, oGet 6 2 0, oCall cl 42 3, oCallV cl 47 2 2 6, oCall cl 3 4, oIinc 4 1, tGo 1],
  [tVret]]
set_option maxRecDepth 100000 in
set_option maxHeartbeats 4000000 in
theorem mok_X4_listImages {E : kE} {σ : List Nat} {l : Launch} {tb : List (List Int32)} (hE : kcl E = kCl) (hn : kn E = 6) (htb : ktb E = tb) : kMOK E (kXX (kb E)) σ kZs l kY kWS yX4_listImages (kws yX4_listImages cX4_listImages 5 none) cX4_listImages 5 none (fun cl => bl_X4_listImages tb cl) := by
  intro d cl hS p e R s m args below meth c α0 nc0 ns0 res C hf hlo hr hnm hout
  have hXX : kXX (kb E) s := C.2.2.2.2.2.2.1.2.2.2.2
  refine ⟨fun b => [0, 19, 29, 65].getD b 0, rfl, kAllB_get (bl := bl_X4_listImages tb cl) ⟨?_, ?_, ?_, ?_, trivial⟩⟩
  · exact (ch_cons (pc := 0) (pc' := 3) (ok_getsN C zin_0 (xw_6 hXX) dX4_listImages_0) <| ch_cons (pc := 3) (pc' := 4) (ok_iloadn C dX4_listImages_3 rfl) <| ch_cons (pc := 4) (pc' := 7) (ok_callS (d := d) C hout hf hlo (sn_0 hS) rfl (kG_s gw_39 gw_89 gw_41 gw_42) (by decide) (by decide +kernel) dX4_listImages_4) <| ch_cons (pc := 7) (pc' := 8) (ok_istoren C dX4_listImages_7 rfl (by decide)) <| ch_cons (pc := 8) (pc' := 11) (ok_getsN C zin_1 (xw_7 hXX) dX4_listImages_8) <| ch_cons (pc := 11) (pc' := 12) (ok_iloadn C dX4_listImages_11 rfl) <| ch_cons (pc := 12) (pc' := 15) (ok_callS (d := d) C hout hf hlo (sn_0 hS) rfl (kG_s gw_39 gw_89 gw_41 gw_42) (by decide) (by decide +kernel) dX4_listImages_12) <| ch_cons (pc := 15) (pc' := 16) (ok_istoren C dX4_listImages_15 rfl (by decide)) <| ch_cons (pc := 16) (pc' := 17) (ok_iconst C dX4_listImages_16 (by decide)) <| ch_cons (pc := 17) (pc' := 19) (ok_istore C dX4_listImages_17 (by decide)) <| ch_last (pc := 19) (ok_fall rfl))
  · exact (ch_cons (pc := 19) (pc' := 21) (ok_iload C dX4_listImages_19) <| ch_cons (pc := 21) (pc' := 22) (ok_aloadRn C dX4_listImages_21 rfl) <| ch_cons (pc := 22) (pc' := 23) (ok_iloadn C dX4_listImages_22 rfl) <| ch_cons (pc := 23) (pc' := 26) (ok_callV (d := d) (maxL := 2) C hn hout hf hlo (sn_45 hS) rfl (kcl_at hE 2 rfl) (kG_v gw_130 gw_131 gw_132 gw_133 gw_101) (by decide) (by decide +kernel) dX4_listImages_23) <| ch_last (pc := 26) (ok_icmp_ge (tgt := 65) C dX4_listImages_26 (by decide) rfl rfl))
  · exact (ch_cons (pc := 29) (pc' := 30) (ok_aloadRn C dX4_listImages_29 rfl) <| ch_cons (pc := 30) (pc' := 33) (ok_get C hn (fun w h => kG_in (inG_X4 w h)) (kcl_at hE 2 rfl) (by decide) (kG_in gw_96) (fun _ h => h) dX4_listImages_30) <| ch_cons (pc := 33) (pc' := 34) (ok_iloadn C dX4_listImages_33 rfl) <| ch_cons (pc := 34) (pc' := 36) (ok_iload C dX4_listImages_34) <| ch_cons (pc := 36) (pc' := 37) (ok_aloadRn C dX4_listImages_36 rfl) <| ch_cons (pc := 37) (pc' := 38) (ok_iloadn C dX4_listImages_37 rfl) <| ch_cons (pc := 38) (pc' := 39) (ok_iloadn C dX4_listImages_38 rfl) <| ch_cons (pc := 39) (pc' := 40) (ok_aloadRn C dX4_listImages_39 rfl) <| ch_cons (pc := 40) (pc' := 41) (ok_iloadn C dX4_listImages_40 rfl) <| ch_cons (pc := 41) (pc' := 43) (ok_iload C dX4_listImages_41) <| ch_cons (pc := 43) (pc' := 46) (ok_callV (d := d) (maxL := 3) C hn hout hf hlo (sn_46 hS) rfl (kcl_at hE 2 rfl) (kG_v gw_134 gw_135 gw_136 gw_137 gw_101) (by decide) (by decide +kernel) dX4_listImages_43) <| ch_cons (pc := 46) (pc' := 47) (ok_aloadRn C dX4_listImages_46 rfl) <| ch_cons (pc := 47) (pc' := 50) (ok_get C hn (fun w h => kG_in (inG_X4 w h)) (kcl_at hE 2 rfl) (by decide) (kG_in gw_91) (fun _ h => h) dX4_listImages_47) <| ch_cons (pc := 50) (pc' := 53) (ok_callS (d := d) C hout hf hlo (sn_42 hS) rfl (kG_s gw_138 gw_139 gw_140 gw_101) (by decide) (by decide +kernel) dX4_listImages_50) <| ch_cons (pc := 53) (pc' := 56) (ok_callV (d := d) (maxL := 6) C hn hout hf hlo (sn_47 hS) rfl (kcl_at hE 2 rfl) (kG_v gw_141 gw_142 gw_143 gw_144 gw_101) (by decide) (by decide +kernel) dX4_listImages_53) <| ch_cons (pc := 56) (pc' := 59) (ok_callS (d := d) C hout hf hlo (sn_3 hS) rfl (kG_s gw_145 gw_146 gw_147 gw_42) (by decide) (by decide +kernel) dX4_listImages_56) <| ch_cons (pc := 59) (pc' := 62) (ok_iinc C dX4_listImages_59 (by decide) (by decide)) <| ch_last (pc := 62) (ok_goto (tgt := 19) C dX4_listImages_62 (by decide) rfl))
  · exact (ch_last (pc := 65) (ok_return C hr dX4_listImages_65))
/-- Bijectory$Realm.listValues(II)V -/
def bl_X4_listValues (tb : List (List Int32)) (cl : kCall) : List (List kOp) := [
  [oLoadI 1, oS (gPush (.int 4)), oBin (fun x y => x * y), oLoadI 2, oBin (fun x y => x + y), oStoreI 3, oS (gPush (.int 0)), oStoreI 4, tGo 1],
  [oLoadI 4, oLoadR 0, oLoadI 1, oCallV cl 45 1 2 6, tCmp (fun x y => decide (y ≤ x)) 3 2],
  [oLoadI 1, oLoadI 2, oLoadR 0, oLoadI 1, oLoadI 4, oCallV cl 46 2 2 6, oLoadR 0, oGet 6 2 0, oCall cl 43 4, oStoreI 5, oLoadR 0, oGet 6 2 4, oLoadI 3, oLoadI 4, oLoadI 5, oCall cl 3 4, oLoadR 0, oGet 6 2 5, oLoadI 3, oLoadI 5, oLoadR 0, oGet 6 2 5, oLoadI 3, oLoadI 5, oCall cl 1 3, oS (gPush (.int 1)), oBin (fun x y => x + y), oCall cl 3 4, oIinc 4 1, tGo 1],
  [tVret]]
set_option maxRecDepth 100000 in
set_option maxHeartbeats 4000000 in
theorem mok_X4_listValues {E : kE} {σ : List Nat} {l : Launch} {tb : List (List Int32)} (hE : kcl E = kCl) (hn : kn E = 6) (htb : ktb E = tb) : kMOK E (kXX (kb E)) σ kZs l kY kWS yX4_listValues (kws yX4_listValues cX4_listValues 6 none) cX4_listValues 6 none (fun cl => bl_X4_listValues tb cl) := by
  intro d cl hS p e R s m args below meth c α0 nc0 ns0 res C hf hlo hr hnm hout
  have hXX : kXX (kb E) s := C.2.2.2.2.2.2.1.2.2.2.2
  refine ⟨fun b => [0, 9, 19, 77].getD b 0, rfl, kAllB_get (bl := bl_X4_listValues tb cl) ⟨?_, ?_, ?_, ?_, trivial⟩⟩
  · exact (ch_cons (pc := 0) (pc' := 1) (ok_iloadn C dX4_listValues_0 rfl) <| ch_cons (pc := 1) (pc' := 2) (ok_iconst C dX4_listValues_1 (by decide)) <| ch_cons (pc := 2) (pc' := 3) (ok_imul C dX4_listValues_2) <| ch_cons (pc := 3) (pc' := 4) (ok_iloadn C dX4_listValues_3 rfl) <| ch_cons (pc := 4) (pc' := 5) (ok_iadd C dX4_listValues_4) <| ch_cons (pc := 5) (pc' := 6) (ok_istoren C dX4_listValues_5 rfl (by decide)) <| ch_cons (pc := 6) (pc' := 7) (ok_iconst C dX4_listValues_6 (by decide)) <| ch_cons (pc := 7) (pc' := 9) (ok_istore C dX4_listValues_7 (by decide)) <| ch_last (pc := 9) (ok_fall rfl))
  · exact (ch_cons (pc := 9) (pc' := 11) (ok_iload C dX4_listValues_9) <| ch_cons (pc := 11) (pc' := 12) (ok_aloadRn C dX4_listValues_11 rfl) <| ch_cons (pc := 12) (pc' := 13) (ok_iloadn C dX4_listValues_12 rfl) <| ch_cons (pc := 13) (pc' := 16) (ok_callV (d := d) (maxL := 2) C hn hout hf hlo (sn_45 hS) rfl (kcl_at hE 2 rfl) (kG_v gw_130 gw_131 gw_132 gw_133 gw_101) (by decide) (by decide +kernel) dX4_listValues_13) <| ch_last (pc := 16) (ok_icmp_ge (tgt := 77) C dX4_listValues_16 (by decide) rfl rfl))
  · exact (ch_cons (pc := 19) (pc' := 20) (ok_iloadn C dX4_listValues_19 rfl) <| ch_cons (pc := 20) (pc' := 21) (ok_iloadn C dX4_listValues_20 rfl) <| ch_cons (pc := 21) (pc' := 22) (ok_aloadRn C dX4_listValues_21 rfl) <| ch_cons (pc := 22) (pc' := 23) (ok_iloadn C dX4_listValues_22 rfl) <| ch_cons (pc := 23) (pc' := 25) (ok_iload C dX4_listValues_23) <| ch_cons (pc := 25) (pc' := 28) (ok_callV (d := d) (maxL := 3) C hn hout hf hlo (sn_46 hS) rfl (kcl_at hE 2 rfl) (kG_v gw_134 gw_135 gw_136 gw_137 gw_101) (by decide) (by decide +kernel) dX4_listValues_25) <| ch_cons (pc := 28) (pc' := 29) (ok_aloadRn C dX4_listValues_28 rfl) <| ch_cons (pc := 29) (pc' := 32) (ok_get C hn (fun w h => kG_in (inG_X4 w h)) (kcl_at hE 2 rfl) (by decide) (kG_in gw_91) (fun _ h => h) dX4_listValues_29) <| ch_cons (pc := 32) (pc' := 35) (ok_callS (d := d) C hout hf hlo (sn_43 hS) rfl (kG_s gw_148 gw_149 gw_150 gw_101) (by decide) (by decide +kernel) dX4_listValues_32) <| ch_cons (pc := 35) (pc' := 37) (ok_istore C dX4_listValues_35 (by decide)) <| ch_cons (pc := 37) (pc' := 38) (ok_aloadRn C dX4_listValues_37 rfl) <| ch_cons (pc := 38) (pc' := 41) (ok_get C hn (fun w h => kG_in (inG_X4 w h)) (kcl_at hE 2 rfl) (by decide) (kG_in gw_97) (fun _ h => h) dX4_listValues_38) <| ch_cons (pc := 41) (pc' := 42) (ok_iloadn C dX4_listValues_41 rfl) <| ch_cons (pc := 42) (pc' := 44) (ok_iload C dX4_listValues_42) <| ch_cons (pc := 44) (pc' := 46) (ok_iload C dX4_listValues_44) <| ch_cons (pc := 46) (pc' := 49) (ok_callS (d := d) C hout hf hlo (sn_3 hS) rfl (kG_s gw_145 gw_146 gw_147 gw_42) (by decide) (by decide +kernel) dX4_listValues_46) <| ch_cons (pc := 49) (pc' := 50) (ok_aloadRn C dX4_listValues_49 rfl) <| ch_cons (pc := 50) (pc' := 53) (ok_get C hn (fun w h => kG_in (inG_X4 w h)) (kcl_at hE 2 rfl) (by decide) (kG_in gw_98) (fun _ h => h) dX4_listValues_50) <| ch_cons (pc := 53) (pc' := 54) (ok_iloadn C dX4_listValues_53 rfl) <| ch_cons (pc := 54) (pc' := 56) (ok_iload C dX4_listValues_54) <| ch_cons (pc := 56) (pc' := 57) (ok_aloadRn C dX4_listValues_56 rfl) <| ch_cons (pc := 57) (pc' := 60) (ok_get C hn (fun w h => kG_in (inG_X4 w h)) (kcl_at hE 2 rfl) (by decide) (kG_in gw_98) (fun _ h => h) dX4_listValues_57) <| ch_cons (pc := 60) (pc' := 61) (ok_iloadn C dX4_listValues_60 rfl) <| ch_cons (pc := 61) (pc' := 63) (ok_iload C dX4_listValues_61) <| ch_cons (pc := 63) (pc' := 66) (ok_callS (d := d) C hout hf hlo (sn_1 hS) rfl (kG_s gw_151 gw_152 gw_153 gw_42) (by decide) (by decide +kernel) dX4_listValues_63) <| ch_cons (pc := 66) (pc' := 67) (ok_iconst C dX4_listValues_66 (by decide)) <| ch_cons (pc := 67) (pc' := 68) (ok_iadd C dX4_listValues_67) <| ch_cons (pc := 68) (pc' := 71) (ok_callS (d := d) C hout hf hlo (sn_3 hS) rfl (kG_s gw_145 gw_146 gw_147 gw_42) (by decide) (by decide +kernel) dX4_listValues_68) <| ch_cons (pc := 71) (pc' := 74) (ok_iinc C dX4_listValues_71 (by decide) (by decide)) <| ch_last (pc := 74) (ok_goto (tgt := 9) C dX4_listValues_74 (by decide) rfl))
  · exact (ch_last (pc := 77) (ok_return C hr dX4_listValues_77))
/-- Bijectory$Realm.imageCode(III)I -/
def bl_X4_imageCode (tb : List (List Int32)) (cl : kCall) : List (List kOp) := [
  [oLoadI 0, tTab 0 [10, 1, 10, 2, 3, 4, 5, 6, 7, 8, 9] 10],
  [oLoadI 1, oLoadI 2, oCall cl 10 2, tIret],
  [oLoadI 1, oLoadI 2, oCall cl 33 2, tIret],
  [oLoadI 1, oLoadI 2, oCall cl 11 2, tIret],
  [oLoadI 1, oLoadI 2, oCall cl 12 2, tIret],
  [oLoadI 1, oLoadI 2, oS (gPush (.int 0)), oCall cl 34 3, tIret],
  [oLoadI 1, oLoadI 2, oS (gPush (.int 1)), oLoadI 2, oCall cl 21 4, tIret],
  [oLoadI 1, oLoadI 2, oCall cl 22 2, tIret],
  [oLoadI 1, oLoadI 2, oCall cl 23 2, tIret],
  [oLoadI 1, oLoadI 2, oCall cl 24 2, tIret],
  [oLoadI 1, tIret]]
set_option maxRecDepth 100000 in
set_option maxHeartbeats 4000000 in
theorem mok_X4_imageCode {E : kE} {σ : List Nat} {l : Launch} {tb : List (List Int32)} (hE : kcl E = kCl) (hn : kn E = 6) (htb : ktb E = tb) : kMOK E (kXX (kb E)) σ kZs l kY kWS yX4_imageCode (kws yX4_imageCode cX4_imageCode 3 (some .int)) cX4_imageCode 3 (some .int) (fun cl => bl_X4_imageCode tb cl) := by
  intro d cl hS p e R s m args below meth c α0 nc0 ns0 res C hf hlo hr hnm hout
  have hXX : kXX (kb E) s := C.2.2.2.2.2.2.1.2.2.2.2
  refine ⟨fun b => [0, 60, 66, 72, 78, 84, 91, 99, 105, 111, 117].getD b 0, rfl, kAllB_get (bl := bl_X4_imageCode tb cl) ⟨?_, ?_, ?_, ?_, ?_, ?_, ?_, ?_, ?_, ?_, ?_, trivial⟩⟩
  · exact (ch_cons (pc := 0) (pc' := 1) (ok_iloadn C dX4_imageCode_0 rfl) <| ch_last (pc := 1) (ok_table (td := 117) C dX4_imageCode_1 (by decide) (by decide) (by decide) rfl))
  · exact (ch_cons (pc := 60) (pc' := 61) (ok_iloadn C dX4_imageCode_60 rfl) <| ch_cons (pc := 61) (pc' := 62) (ok_iloadn C dX4_imageCode_61 rfl) <| ch_cons (pc := 62) (pc' := 65) (ok_callSN (d := d) C hout hf hlo (sn_10 hS) rfl (kG_ws gw_10) (kG_in gw_12) (kG_in gw_3) (xw_8 hXX) (by decide) (by decide +kernel) dX4_imageCode_62) <| ch_last (pc := 65) (ok_ireturn C hr dX4_imageCode_65))
  · exact (ch_cons (pc := 66) (pc' := 67) (ok_iloadn C dX4_imageCode_66 rfl) <| ch_cons (pc := 67) (pc' := 68) (ok_iloadn C dX4_imageCode_67 rfl) <| ch_cons (pc := 68) (pc' := 71) (ok_callSN (d := d) C hout hf hlo (sn_33 hS) rfl (kG_ws gw_71) (kG_in gw_73) (kG_in gw_16) (xw_9 hXX) (by decide) (by decide +kernel) dX4_imageCode_68) <| ch_last (pc := 71) (ok_ireturn C hr dX4_imageCode_71))
  · exact (ch_cons (pc := 72) (pc' := 73) (ok_iloadn C dX4_imageCode_72 rfl) <| ch_cons (pc := 73) (pc' := 74) (ok_iloadn C dX4_imageCode_73 rfl) <| ch_cons (pc := 74) (pc' := 77) (ok_callS (d := d) C hout hf hlo (sn_11 hS) rfl (kG_s gw_154 gw_155 gw_156 gw_3) (by decide) (by decide +kernel) dX4_imageCode_74) <| ch_last (pc := 77) (ok_ireturn C hr dX4_imageCode_77))
  · exact (ch_cons (pc := 78) (pc' := 79) (ok_iloadn C dX4_imageCode_78 rfl) <| ch_cons (pc := 79) (pc' := 80) (ok_iloadn C dX4_imageCode_79 rfl) <| ch_cons (pc := 80) (pc' := 83) (ok_callS (d := d) C hout hf hlo (sn_12 hS) rfl (kG_s gw_157 gw_158 gw_159 gw_3) (by decide) (by decide +kernel) dX4_imageCode_80) <| ch_last (pc := 83) (ok_ireturn C hr dX4_imageCode_83))
  · exact (ch_cons (pc := 84) (pc' := 85) (ok_iloadn C dX4_imageCode_84 rfl) <| ch_cons (pc := 85) (pc' := 86) (ok_iloadn C dX4_imageCode_85 rfl) <| ch_cons (pc := 86) (pc' := 87) (ok_iconst C dX4_imageCode_86 (by decide)) <| ch_cons (pc := 87) (pc' := 90) (ok_callSN (d := d) C hout hf hlo (sn_34 hS) rfl (kG_ws gw_78) (kG_in gw_80) (kG_in gw_16) (xw_10 hXX) (by decide) (by decide +kernel) dX4_imageCode_87) <| ch_last (pc := 90) (ok_ireturn C hr dX4_imageCode_90))
  · exact (ch_cons (pc := 91) (pc' := 92) (ok_iloadn C dX4_imageCode_91 rfl) <| ch_cons (pc := 92) (pc' := 93) (ok_iloadn C dX4_imageCode_92 rfl) <| ch_cons (pc := 93) (pc' := 94) (ok_iconst C dX4_imageCode_93 (by decide)) <| ch_cons (pc := 94) (pc' := 95) (ok_iloadn C dX4_imageCode_94 rfl) <| ch_cons (pc := 95) (pc' := 98) (ok_callSN (d := d) C hout hf hlo (sn_21 hS) rfl (kG_ws gw_50) (kG_in gw_52) (kG_in gw_46) (xw_11 hXX) (by decide) (by decide +kernel) dX4_imageCode_95) <| ch_last (pc := 98) (ok_ireturn C hr dX4_imageCode_98))
  · exact (ch_cons (pc := 99) (pc' := 100) (ok_iloadn C dX4_imageCode_99 rfl) <| ch_cons (pc := 100) (pc' := 101) (ok_iloadn C dX4_imageCode_100 rfl) <| ch_cons (pc := 101) (pc' := 104) (ok_callS (d := d) C hout hf hlo (sn_22 hS) rfl (kG_s gw_160 gw_161 gw_162 gw_46) (by decide) (by decide +kernel) dX4_imageCode_101) <| ch_last (pc := 104) (ok_ireturn C hr dX4_imageCode_104))
  · exact (ch_cons (pc := 105) (pc' := 106) (ok_iloadn C dX4_imageCode_105 rfl) <| ch_cons (pc := 106) (pc' := 107) (ok_iloadn C dX4_imageCode_106 rfl) <| ch_cons (pc := 107) (pc' := 110) (ok_callS (d := d) C hout hf hlo (sn_23 hS) rfl (kG_s gw_163 gw_164 gw_165 gw_46) (by decide) (by decide +kernel) dX4_imageCode_107) <| ch_last (pc := 110) (ok_ireturn C hr dX4_imageCode_110))
  · exact (ch_cons (pc := 111) (pc' := 112) (ok_iloadn C dX4_imageCode_111 rfl) <| ch_cons (pc := 112) (pc' := 113) (ok_iloadn C dX4_imageCode_112 rfl) <| ch_cons (pc := 113) (pc' := 116) (ok_callS (d := d) C hout hf hlo (sn_24 hS) rfl (kG_s gw_166 gw_167 gw_168 gw_46) (by decide) (by decide +kernel) dX4_imageCode_113) <| ch_last (pc := 116) (ok_ireturn C hr dX4_imageCode_116))
  · exact (ch_cons (pc := 117) (pc' := 118) (ok_iloadn C dX4_imageCode_117 rfl) <| ch_last (pc := 118) (ok_ireturn C hr dX4_imageCode_118))
/-- Bijectory$Realm.valueByCode(IIII)I -/
def bl_X4_valueByCode (tb : List (List Int32)) (cl : kCall) : List (List kOp) := [
  [oLoadI 0, tLook [(0, 1), (1, 2)] 3],
  [oLoadI 1, oLoadI 2, oLoadI 3, oCall cl 13 3, tIret],
  [oLoadI 1, oLoadI 2, oLoadI 3, oCall cl 35 3, tIret],
  [oLoadI 1, oLoadI 2, oLoadI 3, oCall cl 25 3, tIret]]
set_option maxRecDepth 100000 in
set_option maxHeartbeats 4000000 in
theorem mok_X4_valueByCode {E : kE} {σ : List Nat} {l : Launch} {tb : List (List Int32)} (hE : kcl E = kCl) (hn : kn E = 6) (htb : ktb E = tb) : kMOK E (kXX (kb E)) σ kZs l kY kWS yX4_valueByCode (kws yX4_valueByCode cX4_valueByCode 4 (some .int)) cX4_valueByCode 4 (some .int) (fun cl => bl_X4_valueByCode tb cl) := by
  intro d cl hS p e R s m args below meth c α0 nc0 ns0 res C hf hlo hr hnm hout
  have hXX : kXX (kb E) s := C.2.2.2.2.2.2.1.2.2.2.2
  refine ⟨fun b => [0, 28, 35, 42].getD b 0, rfl, kAllB_get (bl := bl_X4_valueByCode tb cl) ⟨?_, ?_, ?_, ?_, trivial⟩⟩
  · exact (ch_cons (pc := 0) (pc' := 1) (ok_iloadn C dX4_valueByCode_0 rfl) <| ch_last (pc := 1) (ok_look (td := 42) C dX4_valueByCode_1 (by decide) (by decide) (by decide) rfl))
  · exact (ch_cons (pc := 28) (pc' := 29) (ok_iloadn C dX4_valueByCode_28 rfl) <| ch_cons (pc := 29) (pc' := 30) (ok_iloadn C dX4_valueByCode_29 rfl) <| ch_cons (pc := 30) (pc' := 31) (ok_iloadn C dX4_valueByCode_30 rfl) <| ch_cons (pc := 31) (pc' := 34) (ok_callS (d := d) C hout hf hlo (sn_13 hS) rfl (kG_s gw_169 gw_170 gw_171 gw_3) (by decide) (by decide +kernel) dX4_valueByCode_31) <| ch_last (pc := 34) (ok_ireturn C hr dX4_valueByCode_34))
  · exact (ch_cons (pc := 35) (pc' := 36) (ok_iloadn C dX4_valueByCode_35 rfl) <| ch_cons (pc := 36) (pc' := 37) (ok_iloadn C dX4_valueByCode_36 rfl) <| ch_cons (pc := 37) (pc' := 38) (ok_iloadn C dX4_valueByCode_37 rfl) <| ch_cons (pc := 38) (pc' := 41) (ok_callSN (d := d) C hout hf hlo (sn_35 hS) rfl (kG_ws gw_82) (kG_in gw_84) (kG_in gw_16) (xw_12 hXX) (by decide) (by decide +kernel) dX4_valueByCode_38) <| ch_last (pc := 41) (ok_ireturn C hr dX4_valueByCode_41))
  · exact (ch_cons (pc := 42) (pc' := 43) (ok_iloadn C dX4_valueByCode_42 rfl) <| ch_cons (pc := 43) (pc' := 44) (ok_iloadn C dX4_valueByCode_43 rfl) <| ch_cons (pc := 44) (pc' := 45) (ok_iloadn C dX4_valueByCode_44 rfl) <| ch_cons (pc := 45) (pc' := 48) (ok_callS (d := d) C hout hf hlo (sn_25 hS) rfl (kG_s gw_172 gw_173 gw_174 gw_46) (by decide) (by decide +kernel) dX4_valueByCode_45) <| ch_last (pc := 48) (ok_ireturn C hr dX4_valueByCode_48))
/-- Bijectory$Realm.codes(I)[I -/
def bl_X4_codes (tb : List (List Int32)) (cl : kCall) : List (List kOp) := [
  [oLoadI 1, oS (gPush (.int 2)), tCmp (fun x y => !decide (x = y)) 2 1],
  [oLoadR 0, oGet 6 2 2, tGo 3],
  [oLoadR 0, oGet 6 2 1, tGo 3],
  [tAret]]
set_option maxRecDepth 100000 in
set_option maxHeartbeats 4000000 in
theorem mok_X4_codes {E : kE} {σ : List Nat} {l : Launch} {tb : List (List Int32)} (hE : kcl E = kCl) (hn : kn E = 6) (htb : ktb E = tb) : kMOK E (kXX (kb E)) σ kZs l kY kWS yX4_codes (kws yX4_codes cX4_codes 2 (some (.array .int))) cX4_codes 2 (some (.array .int)) (fun cl => bl_X4_codes tb cl) := by
  intro d cl hS p e R s m args below meth c α0 nc0 ns0 res C hf hlo hr hnm hout
  have hXX : kXX (kb E) s := C.2.2.2.2.2.2.1.2.2.2.2
  refine ⟨fun b => [0, 5, 12, 16].getD b 0, rfl, kAllB_get (bl := bl_X4_codes tb cl) ⟨?_, ?_, ?_, ?_, trivial⟩⟩
  · exact (ch_cons (pc := 0) (pc' := 1) (ok_iloadn C dX4_codes_0 rfl) <| ch_cons (pc := 1) (pc' := 2) (ok_iconst C dX4_codes_1 (by decide)) <| ch_last (pc := 2) (ok_icmp_ne (tgt := 12) C dX4_codes_2 (by decide) rfl rfl))
  · exact (ch_cons (pc := 5) (pc' := 6) (ok_aloadRn C dX4_codes_5 rfl) <| ch_cons (pc := 6) (pc' := 9) (ok_get C hn (fun w h => kG_in (inG_X4 w h)) (kcl_at hE 2 rfl) (by decide) (kG_in gw_94) (fun _ h => h) dX4_codes_6) <| ch_last (pc := 9) (ok_goto (tgt := 16) C dX4_codes_9 (by decide) rfl))
  · exact (ch_cons (pc := 12) (pc' := 13) (ok_aloadRn C dX4_codes_12 rfl) <| ch_cons (pc := 13) (pc' := 16) (ok_get C hn (fun w h => kG_in (inG_X4 w h)) (kcl_at hE 2 rfl) (by decide) (kG_in gw_93) (fun _ h => h) dX4_codes_13) <| ch_last (pc := 16) (ok_fall rfl))
  · exact (ch_last (pc := 16) (ok_areturn C hr (Or.inr ⟨_, rfl⟩) dX4_codes_16))
/-- Bijectory$Realm.count(I)I -/
def bl_X4_count (tb : List (List Int32)) (cl : kCall) : List (List kOp) := [
  [oLoadR 0, oLoadI 1, oCallV cl 44 1 2 6, oAlen tb, tIret]]
set_option maxRecDepth 100000 in
set_option maxHeartbeats 4000000 in
theorem mok_X4_count {E : kE} {σ : List Nat} {l : Launch} {tb : List (List Int32)} (hE : kcl E = kCl) (hn : kn E = 6) (htb : ktb E = tb) : kMOK E (kXX (kb E)) σ kZs l kY kWS yX4_count (kws yX4_count cX4_count 2 (some .int)) cX4_count 2 (some .int) (fun cl => bl_X4_count tb cl) := by
  intro d cl hS p e R s m args below meth c α0 nc0 ns0 res C hf hlo hr hnm hout
  have hXX : kXX (kb E) s := C.2.2.2.2.2.2.1.2.2.2.2
  refine ⟨fun b => [0].getD b 0, rfl, kAllB_get (bl := bl_X4_count tb cl) ⟨?_, trivial⟩⟩
  · exact (ch_cons (pc := 0) (pc' := 1) (ok_aloadRn C dX4_count_0 rfl) <| ch_cons (pc := 1) (pc' := 2) (ok_iloadn C dX4_count_1 rfl) <| ch_cons (pc := 2) (pc' := 5) (ok_callV (d := d) (maxL := 2) C hn hout hf hlo (sn_44 hS) rfl (kcl_at hE 2 rfl) (kG_v gw_175 gw_176 gw_177 gw_178 gw_101) (by decide) (by decide +kernel) dX4_count_2) <| ch_cons (pc := 5) (pc' := 6) (ok_alen C htb dX4_count_5) <| ch_last (pc := 6) (ok_ireturn C hr dX4_count_6))
/-- Bijectory$Realm.codeOf(II)I -/
def bl_X4_codeOf (tb : List (List Int32)) (cl : kCall) : List (List kOp) := [
  [oLoadR 0, oLoadI 1, oCallV cl 44 1 2 6, oLoadI 2, oCall cl 0 2, tIret]]
set_option maxRecDepth 100000 in
set_option maxHeartbeats 4000000 in
theorem mok_X4_codeOf {E : kE} {σ : List Nat} {l : Launch} {tb : List (List Int32)} (hE : kcl E = kCl) (hn : kn E = 6) (htb : ktb E = tb) : kMOK E (kXX (kb E)) σ kZs l kY kWS yX4_codeOf (kws yX4_codeOf cX4_codeOf 3 (some .int)) cX4_codeOf 3 (some .int) (fun cl => bl_X4_codeOf tb cl) := by
  intro d cl hS p e R s m args below meth c α0 nc0 ns0 res C hf hlo hr hnm hout
  have hXX : kXX (kb E) s := C.2.2.2.2.2.2.1.2.2.2.2
  refine ⟨fun b => [0].getD b 0, rfl, kAllB_get (bl := bl_X4_codeOf tb cl) ⟨?_, trivial⟩⟩
  · exact (ch_cons (pc := 0) (pc' := 1) (ok_aloadRn C dX4_codeOf_0 rfl) <| ch_cons (pc := 1) (pc' := 2) (ok_iloadn C dX4_codeOf_1 rfl) <| ch_cons (pc := 2) (pc' := 5) (ok_callV (d := d) (maxL := 2) C hn hout hf hlo (sn_44 hS) rfl (kcl_at hE 2 rfl) (kG_v gw_175 gw_176 gw_177 gw_178 gw_101) (by decide) (by decide +kernel) dX4_codeOf_2) <| ch_cons (pc := 5) (pc' := 6) (ok_iloadn C dX4_codeOf_5 rfl) <| ch_cons (pc := 6) (pc' := 9) (ok_callS (d := d) C hout hf hlo (sn_0 hS) rfl (kG_s gw_39 gw_89 gw_41 gw_42) (by decide) (by decide +kernel) dX4_codeOf_6) <| ch_last (pc := 9) (ok_ireturn C hr dX4_codeOf_9))
/-- Bijectory$Realm.rankOf(II)I -/
def bl_X4_rankOf (tb : List (List Int32)) (cl : kCall) : List (List kOp) := [
  [oLoadR 0, oLoadI 1, oCallV cl 44 1 2 6, oStoreR 3, oS (gPush (.int (-1))), oStoreI 4, oS (gPush (.int 512)), oStoreI 5, tGo 1],
  [oLoadI 5, tIf (fun x => decide (x ≤ 0)) 6 2],
  [oLoadI 4, oLoadI 5, oBin (fun x y => x + y), oLoadR 3, oAlen tb, tCmp (fun x y => decide (y ≤ x)) 5 3],
  [oLoadR 3, oLoadI 4, oLoadI 5, oBin (fun x y => x + y), oCall cl 0 2, oLoadI 2, tCmp (fun x y => decide (y < x)) 5 4],
  [oLoadI 4, oLoadI 5, oBin (fun x y => x + y), oStoreI 4, tGo 5],
  [oLoadI 5, oS (gPush (.int 2)), oBin0 (fun x y => x / y), oStoreI 5, tGo 1],
  [oLoadI 4, tIf (fun x => decide (x < 0)) 9 7],
  [oLoadR 3, oLoadI 4, oCall cl 0 2, oLoadI 2, tCmp (fun x y => !decide (x = y)) 9 8],
  [oLoadI 4, tGo 10],
  [oS (gPush (.int (-1))), tGo 10],
  [tIret]]
set_option maxRecDepth 100000 in
set_option maxHeartbeats 4000000 in
theorem mok_X4_rankOf {E : kE} {σ : List Nat} {l : Launch} {tb : List (List Int32)} (hE : kcl E = kCl) (hn : kn E = 6) (htb : ktb E = tb) : kMOK E (kXX (kb E)) σ kZs l kY kWS yX4_rankOf (kws yX4_rankOf cX4_rankOf 6 (some .int)) cX4_rankOf 6 (some .int) (fun cl => bl_X4_rankOf tb cl) := by
  intro d cl hS p e R s m args below meth c α0 nc0 ns0 res C hf hlo hr hnm hout
  have hXX : kXX (kb E) s := C.2.2.2.2.2.2.1.2.2.2.2
  refine ⟨fun b => [0, 14, 19, 29, 42, 49, 58, 63, 73, 78, 79].getD b 0, rfl, kAllB_get (bl := bl_X4_rankOf tb cl) ⟨?_, ?_, ?_, ?_, ?_, ?_, ?_, ?_, ?_, ?_, ?_, trivial⟩⟩
  · exact (ch_cons (pc := 0) (pc' := 1) (ok_aloadRn C dX4_rankOf_0 rfl) <| ch_cons (pc := 1) (pc' := 2) (ok_iloadn C dX4_rankOf_1 rfl) <| ch_cons (pc := 2) (pc' := 5) (ok_callV (d := d) (maxL := 2) C hn hout hf hlo (sn_44 hS) rfl (kcl_at hE 2 rfl) (kG_v gw_175 gw_176 gw_177 gw_178 gw_101) (by decide) (by decide +kernel) dX4_rankOf_2) <| ch_cons (pc := 5) (pc' := 6) (ok_astoreRn C dX4_rankOf_5 rfl (by decide)) <| ch_cons (pc := 6) (pc' := 7) (ok_iconst C dX4_rankOf_6 (by decide)) <| ch_cons (pc := 7) (pc' := 9) (ok_istore C dX4_rankOf_7 (by decide)) <| ch_cons (pc := 9) (pc' := 12) (ok_sipush C dX4_rankOf_9 (by decide)) <| ch_cons (pc := 12) (pc' := 14) (ok_istore C dX4_rankOf_12 (by decide)) <| ch_last (pc := 14) (ok_fall rfl))
  · exact (ch_cons (pc := 14) (pc' := 16) (ok_iload C dX4_rankOf_14) <| ch_last (pc := 16) (ok_if_le (tgt := 58) C dX4_rankOf_16 (by decide) rfl rfl))
  · exact (ch_cons (pc := 19) (pc' := 21) (ok_iload C dX4_rankOf_19) <| ch_cons (pc := 21) (pc' := 23) (ok_iload C dX4_rankOf_21) <| ch_cons (pc := 23) (pc' := 24) (ok_iadd C dX4_rankOf_23) <| ch_cons (pc := 24) (pc' := 25) (ok_aloadRn C dX4_rankOf_24 rfl) <| ch_cons (pc := 25) (pc' := 26) (ok_alen C htb dX4_rankOf_25) <| ch_last (pc := 26) (ok_icmp_ge (tgt := 49) C dX4_rankOf_26 (by decide) rfl rfl))
  · exact (ch_cons (pc := 29) (pc' := 30) (ok_aloadRn C dX4_rankOf_29 rfl) <| ch_cons (pc := 30) (pc' := 32) (ok_iload C dX4_rankOf_30) <| ch_cons (pc := 32) (pc' := 34) (ok_iload C dX4_rankOf_32) <| ch_cons (pc := 34) (pc' := 35) (ok_iadd C dX4_rankOf_34) <| ch_cons (pc := 35) (pc' := 38) (ok_callS (d := d) C hout hf hlo (sn_0 hS) rfl (kG_s gw_39 gw_89 gw_41 gw_42) (by decide) (by decide +kernel) dX4_rankOf_35) <| ch_cons (pc := 38) (pc' := 39) (ok_iloadn C dX4_rankOf_38 rfl) <| ch_last (pc := 39) (ok_icmp_gt (tgt := 49) C dX4_rankOf_39 (by decide) rfl rfl))
  · exact (ch_cons (pc := 42) (pc' := 44) (ok_iload C dX4_rankOf_42) <| ch_cons (pc := 44) (pc' := 46) (ok_iload C dX4_rankOf_44) <| ch_cons (pc := 46) (pc' := 47) (ok_iadd C dX4_rankOf_46) <| ch_cons (pc := 47) (pc' := 49) (ok_istore C dX4_rankOf_47 (by decide)) <| ch_last (pc := 49) (ok_fall rfl))
  · exact (ch_cons (pc := 49) (pc' := 51) (ok_iload C dX4_rankOf_49) <| ch_cons (pc := 51) (pc' := 52) (ok_iconst C dX4_rankOf_51 (by decide)) <| ch_cons (pc := 52) (pc' := 53) (ok_idiv C dX4_rankOf_52) <| ch_cons (pc := 53) (pc' := 55) (ok_istore C dX4_rankOf_53 (by decide)) <| ch_last (pc := 55) (ok_goto (tgt := 14) C dX4_rankOf_55 (by decide) rfl))
  · exact (ch_cons (pc := 58) (pc' := 60) (ok_iload C dX4_rankOf_58) <| ch_last (pc := 60) (ok_if_lt (tgt := 78) C dX4_rankOf_60 (by decide) rfl rfl))
  · exact (ch_cons (pc := 63) (pc' := 64) (ok_aloadRn C dX4_rankOf_63 rfl) <| ch_cons (pc := 64) (pc' := 66) (ok_iload C dX4_rankOf_64) <| ch_cons (pc := 66) (pc' := 69) (ok_callS (d := d) C hout hf hlo (sn_0 hS) rfl (kG_s gw_39 gw_89 gw_41 gw_42) (by decide) (by decide +kernel) dX4_rankOf_66) <| ch_cons (pc := 69) (pc' := 70) (ok_iloadn C dX4_rankOf_69 rfl) <| ch_last (pc := 70) (ok_icmp_ne (tgt := 78) C dX4_rankOf_70 (by decide) rfl rfl))
  · exact (ch_cons (pc := 73) (pc' := 75) (ok_iload C dX4_rankOf_73) <| ch_last (pc := 75) (ok_goto (tgt := 79) C dX4_rankOf_75 (by decide) rfl))
  · exact (ch_cons (pc := 78) (pc' := 79) (ok_iconst C dX4_rankOf_78 (by decide)) <| ch_last (pc := 79) (ok_fall rfl))
  · exact (ch_last (pc := 79) (ok_ireturn C hr dX4_rankOf_79))
/-- Bijectory$Realm.through(LBijectory$Chart;I)I -/
def bl_X4_through (tb : List (List Int32)) (cl : kCall) : List (List kOp) := [
  [oLoadI 2, oStoreI 3, oS (gPush (.int 0)), oStoreI 4, tGo 1],
  [oLoadI 4, oLoadR 1, oGet 6 0 3, tCmp (fun x y => decide (y ≤ x)) 3 2],
  [oLoadR 0, oGet 6 2 3, oLoadR 1, oLoadI 4, oCallV cl 54 1 0 6, oLoadI 3, oCall cl 1 3, oStoreI 3, oIinc 4 1, tGo 1],
  [oLoadI 3, tIret]]
set_option maxRecDepth 100000 in
set_option maxHeartbeats 4000000 in
theorem mok_X4_through {E : kE} {σ : List Nat} {l : Launch} {tb : List (List Int32)} (hE : kcl E = kCl) (hn : kn E = 6) (htb : ktb E = tb) : kMOK E (kXX (kb E)) σ kZs l kY kWS yX4_through (kws yX4_through cX4_through 5 (some .int)) cX4_through 5 (some .int) (fun cl => bl_X4_through tb cl) := by
  intro d cl hS p e R s m args below meth c α0 nc0 ns0 res C hf hlo hr hnm hout
  have hXX : kXX (kb E) s := C.2.2.2.2.2.2.1.2.2.2.2
  refine ⟨fun b => [0, 5, 14, 35].getD b 0, rfl, kAllB_get (bl := bl_X4_through tb cl) ⟨?_, ?_, ?_, ?_, trivial⟩⟩
  · exact (ch_cons (pc := 0) (pc' := 1) (ok_iloadn C dX4_through_0 rfl) <| ch_cons (pc := 1) (pc' := 2) (ok_istoren C dX4_through_1 rfl (by decide)) <| ch_cons (pc := 2) (pc' := 3) (ok_iconst C dX4_through_2 (by decide)) <| ch_cons (pc := 3) (pc' := 5) (ok_istore C dX4_through_3 (by decide)) <| ch_last (pc := 5) (ok_fall rfl))
  · exact (ch_cons (pc := 5) (pc' := 7) (ok_iload C dX4_through_5) <| ch_cons (pc := 7) (pc' := 8) (ok_aloadRn C dX4_through_7 rfl) <| ch_cons (pc := 8) (pc' := 11) (ok_get C hn (fun w h => kG_in (inG_X0 w h)) (kcl_at hE 0 rfl) (by decide) (kG_in gw_179) (fun _ h => h) dX4_through_8) <| ch_last (pc := 11) (ok_icmp_ge (tgt := 35) C dX4_through_11 (by decide) rfl rfl))
  · exact (ch_cons (pc := 14) (pc' := 15) (ok_aloadRn C dX4_through_14 rfl) <| ch_cons (pc := 15) (pc' := 18) (ok_get C hn (fun w h => kG_in (inG_X4 w h)) (kcl_at hE 2 rfl) (by decide) (kG_in gw_96) (fun _ h => h) dX4_through_15) <| ch_cons (pc := 18) (pc' := 19) (ok_aloadRn C dX4_through_18 rfl) <| ch_cons (pc := 19) (pc' := 21) (ok_iload C dX4_through_19) <| ch_cons (pc := 21) (pc' := 24) (ok_callV (d := d) (maxL := 2) C hn hout hf hlo (sn_54 hS) rfl (kcl_at hE 0 rfl) (kG_v gw_180 gw_181 gw_182 gw_183 gw_184) (by decide) (by decide +kernel) dX4_through_21) <| ch_cons (pc := 24) (pc' := 25) (ok_iloadn C dX4_through_24 rfl) <| ch_cons (pc := 25) (pc' := 28) (ok_callS (d := d) C hout hf hlo (sn_1 hS) rfl (kG_s gw_151 gw_152 gw_153 gw_42) (by decide) (by decide +kernel) dX4_through_25) <| ch_cons (pc := 28) (pc' := 29) (ok_istoren C dX4_through_28 rfl (by decide)) <| ch_cons (pc := 29) (pc' := 32) (ok_iinc C dX4_through_29 (by decide) (by decide)) <| ch_last (pc := 32) (ok_goto (tgt := 5) C dX4_through_32 (by decide) rfl))
  · exact (ch_cons (pc := 35) (pc' := 36) (ok_iloadn C dX4_through_35 rfl) <| ch_last (pc := 36) (ok_ireturn C hr dX4_through_36))
/-- Bijectory$Realm.valueOf(III)I -/
def bl_X4_valueOf (tb : List (List Int32)) (cl : kCall) : List (List kOp) := [
  [oLoadR 0, oGet 6 2 4, oLoadI 1, oS (gPush (.int 4)), oBin (fun x y => x * y), oLoadI 2, oBin (fun x y => x + y), oLoadI 3, oCall cl 1 3, tIret]]
set_option maxRecDepth 100000 in
set_option maxHeartbeats 4000000 in
theorem mok_X4_valueOf {E : kE} {σ : List Nat} {l : Launch} {tb : List (List Int32)} (hE : kcl E = kCl) (hn : kn E = 6) (htb : ktb E = tb) : kMOK E (kXX (kb E)) σ kZs l kY kWS yX4_valueOf (kws yX4_valueOf cX4_valueOf 4 (some .int)) cX4_valueOf 4 (some .int) (fun cl => bl_X4_valueOf tb cl) := by
  intro d cl hS p e R s m args below meth c α0 nc0 ns0 res C hf hlo hr hnm hout
  have hXX : kXX (kb E) s := C.2.2.2.2.2.2.1.2.2.2.2
  refine ⟨fun b => [0].getD b 0, rfl, kAllB_get (bl := bl_X4_valueOf tb cl) ⟨?_, trivial⟩⟩
  · exact (ch_cons (pc := 0) (pc' := 1) (ok_aloadRn C dX4_valueOf_0 rfl) <| ch_cons (pc := 1) (pc' := 4) (ok_get C hn (fun w h => kG_in (inG_X4 w h)) (kcl_at hE 2 rfl) (by decide) (kG_in gw_97) (fun _ h => h) dX4_valueOf_1) <| ch_cons (pc := 4) (pc' := 5) (ok_iloadn C dX4_valueOf_4 rfl) <| ch_cons (pc := 5) (pc' := 6) (ok_iconst C dX4_valueOf_5 (by decide)) <| ch_cons (pc := 6) (pc' := 7) (ok_imul C dX4_valueOf_6) <| ch_cons (pc := 7) (pc' := 8) (ok_iloadn C dX4_valueOf_7 rfl) <| ch_cons (pc := 8) (pc' := 9) (ok_iadd C dX4_valueOf_8) <| ch_cons (pc := 9) (pc' := 10) (ok_iloadn C dX4_valueOf_9 rfl) <| ch_cons (pc := 10) (pc' := 13) (ok_callS (d := d) C hout hf hlo (sn_1 hS) rfl (kG_s gw_151 gw_152 gw_153 gw_42) (by decide) (by decide +kernel) dX4_valueOf_10) <| ch_last (pc := 13) (ok_ireturn C hr dX4_valueOf_13))
/-- Bijectory$Realm.countOf(III)I -/
def bl_X4_countOf (tb : List (List Int32)) (cl : kCall) : List (List kOp) := [
  [oLoadR 0, oGet 6 2 5, oLoadI 1, oS (gPush (.int 4)), oBin (fun x y => x * y), oLoadI 2, oBin (fun x y => x + y), oLoadI 3, oCall cl 1 3, tIret]]
set_option maxRecDepth 100000 in
set_option maxHeartbeats 4000000 in
theorem mok_X4_countOf {E : kE} {σ : List Nat} {l : Launch} {tb : List (List Int32)} (hE : kcl E = kCl) (hn : kn E = 6) (htb : ktb E = tb) : kMOK E (kXX (kb E)) σ kZs l kY kWS yX4_countOf (kws yX4_countOf cX4_countOf 4 (some .int)) cX4_countOf 4 (some .int) (fun cl => bl_X4_countOf tb cl) := by
  intro d cl hS p e R s m args below meth c α0 nc0 ns0 res C hf hlo hr hnm hout
  have hXX : kXX (kb E) s := C.2.2.2.2.2.2.1.2.2.2.2
  refine ⟨fun b => [0].getD b 0, rfl, kAllB_get (bl := bl_X4_countOf tb cl) ⟨?_, trivial⟩⟩
  · exact (ch_cons (pc := 0) (pc' := 1) (ok_aloadRn C dX4_countOf_0 rfl) <| ch_cons (pc := 1) (pc' := 4) (ok_get C hn (fun w h => kG_in (inG_X4 w h)) (kcl_at hE 2 rfl) (by decide) (kG_in gw_98) (fun _ h => h) dX4_countOf_1) <| ch_cons (pc := 4) (pc' := 5) (ok_iloadn C dX4_countOf_4 rfl) <| ch_cons (pc := 5) (pc' := 6) (ok_iconst C dX4_countOf_5 (by decide)) <| ch_cons (pc := 6) (pc' := 7) (ok_imul C dX4_countOf_6) <| ch_cons (pc := 7) (pc' := 8) (ok_iloadn C dX4_countOf_7 rfl) <| ch_cons (pc := 8) (pc' := 9) (ok_iadd C dX4_countOf_8) <| ch_cons (pc := 9) (pc' := 10) (ok_iloadn C dX4_countOf_9 rfl) <| ch_cons (pc := 10) (pc' := 13) (ok_callS (d := d) C hout hf hlo (sn_1 hS) rfl (kG_s gw_151 gw_152 gw_153 gw_42) (by decide) (by decide +kernel) dX4_countOf_10) <| ch_last (pc := 13) (ok_ireturn C hr dX4_countOf_13))
/-- Bijectory$Realm.isInOrderBehind(II)Z -/
def bl_X4_isInOrderBehind (tb : List (List Int32)) (cl : kCall) : List (List kOp) := [
  [oLoadI 1, oStoreI 3, oS (gPush (.int 0)), oStoreI 4, tGo 1],
  [oLoadI 4, oLoadI 2, tCmp (fun x y => decide (y ≤ x)) 4 2],
  [oLoadI 3, tIf (fun x => decide (x = 0)) 4 3],
  [oLoadR 0, oGet 6 2 3, oS (gPush (.int 10)), oLoadI 3, oCall cl 1 3, oStoreI 3, oIinc 4 1, tGo 1],
  [oLoadI 3, tIf (fun x => !decide (x = 0)) 6 5],
  [oS (gPush (.int 1)), tGo 7],
  [oS (gPush (.int 0)), tGo 7],
  [tZret]]
set_option maxRecDepth 100000 in
set_option maxHeartbeats 4000000 in
theorem mok_X4_isInOrderBehind {E : kE} {σ : List Nat} {l : Launch} {tb : List (List Int32)} (hE : kcl E = kCl) (hn : kn E = 6) (htb : ktb E = tb) : kMOK E (kXX (kb E)) σ kZs l kY kWS yX4_isInOrderBehind (kws yX4_isInOrderBehind cX4_isInOrderBehind 5 (some .boolean)) cX4_isInOrderBehind 5 (some .boolean) (fun cl => bl_X4_isInOrderBehind tb cl) := by
  intro d cl hS p e R s m args below meth c α0 nc0 ns0 res C hf hlo hr hnm hout
  have hXX : kXX (kb E) s := C.2.2.2.2.2.2.1.2.2.2.2
  refine ⟨fun b => [0, 5, 11, 15, 32, 36, 40, 41].getD b 0, rfl, kAllB_get (bl := bl_X4_isInOrderBehind tb cl) ⟨?_, ?_, ?_, ?_, ?_, ?_, ?_, ?_, trivial⟩⟩
  · exact (ch_cons (pc := 0) (pc' := 1) (ok_iloadn C dX4_isInOrderBehind_0 rfl) <| ch_cons (pc := 1) (pc' := 2) (ok_istoren C dX4_isInOrderBehind_1 rfl (by decide)) <| ch_cons (pc := 2) (pc' := 3) (ok_iconst C dX4_isInOrderBehind_2 (by decide)) <| ch_cons (pc := 3) (pc' := 5) (ok_istore C dX4_isInOrderBehind_3 (by decide)) <| ch_last (pc := 5) (ok_fall rfl))
  · exact (ch_cons (pc := 5) (pc' := 7) (ok_iload C dX4_isInOrderBehind_5) <| ch_cons (pc := 7) (pc' := 8) (ok_iloadn C dX4_isInOrderBehind_7 rfl) <| ch_last (pc := 8) (ok_icmp_ge (tgt := 32) C dX4_isInOrderBehind_8 (by decide) rfl rfl))
  · exact (ch_cons (pc := 11) (pc' := 12) (ok_iloadn C dX4_isInOrderBehind_11 rfl) <| ch_last (pc := 12) (ok_if_eq (tgt := 32) C dX4_isInOrderBehind_12 (by decide) rfl rfl))
  · exact (ch_cons (pc := 15) (pc' := 16) (ok_aloadRn C dX4_isInOrderBehind_15 rfl) <| ch_cons (pc := 16) (pc' := 19) (ok_get C hn (fun w h => kG_in (inG_X4 w h)) (kcl_at hE 2 rfl) (by decide) (kG_in gw_96) (fun _ h => h) dX4_isInOrderBehind_16) <| ch_cons (pc := 19) (pc' := 21) (ok_bipush C dX4_isInOrderBehind_19 (by decide)) <| ch_cons (pc := 21) (pc' := 22) (ok_iloadn C dX4_isInOrderBehind_21 rfl) <| ch_cons (pc := 22) (pc' := 25) (ok_callS (d := d) C hout hf hlo (sn_1 hS) rfl (kG_s gw_151 gw_152 gw_153 gw_42) (by decide) (by decide +kernel) dX4_isInOrderBehind_22) <| ch_cons (pc := 25) (pc' := 26) (ok_istoren C dX4_isInOrderBehind_25 rfl (by decide)) <| ch_cons (pc := 26) (pc' := 29) (ok_iinc C dX4_isInOrderBehind_26 (by decide) (by decide)) <| ch_last (pc := 29) (ok_goto (tgt := 5) C dX4_isInOrderBehind_29 (by decide) rfl))
  · exact (ch_cons (pc := 32) (pc' := 33) (ok_iloadn C dX4_isInOrderBehind_32 rfl) <| ch_last (pc := 33) (ok_if_ne (tgt := 40) C dX4_isInOrderBehind_33 (by decide) rfl rfl))
  · exact (ch_cons (pc := 36) (pc' := 37) (ok_iconst C dX4_isInOrderBehind_36 (by decide)) <| ch_last (pc := 37) (ok_goto (tgt := 41) C dX4_isInOrderBehind_37 (by decide) rfl))
  · exact (ch_cons (pc := 40) (pc' := 41) (ok_iconst C dX4_isInOrderBehind_40 (by decide)) <| ch_last (pc := 41) (ok_fall rfl))
  · exact (ch_last (pc := 41) (ok_zreturn C hr dX4_isInOrderBehind_41))
