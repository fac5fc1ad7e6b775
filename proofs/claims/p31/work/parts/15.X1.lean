/-- Bijectory$Claim.<init>(III)V -/
def bl_X1_init (tb : List (List Int32)) (cl : kCall) : List (List kOp) := [
  [oLoadR 0, oObj, oLoadR 0, oLoadI 1, oPut 6 1 0 .int, oLoadR 0, oLoadI 2, oPut 6 1 1 .int, oLoadR 0, oLoadI 3, oPut 6 1 2 .int, tVret]]
set_option maxRecDepth 100000 in
set_option maxHeartbeats 4000000 in
theorem mok_X1_init {E : kE} {σ : List Nat} {l : Launch} {tb : List (List Int32)} (hE : kcl E = kCl) (hn : kn E = 6) (htb : ktb E = tb) : kMOK E (kXX (kb E)) σ kZs l kY kWS yX1_init (kws yX1_init cX1_init 4 none) cX1_init 4 none (fun cl => bl_X1_init tb cl) := by
  intro d cl hS p e R s m args below meth c α0 nc0 ns0 res C hf hlo hr hnm hout
  have hXX : kXX (kb E) s := C.2.2.2.2.2.2.1.2.2.2.2
  refine ⟨fun b => [0].getD b 0, rfl, kAllB_get (bl := bl_X1_init tb cl) ⟨?_, trivial⟩⟩
  · exact (ch_cons (pc := 0) (pc' := 1) (ok_aloadRn C dX1_init_0 rfl) <| ch_cons (pc := 1) (pc' := 4) (ok_obj C (kG_in gw_252) (kG_in gw_87) (kG_in gw_88) dX1_init_1) <| ch_cons (pc := 4) (pc' := 5) (ok_aloadRn C dX1_init_4 rfl) <| ch_cons (pc := 5) (pc' := 6) (ok_iloadn C dX1_init_5 rfl) <| ch_cons (pc := 6) (pc' := 9) (ok_put C hn (fun w h => kG_in (inG_X1 w h)) tyX1 tyX1_ok nmX1 (kcl_at hE 1 rfl) (by decide) (kG_in gw_253) (fun _ h => h) (Or.inr ⟨rfl, hnm, rfl⟩) rfl dX1_init_6) <| ch_cons (pc := 9) (pc' := 10) (ok_aloadRn C dX1_init_9 rfl) <| ch_cons (pc := 10) (pc' := 11) (ok_iloadn C dX1_init_10 rfl) <| ch_cons (pc := 11) (pc' := 14) (ok_put C hn (fun w h => kG_in (inG_X1 w h)) tyX1 tyX1_ok nmX1 (kcl_at hE 1 rfl) (by decide) (kG_in gw_254) (fun _ h => h) (Or.inr ⟨rfl, hnm, rfl⟩) rfl dX1_init_11) <| ch_cons (pc := 14) (pc' := 15) (ok_aloadRn C dX1_init_14 rfl) <| ch_cons (pc := 15) (pc' := 16) (ok_iloadn C dX1_init_15 rfl) <| ch_cons (pc := 16) (pc' := 19) (ok_put C hn (fun w h => kG_in (inG_X1 w h)) tyX1 tyX1_ok nmX1 (kcl_at hE 1 rfl) (by decide) (kG_in gw_255) (fun _ h => h) (Or.inr ⟨rfl, hnm, rfl⟩) rfl dX1_init_16) <| ch_last (pc := 19) (ok_return C hr dX1_init_19))
/-- Bijectory$Claim.note(IZ)V -/
def bl_X1_note (tb : List (List Int32)) (cl : kCall) : List (List kOp) := [
  [oLoadR 0, oS gDup, oGet 6 1 3, oS (gPush (.int 1)), oLoadI 1, oBin (fun x y => x <<< (y &&& 31)), oBin (fun x y => x ||| y), oPut 6 1 3 .int, oLoadI 2, tIf (fun x => !decide (x = 0)) 2 1],
  [oLoadR 0, oS gDup, oGet 6 1 4, oS (gPush (.int 1)), oLoadI 1, oBin (fun x y => x <<< (y &&& 31)), oBin (fun x y => x ||| y), oPut 6 1 4 .int, tGo 2],
  [tVret]]
set_option maxRecDepth 100000 in
set_option maxHeartbeats 4000000 in
theorem mok_X1_note {E : kE} {σ : List Nat} {l : Launch} {tb : List (List Int32)} (hE : kcl E = kCl) (hn : kn E = 6) (htb : ktb E = tb) : kMOK E (kXX (kb E)) σ kZs l kY kWS yX1_note (kws yX1_note cX1_note 3 none) cX1_note 3 none (fun cl => bl_X1_note tb cl) := by
  intro d cl hS p e R s m args below meth c α0 nc0 ns0 res C hf hlo hr hnm hout
  have hXX : kXX (kb E) s := C.2.2.2.2.2.2.1.2.2.2.2
  refine ⟨fun b => [0, 16, 28].getD b 0, rfl, kAllB_get (bl := bl_X1_note tb cl) ⟨?_, ?_, ?_, trivial⟩⟩
  · exact (ch_cons (pc := 0) (pc' := 1) (ok_aloadRn C dX1_note_0 rfl) <| ch_cons (pc := 1) (pc' := 2) (ok_dup C dX1_note_1) <| ch_cons (pc := 2) (pc' := 5) (ok_get C hn (fun w h => kG_in (inG_X1 w h)) (kcl_at hE 1 rfl) (by decide) (kG_in gw_256) (fun _ h => h) dX1_note_2) <| ch_cons (pc := 5) (pc' := 6) (ok_iconst C dX1_note_5 (by decide)) <| ch_cons (pc := 6) (pc' := 7) (ok_iloadn C dX1_note_6 rfl) <| ch_cons (pc := 7) (pc' := 8) (ok_ishl C dX1_note_7) <| ch_cons (pc := 8) (pc' := 9) (ok_ior C dX1_note_8) <| ch_cons (pc := 9) (pc' := 12) (ok_put C hn (fun w h => kG_in (inG_X1 w h)) tyX1 tyX1_ok nmX1 (kcl_at hE 1 rfl) (by decide) (kG_in gw_256) (fun _ h => h) (Or.inl rfl) rfl dX1_note_9) <| ch_cons (pc := 12) (pc' := 13) (ok_iloadn C dX1_note_12 rfl) <| ch_last (pc := 13) (ok_if_ne (tgt := 28) C dX1_note_13 (by decide) rfl rfl))
  · exact (ch_cons (pc := 16) (pc' := 17) (ok_aloadRn C dX1_note_16 rfl) <| ch_cons (pc := 17) (pc' := 18) (ok_dup C dX1_note_17) <| ch_cons (pc := 18) (pc' := 21) (ok_get C hn (fun w h => kG_in (inG_X1 w h)) (kcl_at hE 1 rfl) (by decide) (kG_in gw_257) (fun _ h => h) dX1_note_18) <| ch_cons (pc := 21) (pc' := 22) (ok_iconst C dX1_note_21 (by decide)) <| ch_cons (pc := 22) (pc' := 23) (ok_iloadn C dX1_note_22 rfl) <| ch_cons (pc := 23) (pc' := 24) (ok_ishl C dX1_note_23) <| ch_cons (pc := 24) (pc' := 25) (ok_ior C dX1_note_24) <| ch_cons (pc := 25) (pc' := 28) (ok_put C hn (fun w h => kG_in (inG_X1 w h)) tyX1 tyX1_ok nmX1 (kcl_at hE 1 rfl) (by decide) (kG_in gw_257) (fun _ h => h) (Or.inl rfl) rfl dX1_note_25) <| ch_last (pc := 28) (ok_fall rfl))
  · exact (ch_last (pc := 28) (ok_return C hr dX1_note_28))
