/-! ===== methods as functions, and that the machine answers as they do ===== -/
/-- BijectoryLaw.walker(LBijectory;II[J)I: kind W, depth 4 -/
noncomputable def f_L_walker (tb : List (List Int32)) (a0 : Nat) (a1 : Nat) (a2 : Nat) (a3 : Nat) (hs : kHS) : Option (dR Nat) := dchk hs (ob (dtag nS c_X9 hs.1 a0) fun _ => obX (f_X9_walker tb a0 a1 a2 hs) (fun x1 s2 => ob (dast nS 101 s2 a3 0 (.long (lN (xi x1)))) fun s4 => some (.inl 0, s4)) (fun kq s3 => bif Nat.beq kq 2 then (some (.inl 1, s3)) else (bif Nat.beq kq 0 then (some (.inl 2, s3)) else (bif Nat.beq kq 1 then (some (.inl 3, s3)) else (none)))))
set_option maxRecDepth 20000 in
set_option maxHeartbeats 4000000 in
theorem T_L_walker {tb : List (List Int32)} (htb : kTab tb) (a0 : Nat) (a1 : Nat) (a2 : Nat) (a3 : Nat) (hs : kHS) (y : dR Nat) (hf : f_L_walker tb a0 a1 a2 a3 hs = some y) : kEv (kM tb) kML 196 4 [rv a0, .int (nI a1), .int (nI a2), rv a3] hs (eW eI y) := by
  have hd : 3 ≤ 3 := Nat.le_refl _
  refine g_metW rfl (kszR (kszI (kszI (kszR ksz0)))) rfl hf (fun hf => ?_)
  have hL : lv_args 0 [rv a0, .int (nI a1), .int (nI a2), rv a3] = [(0, rv a0), (1, .int (nI a1)), (2, .int (nI a2)), (3, rv a3)] := lvR (lvI (lvI (lvR (lv_a0 _))))
  have h0 : kget (lv_args 0 [rv a0, .int (nI a1), .int (nI a2), rv a3]) 0 = some (rv a0) := by rw [hL]; rfl
  have h1 : kget (lv_args 0 [rv a0, .int (nI a1), .int (nI a2), rv a3]) 1 = some (.int (nI a1)) := by rw [hL]; rfl
  have h2 : kget (lv_args 0 [rv a0, .int (nI a1), .int (nI a2), rv a3]) 2 = some (.int (nI a2)) := by rw [hL]; rfl
  have h3 : kget (lv_args 0 [rv a0, .int (nI a1), .int (nI a2), rv a3]) 3 = some (rv a3) := by rw [hL]; rfl
  generalize lv_args 0 [rv a0, .int (nI a1), .int (nI a2), rv a3] = L at h0 h1 h2 h3 ⊢
  exact g_blk (os := fun cl => [oLoadR 3, oS (gPush (.int 0)), oLoadR 0, oLoadI 1, oLoadI 2, oCallVX cl 79 2 8 20 (hkL [(2, 3, 4), (0, 5, 4), (1, 7, 4)]) 1]) (fun _ => rfl) <| g_loadR h3 <| g_pushI (c := 0) rfl <| g_loadR h0 <| g_loadI h1 <| g_loadI h2 <| g_callVX (e := eI) (S1 := fun v => .int (nI v) :: .int (nI 0) :: rv a3 :: []) hf rfl (T_X9_walker htb a0 a1 a2 hs) (Nat.le_trans (Nat.le_of_ble_eq_true rfl) hd) rfl (hz_mk rfl (kszI (kszR ksz0)) rfl) (fun _ => rfl) (fun x1 s2 hf => g_blk (os := fun cl => [oS gI2l, oLast 20, tGo 8]) (fun _ => rfl) <| g_i2l <| g_last hf fun s4 hf => g_goto <| g_blk (os := fun cl => [oS (gPush (.int 0)), tIret]) (fun _ => rfl) <| g_pushI (c := 0) rfl <| g_iretW hf) (fun kq s3 hf => (db_if hf (fun hc hf => ⟨(3, 4), g_hk hc rfl, fun L5 p6 => g_blk (os := fun cl => [oS (gPush (.int 1)), tIret]) (fun _ => rfl) <| g_pushI (c := 1) rfl <| g_iretW hf⟩) (fun hc0 hf => (db_if hf (fun hc hf => ⟨(5, 4), g_hkn hc0 (g_hk hc rfl), fun L7 p8 => g_blk (os := fun cl => [oS (gPush (.int 2)), tIret]) (fun _ => rfl) <| g_pushI (c := 2) rfl <| g_iretW hf⟩) (fun hc1 hf => (db_if hf (fun hc hf => ⟨(7, 4), g_hkn hc0 (g_hkn hc1 (g_hk hc rfl)), fun L9 p10 => g_blk (os := fun cl => [oS (gPush (.int 3)), tIret]) (fun _ => rfl) <| g_pushI (c := 3) rfl <| g_iretW hf⟩) (fun hc2 hf => (by cases hf))))))))
/-- BijectoryLaw.claim(LBijectory;III[J)I: kind W, depth 6 -/
noncomputable def f_L_claim (tb : List (List Int32)) (a0 : Nat) (a1 : Nat) (a2 : Nat) (a3 : Nat) (a4 : Nat) (hs : kHS) : Option (dR Nat) := dchk hs (ob (dtag nS c_X9 hs.1 a0) fun _ => obX (f_X9_claim tb a0 a1 a2 a3 hs) (fun x1 s2 => ob (dast nS 101 s2 a4 0 (.long (lN (xi x1)))) fun s4 => some (.inl 0, s4)) (fun kq s3 => bif Nat.beq kq 2 then (some (.inl 1, s3)) else (bif Nat.beq kq 0 then (some (.inl 2, s3)) else (bif Nat.beq kq 1 then (some (.inl 3, s3)) else (none)))))
set_option maxRecDepth 20000 in
set_option maxHeartbeats 4000000 in
theorem T_L_claim {tb : List (List Int32)} (htb : kTab tb) (a0 : Nat) (a1 : Nat) (a2 : Nat) (a3 : Nat) (a4 : Nat) (hs : kHS) (y : dR Nat) (hf : f_L_claim tb a0 a1 a2 a3 a4 hs = some y) : kEv (kM tb) kML 197 6 [rv a0, .int (nI a1), .int (nI a2), .int (nI a3), rv a4] hs (eW eI y) := by
  have hd : 5 ≤ 5 := Nat.le_refl _
  refine g_metW rfl (kszR (kszI (kszI (kszI (kszR ksz0))))) rfl hf (fun hf => ?_)
  have hL : lv_args 0 [rv a0, .int (nI a1), .int (nI a2), .int (nI a3), rv a4] = [(0, rv a0), (1, .int (nI a1)), (2, .int (nI a2)), (3, .int (nI a3)), (4, rv a4)] := lvR (lvI (lvI (lvI (lvR (lv_a0 _)))))
  have h0 : kget (lv_args 0 [rv a0, .int (nI a1), .int (nI a2), .int (nI a3), rv a4]) 0 = some (rv a0) := by rw [hL]; rfl
  have h1 : kget (lv_args 0 [rv a0, .int (nI a1), .int (nI a2), .int (nI a3), rv a4]) 1 = some (.int (nI a1)) := by rw [hL]; rfl
  have h2 : kget (lv_args 0 [rv a0, .int (nI a1), .int (nI a2), .int (nI a3), rv a4]) 2 = some (.int (nI a2)) := by rw [hL]; rfl
  have h3 : kget (lv_args 0 [rv a0, .int (nI a1), .int (nI a2), .int (nI a3), rv a4]) 3 = some (.int (nI a3)) := by rw [hL]; rfl
  have h4 : kget (lv_args 0 [rv a0, .int (nI a1), .int (nI a2), .int (nI a3), rv a4]) 4 = some (rv a4) := by rw [hL]; rfl
  generalize lv_args 0 [rv a0, .int (nI a1), .int (nI a2), .int (nI a3), rv a4] = L at h0 h1 h2 h3 h4 ⊢
  exact g_blk (os := fun cl => [oLoadR 4, oS (gPush (.int 0)), oLoadR 0, oLoadI 1, oLoadI 2, oLoadI 3, oCallVX cl 80 3 8 20 (hkL [(2, 3, 5), (0, 5, 5), (1, 7, 5)]) 1]) (fun _ => rfl) <| g_loadR h4 <| g_pushI (c := 0) rfl <| g_loadR h0 <| g_loadI h1 <| g_loadI h2 <| g_loadI h3 <| g_callVX (e := eI) (S1 := fun v => .int (nI v) :: .int (nI 0) :: rv a4 :: []) hf rfl (T_X9_claim htb a0 a1 a2 a3 hs) (Nat.le_trans (Nat.le_of_ble_eq_true rfl) hd) rfl (hz_mk rfl (kszI (kszR ksz0)) rfl) (fun _ => rfl) (fun x1 s2 hf => g_blk (os := fun cl => [oS gI2l, oLast 20, tGo 8]) (fun _ => rfl) <| g_i2l <| g_last hf fun s4 hf => g_goto <| g_blk (os := fun cl => [oS (gPush (.int 0)), tIret]) (fun _ => rfl) <| g_pushI (c := 0) rfl <| g_iretW hf) (fun kq s3 hf => (db_if hf (fun hc hf => ⟨(3, 5), g_hk hc rfl, fun L5 p6 => g_blk (os := fun cl => [oS (gPush (.int 1)), tIret]) (fun _ => rfl) <| g_pushI (c := 1) rfl <| g_iretW hf⟩) (fun hc0 hf => (db_if hf (fun hc hf => ⟨(5, 5), g_hkn hc0 (g_hk hc rfl), fun L7 p8 => g_blk (os := fun cl => [oS (gPush (.int 2)), tIret]) (fun _ => rfl) <| g_pushI (c := 2) rfl <| g_iretW hf⟩) (fun hc1 hf => (db_if hf (fun hc hf => ⟨(7, 5), g_hkn hc0 (g_hkn hc1 (g_hk hc rfl)), fun L9 p10 => g_blk (os := fun cl => [oS (gPush (.int 3)), tIret]) (fun _ => rfl) <| g_pushI (c := 3) rfl <| g_iretW hf⟩) (fun hc2 hf => (by cases hf))))))))
/-- BijectoryLaw.send(LBijectory;III[J)I: kind W, depth 4 -/
noncomputable def f_L_send (tb : List (List Int32)) (a0 : Nat) (a1 : Nat) (a2 : Nat) (a3 : Nat) (a4 : Nat) (hs : kHS) : Option (dR Nat) := dchk hs (ob (dtag nS c_X9 hs.1 a0) fun _ => obX (f_X9_send tb a0 a1 a2 a3 hs) (fun x1 s2 => ob (dast nS 101 s2 a4 0 (.long (lN (xi x1)))) fun s4 => some (.inl 0, s4)) (fun kq s3 => bif Nat.beq kq 2 then (some (.inl 1, s3)) else (bif Nat.beq kq 0 then (some (.inl 2, s3)) else (bif Nat.beq kq 1 then (some (.inl 3, s3)) else (none)))))
set_option maxRecDepth 20000 in
set_option maxHeartbeats 4000000 in
theorem T_L_send {tb : List (List Int32)} (htb : kTab tb) (a0 : Nat) (a1 : Nat) (a2 : Nat) (a3 : Nat) (a4 : Nat) (hs : kHS) (y : dR Nat) (hf : f_L_send tb a0 a1 a2 a3 a4 hs = some y) : kEv (kM tb) kML 198 4 [rv a0, .int (nI a1), .int (nI a2), .int (nI a3), rv a4] hs (eW eI y) := by
  have hd : 3 ≤ 3 := Nat.le_refl _
  refine g_metW rfl (kszR (kszI (kszI (kszI (kszR ksz0))))) rfl hf (fun hf => ?_)
  have hL : lv_args 0 [rv a0, .int (nI a1), .int (nI a2), .int (nI a3), rv a4] = [(0, rv a0), (1, .int (nI a1)), (2, .int (nI a2)), (3, .int (nI a3)), (4, rv a4)] := lvR (lvI (lvI (lvI (lvR (lv_a0 _)))))
  have h0 : kget (lv_args 0 [rv a0, .int (nI a1), .int (nI a2), .int (nI a3), rv a4]) 0 = some (rv a0) := by rw [hL]; rfl
  have h1 : kget (lv_args 0 [rv a0, .int (nI a1), .int (nI a2), .int (nI a3), rv a4]) 1 = some (.int (nI a1)) := by rw [hL]; rfl
  have h2 : kget (lv_args 0 [rv a0, .int (nI a1), .int (nI a2), .int (nI a3), rv a4]) 2 = some (.int (nI a2)) := by rw [hL]; rfl
  have h3 : kget (lv_args 0 [rv a0, .int (nI a1), .int (nI a2), .int (nI a3), rv a4]) 3 = some (.int (nI a3)) := by rw [hL]; rfl
  have h4 : kget (lv_args 0 [rv a0, .int (nI a1), .int (nI a2), .int (nI a3), rv a4]) 4 = some (rv a4) := by rw [hL]; rfl
  generalize lv_args 0 [rv a0, .int (nI a1), .int (nI a2), .int (nI a3), rv a4] = L at h0 h1 h2 h3 h4 ⊢
  exact g_blk (os := fun cl => [oLoadR 4, oS (gPush (.int 0)), oLoadR 0, oLoadI 1, oLoadI 2, oLoadI 3, oCallVX cl 81 3 8 20 (hkL [(2, 3, 5), (0, 5, 5), (1, 7, 5)]) 1]) (fun _ => rfl) <| g_loadR h4 <| g_pushI (c := 0) rfl <| g_loadR h0 <| g_loadI h1 <| g_loadI h2 <| g_loadI h3 <| g_callVX (e := eI) (S1 := fun v => .int (nI v) :: .int (nI 0) :: rv a4 :: []) hf rfl (T_X9_send htb a0 a1 a2 a3 hs) (Nat.le_trans (Nat.le_of_ble_eq_true rfl) hd) rfl (hz_mk rfl (kszI (kszR ksz0)) rfl) (fun _ => rfl) (fun x1 s2 hf => g_blk (os := fun cl => [oS gI2l, oLast 20, tGo 8]) (fun _ => rfl) <| g_i2l <| g_last hf fun s4 hf => g_goto <| g_blk (os := fun cl => [oS (gPush (.int 0)), tIret]) (fun _ => rfl) <| g_pushI (c := 0) rfl <| g_iretW hf) (fun kq s3 hf => (db_if hf (fun hc hf => ⟨(3, 5), g_hk hc rfl, fun L5 p6 => g_blk (os := fun cl => [oS (gPush (.int 1)), tIret]) (fun _ => rfl) <| g_pushI (c := 1) rfl <| g_iretW hf⟩) (fun hc0 hf => (db_if hf (fun hc hf => ⟨(5, 5), g_hkn hc0 (g_hk hc rfl), fun L7 p8 => g_blk (os := fun cl => [oS (gPush (.int 2)), tIret]) (fun _ => rfl) <| g_pushI (c := 2) rfl <| g_iretW hf⟩) (fun hc1 hf => (db_if hf (fun hc hf => ⟨(7, 5), g_hkn hc0 (g_hkn hc1 (g_hk hc rfl)), fun L9 p10 => g_blk (os := fun cl => [oS (gPush (.int 3)), tIret]) (fun _ => rfl) <| g_pushI (c := 3) rfl <| g_iretW hf⟩) (fun hc2 hf => (by cases hf))))))))
/-- BijectoryLaw.trial(LBijectory;I[J)I: kind W, depth 6 -/
noncomputable def f_L_trial (tb : List (List Int32)) (a0 : Nat) (a1 : Nat) (a2 : Nat) (hs : kHS) : Option (dR Nat) := dchk hs (ob (dtag nS c_X9 hs.1 a0) fun _ => obX (f_X9_trial tb a0 a1 hs) (fun x1 s2 => bif weq x1 0 then (ob (dast nS 101 s2 a2 0 (.long (lN 0))) fun s4 => some (.inl 0, s4)) else (ob (dast nS 101 s2 a2 0 (.long (lN 1))) fun s5 => some (.inl 0, s5))) (fun kq s3 => bif Nat.beq kq 2 then (some (.inl 1, s3)) else (none)))
set_option maxRecDepth 20000 in
set_option maxHeartbeats 4000000 in
theorem T_L_trial {tb : List (List Int32)} (htb : kTab tb) (a0 : Nat) (a1 : Nat) (a2 : Nat) (hs : kHS) (y : dR Nat) (hf : f_L_trial tb a0 a1 a2 hs = some y) : kEv (kM tb) kML 199 6 [rv a0, .int (nI a1), rv a2] hs (eW eI y) := by
  have hd : 5 ≤ 5 := Nat.le_refl _
  refine g_metW rfl (kszR (kszI (kszR ksz0))) rfl hf (fun hf => ?_)
  have hL : lv_args 0 [rv a0, .int (nI a1), rv a2] = [(0, rv a0), (1, .int (nI a1)), (2, rv a2)] := lvR (lvI (lvR (lv_a0 _)))
  have h0 : kget (lv_args 0 [rv a0, .int (nI a1), rv a2]) 0 = some (rv a0) := by rw [hL]; rfl
  have h1 : kget (lv_args 0 [rv a0, .int (nI a1), rv a2]) 1 = some (.int (nI a1)) := by rw [hL]; rfl
  have h2 : kget (lv_args 0 [rv a0, .int (nI a1), rv a2]) 2 = some (rv a2) := by rw [hL]; rfl
  generalize lv_args 0 [rv a0, .int (nI a1), rv a2] = L at h0 h1 h2 ⊢
  exact g_blk (os := fun cl => [oLoadR 2, oS (gPush (.int 0)), oLoadR 0, oLoadI 1, oCallVX cl 82 1 8 20 (hkL [(2, 6, 3)]) 1]) (fun _ => rfl) <| g_loadR h2 <| g_pushI (c := 0) rfl <| g_loadR h0 <| g_loadI h1 <| g_callVX (e := eI) (S1 := fun v => .int (nI v) :: .int (nI 0) :: rv a2 :: []) hf rfl (T_X9_trial htb a0 a1 hs) (Nat.le_trans (Nat.le_of_ble_eq_true rfl) hd) rfl (hz_mk rfl (kszI (kszR ksz0)) rfl) (fun _ => rfl) (fun x1 s2 hf => g_blk (os := fun cl => [tIf (fun x => decide (x = 0)) 3 2]) (fun _ => rfl) <| g_if hf (w_eq _ _) (fun hc hf => g_blk (os := fun cl => [oS (gPush (.long 0)), tGo 4]) (fun _ => rfl) <| g_pushL (c := 0) rfl <| g_goto <| g_blk (os := fun cl => [oLast 20, tGo 7]) (fun _ => rfl) <| g_last hf fun s4 hf => g_goto <| g_blk (os := fun cl => [oS (gPush (.int 0)), tIret]) (fun _ => rfl) <| g_pushI (c := 0) rfl <| g_iretW hf) (fun hc hf => g_blk (os := fun cl => [oS (gPush (.long 1)), tGo 4]) (fun _ => rfl) <| g_pushL (c := 1) rfl <| g_goto <| g_blk (os := fun cl => [oLast 20, tGo 7]) (fun _ => rfl) <| g_last hf fun s5 hf => g_goto <| g_blk (os := fun cl => [oS (gPush (.int 0)), tIret]) (fun _ => rfl) <| g_pushI (c := 0) rfl <| g_iretW hf)) (fun kq s3 hf => (db_if hf (fun hc hf => ⟨(6, 3), g_hk hc rfl, fun L6 p7 => g_blk (os := fun cl => [oS (gPush (.int 1)), tIret]) (fun _ => rfl) <| g_pushI (c := 1) rfl <| g_iretW hf⟩) (fun hc0 hf => (by cases hf))))
/-- BijectoryLaw.objects(LBijectory;I[J)I: kind W, depth 4 -/
noncomputable def f_L_objects (tb : List (List Int32)) (a0 : Nat) (a1 : Nat) (a2 : Nat) (hs : kHS) : Option (dR Nat) := dchk hs (ob (dtag nS c_X9 hs.1 a0) fun _ => obX (f_X9_objects tb a0 a1 hs) (fun x1 s2 => ob (dast nS 101 s2 a2 0 (.long (lN (xi x1)))) fun s4 => some (.inl 0, s4)) (fun kq s3 => bif Nat.beq kq 2 then (some (.inl 1, s3)) else (none)))
set_option maxRecDepth 20000 in
set_option maxHeartbeats 4000000 in
theorem T_L_objects {tb : List (List Int32)} (htb : kTab tb) (a0 : Nat) (a1 : Nat) (a2 : Nat) (hs : kHS) (y : dR Nat) (hf : f_L_objects tb a0 a1 a2 hs = some y) : kEv (kM tb) kML 200 4 [rv a0, .int (nI a1), rv a2] hs (eW eI y) := by
  have hd : 3 ≤ 3 := Nat.le_refl _
  refine g_metW rfl (kszR (kszI (kszR ksz0))) rfl hf (fun hf => ?_)
  have hL : lv_args 0 [rv a0, .int (nI a1), rv a2] = [(0, rv a0), (1, .int (nI a1)), (2, rv a2)] := lvR (lvI (lvR (lv_a0 _)))
  have h0 : kget (lv_args 0 [rv a0, .int (nI a1), rv a2]) 0 = some (rv a0) := by rw [hL]; rfl
  have h1 : kget (lv_args 0 [rv a0, .int (nI a1), rv a2]) 1 = some (.int (nI a1)) := by rw [hL]; rfl
  have h2 : kget (lv_args 0 [rv a0, .int (nI a1), rv a2]) 2 = some (rv a2) := by rw [hL]; rfl
  generalize lv_args 0 [rv a0, .int (nI a1), rv a2] = L at h0 h1 h2 ⊢
  exact g_blk (os := fun cl => [oLoadR 2, oS (gPush (.int 0)), oLoadR 0, oLoadI 1, oCallVX cl 83 1 8 20 (hkL [(2, 3, 3)]) 1]) (fun _ => rfl) <| g_loadR h2 <| g_pushI (c := 0) rfl <| g_loadR h0 <| g_loadI h1 <| g_callVX (e := eI) (S1 := fun v => .int (nI v) :: .int (nI 0) :: rv a2 :: []) hf rfl (T_X9_objects htb a0 a1 hs) (Nat.le_trans (Nat.le_of_ble_eq_true rfl) hd) rfl (hz_mk rfl (kszI (kszR ksz0)) rfl) (fun _ => rfl) (fun x1 s2 hf => g_blk (os := fun cl => [oS gI2l, oLast 20, tGo 4]) (fun _ => rfl) <| g_i2l <| g_last hf fun s4 hf => g_goto <| g_blk (os := fun cl => [oS (gPush (.int 0)), tIret]) (fun _ => rfl) <| g_pushI (c := 0) rfl <| g_iretW hf) (fun kq s3 hf => (db_if hf (fun hc hf => ⟨(3, 3), g_hk hc rfl, fun L5 p6 => g_blk (os := fun cl => [oS (gPush (.int 1)), tIret]) (fun _ => rfl) <| g_pushI (c := 1) rfl <| g_iretW hf⟩) (fun hc0 hf => (by cases hf))))
/-- BijectoryLaw.unrank(LBijectory;II[J)I: kind W, depth 5 -/
noncomputable def f_L_unrank (tb : List (List Int32)) (a0 : Nat) (a1 : Nat) (a2 : Nat) (a3 : Nat) (hs : kHS) : Option (dR Nat) := dchk hs (ob (dtag nS c_X9 hs.1 a0) fun _ => obX (f_X9_unrank tb a0 a1 a2 hs) (fun x1 s2 => ob (dast nS 101 s2 a3 0 (.long (lN (xi x1)))) fun s4 => some (.inl 0, s4)) (fun kq s3 => bif Nat.beq kq 2 then (some (.inl 1, s3)) else (none)))
set_option maxRecDepth 20000 in
set_option maxHeartbeats 4000000 in
theorem T_L_unrank {tb : List (List Int32)} (htb : kTab tb) (a0 : Nat) (a1 : Nat) (a2 : Nat) (a3 : Nat) (hs : kHS) (y : dR Nat) (hf : f_L_unrank tb a0 a1 a2 a3 hs = some y) : kEv (kM tb) kML 201 5 [rv a0, .int (nI a1), .int (nI a2), rv a3] hs (eW eI y) := by
  have hd : 4 ≤ 4 := Nat.le_refl _
  refine g_metW rfl (kszR (kszI (kszI (kszR ksz0)))) rfl hf (fun hf => ?_)
  have hL : lv_args 0 [rv a0, .int (nI a1), .int (nI a2), rv a3] = [(0, rv a0), (1, .int (nI a1)), (2, .int (nI a2)), (3, rv a3)] := lvR (lvI (lvI (lvR (lv_a0 _))))
  have h0 : kget (lv_args 0 [rv a0, .int (nI a1), .int (nI a2), rv a3]) 0 = some (rv a0) := by rw [hL]; rfl
  have h1 : kget (lv_args 0 [rv a0, .int (nI a1), .int (nI a2), rv a3]) 1 = some (.int (nI a1)) := by rw [hL]; rfl
  have h2 : kget (lv_args 0 [rv a0, .int (nI a1), .int (nI a2), rv a3]) 2 = some (.int (nI a2)) := by rw [hL]; rfl
  have h3 : kget (lv_args 0 [rv a0, .int (nI a1), .int (nI a2), rv a3]) 3 = some (rv a3) := by rw [hL]; rfl
  generalize lv_args 0 [rv a0, .int (nI a1), .int (nI a2), rv a3] = L at h0 h1 h2 h3 ⊢
  exact g_blk (os := fun cl => [oLoadR 3, oS (gPush (.int 0)), oLoadR 0, oLoadI 1, oLoadI 2, oCallVX cl 84 2 8 20 (hkL [(2, 3, 4)]) 1]) (fun _ => rfl) <| g_loadR h3 <| g_pushI (c := 0) rfl <| g_loadR h0 <| g_loadI h1 <| g_loadI h2 <| g_callVX (e := eI) (S1 := fun v => .int (nI v) :: .int (nI 0) :: rv a3 :: []) hf rfl (T_X9_unrank htb a0 a1 a2 hs) (Nat.le_trans (Nat.le_of_ble_eq_true rfl) hd) rfl (hz_mk rfl (kszI (kszR ksz0)) rfl) (fun _ => rfl) (fun x1 s2 hf => g_blk (os := fun cl => [oS gI2l, oLast 20, tGo 4]) (fun _ => rfl) <| g_i2l <| g_last hf fun s4 hf => g_goto <| g_blk (os := fun cl => [oS (gPush (.int 0)), tIret]) (fun _ => rfl) <| g_pushI (c := 0) rfl <| g_iretW hf) (fun kq s3 hf => (db_if hf (fun hc hf => ⟨(3, 4), g_hk hc rfl, fun L5 p6 => g_blk (os := fun cl => [oS (gPush (.int 1)), tIret]) (fun _ => rfl) <| g_pushI (c := 1) rfl <| g_iretW hf⟩) (fun hc0 hf => (by cases hf))))
/-- BijectoryLaw.rank(LBijectory;II[J)I: kind W, depth 4 -/
noncomputable def f_L_rank (tb : List (List Int32)) (a0 : Nat) (a1 : Nat) (a2 : Nat) (a3 : Nat) (hs : kHS) : Option (dR Nat) := dchk hs (ob (dtag nS c_X9 hs.1 a0) fun _ => obX (f_X9_rank tb a0 a1 a2 hs) (fun x1 s2 => ob (dast nS 101 s2 a3 0 (.long (lN (xi x1)))) fun s4 => some (.inl 0, s4)) (fun kq s3 => bif Nat.beq kq 2 then (some (.inl 1, s3)) else (none)))
set_option maxRecDepth 20000 in
set_option maxHeartbeats 4000000 in
theorem T_L_rank {tb : List (List Int32)} (htb : kTab tb) (a0 : Nat) (a1 : Nat) (a2 : Nat) (a3 : Nat) (hs : kHS) (y : dR Nat) (hf : f_L_rank tb a0 a1 a2 a3 hs = some y) : kEv (kM tb) kML 202 4 [rv a0, .int (nI a1), .int (nI a2), rv a3] hs (eW eI y) := by
  have hd : 3 ≤ 3 := Nat.le_refl _
  refine g_metW rfl (kszR (kszI (kszI (kszR ksz0)))) rfl hf (fun hf => ?_)
  have hL : lv_args 0 [rv a0, .int (nI a1), .int (nI a2), rv a3] = [(0, rv a0), (1, .int (nI a1)), (2, .int (nI a2)), (3, rv a3)] := lvR (lvI (lvI (lvR (lv_a0 _))))
  have h0 : kget (lv_args 0 [rv a0, .int (nI a1), .int (nI a2), rv a3]) 0 = some (rv a0) := by rw [hL]; rfl
  have h1 : kget (lv_args 0 [rv a0, .int (nI a1), .int (nI a2), rv a3]) 1 = some (.int (nI a1)) := by rw [hL]; rfl
  have h2 : kget (lv_args 0 [rv a0, .int (nI a1), .int (nI a2), rv a3]) 2 = some (.int (nI a2)) := by rw [hL]; rfl
  have h3 : kget (lv_args 0 [rv a0, .int (nI a1), .int (nI a2), rv a3]) 3 = some (rv a3) := by rw [hL]; rfl
  generalize lv_args 0 [rv a0, .int (nI a1), .int (nI a2), rv a3] = L at h0 h1 h2 h3 ⊢
  exact g_blk (os := fun cl => [oLoadR 3, oS (gPush (.int 0)), oLoadR 0, oLoadI 1, oLoadI 2, oCallVX cl 85 2 8 20 (hkL [(2, 3, 4)]) 1]) (fun _ => rfl) <| g_loadR h3 <| g_pushI (c := 0) rfl <| g_loadR h0 <| g_loadI h1 <| g_loadI h2 <| g_callVX (e := eI) (S1 := fun v => .int (nI v) :: .int (nI 0) :: rv a3 :: []) hf rfl (T_X9_rank htb a0 a1 a2 hs) (Nat.le_trans (Nat.le_of_ble_eq_true rfl) hd) rfl (hz_mk rfl (kszI (kszR ksz0)) rfl) (fun _ => rfl) (fun x1 s2 hf => g_blk (os := fun cl => [oS gI2l, oLast 20, tGo 4]) (fun _ => rfl) <| g_i2l <| g_last hf fun s4 hf => g_goto <| g_blk (os := fun cl => [oS (gPush (.int 0)), tIret]) (fun _ => rfl) <| g_pushI (c := 0) rfl <| g_iretW hf) (fun kq s3 hf => (db_if hf (fun hc hf => ⟨(3, 4), g_hk hc rfl, fun L5 p6 => g_blk (os := fun cl => [oS (gPush (.int 1)), tIret]) (fun _ => rfl) <| g_pushI (c := 1) rfl <| g_iretW hf⟩) (fun hc0 hf => (by cases hf))))
/-- BijectoryLaw.statistic(LBijectory;III[J)I: kind W, depth 5 -/
noncomputable def f_L_statistic (tb : List (List Int32)) (a0 : Nat) (a1 : Nat) (a2 : Nat) (a3 : Nat) (a4 : Nat) (hs : kHS) : Option (dR Nat) := dchk hs (ob (dtag nS c_X9 hs.1 a0) fun _ => obX (f_X9_statistic tb a0 a1 a2 a3 hs) (fun x1 s2 => ob (dast nS 101 s2 a4 0 (.long (lN (xi x1)))) fun s4 => some (.inl 0, s4)) (fun kq s3 => bif Nat.beq kq 2 then (some (.inl 1, s3)) else (bif Nat.beq kq 0 then (some (.inl 2, s3)) else (none))))
set_option maxRecDepth 20000 in
set_option maxHeartbeats 4000000 in
theorem T_L_statistic {tb : List (List Int32)} (htb : kTab tb) (a0 : Nat) (a1 : Nat) (a2 : Nat) (a3 : Nat) (a4 : Nat) (hs : kHS) (y : dR Nat) (hf : f_L_statistic tb a0 a1 a2 a3 a4 hs = some y) : kEv (kM tb) kML 203 5 [rv a0, .int (nI a1), .int (nI a2), .int (nI a3), rv a4] hs (eW eI y) := by
  have hd : 4 ≤ 4 := Nat.le_refl _
  refine g_metW rfl (kszR (kszI (kszI (kszI (kszR ksz0))))) rfl hf (fun hf => ?_)
  have hL : lv_args 0 [rv a0, .int (nI a1), .int (nI a2), .int (nI a3), rv a4] = [(0, rv a0), (1, .int (nI a1)), (2, .int (nI a2)), (3, .int (nI a3)), (4, rv a4)] := lvR (lvI (lvI (lvI (lvR (lv_a0 _)))))
  have h0 : kget (lv_args 0 [rv a0, .int (nI a1), .int (nI a2), .int (nI a3), rv a4]) 0 = some (rv a0) := by rw [hL]; rfl
  have h1 : kget (lv_args 0 [rv a0, .int (nI a1), .int (nI a2), .int (nI a3), rv a4]) 1 = some (.int (nI a1)) := by rw [hL]; rfl
  have h2 : kget (lv_args 0 [rv a0, .int (nI a1), .int (nI a2), .int (nI a3), rv a4]) 2 = some (.int (nI a2)) := by rw [hL]; rfl
  have h3 : kget (lv_args 0 [rv a0, .int (nI a1), .int (nI a2), .int (nI a3), rv a4]) 3 = some (.int (nI a3)) := by rw [hL]; rfl
  have h4 : kget (lv_args 0 [rv a0, .int (nI a1), .int (nI a2), .int (nI a3), rv a4]) 4 = some (rv a4) := by rw [hL]; rfl
  generalize lv_args 0 [rv a0, .int (nI a1), .int (nI a2), .int (nI a3), rv a4] = L at h0 h1 h2 h3 h4 ⊢
  exact g_blk (os := fun cl => [oLoadR 4, oS (gPush (.int 0)), oLoadR 0, oLoadI 1, oLoadI 2, oLoadI 3, oCallVX cl 86 3 8 20 (hkL [(2, 3, 5), (0, 5, 5)]) 1]) (fun _ => rfl) <| g_loadR h4 <| g_pushI (c := 0) rfl <| g_loadR h0 <| g_loadI h1 <| g_loadI h2 <| g_loadI h3 <| g_callVX (e := eI) (S1 := fun v => .int (nI v) :: .int (nI 0) :: rv a4 :: []) hf rfl (T_X9_statistic htb a0 a1 a2 a3 hs) (Nat.le_trans (Nat.le_of_ble_eq_true rfl) hd) rfl (hz_mk rfl (kszI (kszR ksz0)) rfl) (fun _ => rfl) (fun x1 s2 hf => g_blk (os := fun cl => [oS gI2l, oLast 20, tGo 6]) (fun _ => rfl) <| g_i2l <| g_last hf fun s4 hf => g_goto <| g_blk (os := fun cl => [oS (gPush (.int 0)), tIret]) (fun _ => rfl) <| g_pushI (c := 0) rfl <| g_iretW hf) (fun kq s3 hf => (db_if hf (fun hc hf => ⟨(3, 5), g_hk hc rfl, fun L5 p6 => g_blk (os := fun cl => [oS (gPush (.int 1)), tIret]) (fun _ => rfl) <| g_pushI (c := 1) rfl <| g_iretW hf⟩) (fun hc0 hf => (db_if hf (fun hc hf => ⟨(5, 5), g_hkn hc0 (g_hk hc rfl), fun L7 p8 => g_blk (os := fun cl => [oS (gPush (.int 2)), tIret]) (fun _ => rfl) <| g_pushI (c := 2) rfl <| g_iretW hf⟩) (fun hc1 hf => (by cases hf))))))
/-- BijectoryLaw.spread(LBijectory;III[J)I: kind W, depth 4 -/
noncomputable def f_L_spread (tb : List (List Int32)) (a0 : Nat) (a1 : Nat) (a2 : Nat) (a3 : Nat) (a4 : Nat) (hs : kHS) : Option (dR Nat) := dchk hs (ob (dtag nS c_X9 hs.1 a0) fun _ => obX (f_X9_spread tb a0 a1 a2 a3 hs) (fun x1 s2 => ob (dast nS 101 s2 a4 0 (.long (lN (xi x1)))) fun s4 => some (.inl 0, s4)) (fun kq s3 => bif Nat.beq kq 2 then (some (.inl 1, s3)) else (bif Nat.beq kq 0 then (some (.inl 2, s3)) else (none))))
set_option maxRecDepth 20000 in
set_option maxHeartbeats 4000000 in
theorem T_L_spread {tb : List (List Int32)} (htb : kTab tb) (a0 : Nat) (a1 : Nat) (a2 : Nat) (a3 : Nat) (a4 : Nat) (hs : kHS) (y : dR Nat) (hf : f_L_spread tb a0 a1 a2 a3 a4 hs = some y) : kEv (kM tb) kML 204 4 [rv a0, .int (nI a1), .int (nI a2), .int (nI a3), rv a4] hs (eW eI y) := by
  have hd : 3 ≤ 3 := Nat.le_refl _
  refine g_metW rfl (kszR (kszI (kszI (kszI (kszR ksz0))))) rfl hf (fun hf => ?_)
  have hL : lv_args 0 [rv a0, .int (nI a1), .int (nI a2), .int (nI a3), rv a4] = [(0, rv a0), (1, .int (nI a1)), (2, .int (nI a2)), (3, .int (nI a3)), (4, rv a4)] := lvR (lvI (lvI (lvI (lvR (lv_a0 _)))))
  have h0 : kget (lv_args 0 [rv a0, .int (nI a1), .int (nI a2), .int (nI a3), rv a4]) 0 = some (rv a0) := by rw [hL]; rfl
  have h1 : kget (lv_args 0 [rv a0, .int (nI a1), .int (nI a2), .int (nI a3), rv a4]) 1 = some (.int (nI a1)) := by rw [hL]; rfl
  have h2 : kget (lv_args 0 [rv a0, .int (nI a1), .int (nI a2), .int (nI a3), rv a4]) 2 = some (.int (nI a2)) := by rw [hL]; rfl
  have h3 : kget (lv_args 0 [rv a0, .int (nI a1), .int (nI a2), .int (nI a3), rv a4]) 3 = some (.int (nI a3)) := by rw [hL]; rfl
  have h4 : kget (lv_args 0 [rv a0, .int (nI a1), .int (nI a2), .int (nI a3), rv a4]) 4 = some (rv a4) := by rw [hL]; rfl
  generalize lv_args 0 [rv a0, .int (nI a1), .int (nI a2), .int (nI a3), rv a4] = L at h0 h1 h2 h3 h4 ⊢
  exact g_blk (os := fun cl => [oLoadR 4, oS (gPush (.int 0)), oLoadR 0, oLoadI 1, oLoadI 2, oLoadI 3, oCallVX cl 87 3 8 20 (hkL [(2, 3, 5), (0, 5, 5)]) 1]) (fun _ => rfl) <| g_loadR h4 <| g_pushI (c := 0) rfl <| g_loadR h0 <| g_loadI h1 <| g_loadI h2 <| g_loadI h3 <| g_callVX (e := eI) (S1 := fun v => .int (nI v) :: .int (nI 0) :: rv a4 :: []) hf rfl (T_X9_spread htb a0 a1 a2 a3 hs) (Nat.le_trans (Nat.le_of_ble_eq_true rfl) hd) rfl (hz_mk rfl (kszI (kszR ksz0)) rfl) (fun _ => rfl) (fun x1 s2 hf => g_blk (os := fun cl => [oS gI2l, oLast 20, tGo 6]) (fun _ => rfl) <| g_i2l <| g_last hf fun s4 hf => g_goto <| g_blk (os := fun cl => [oS (gPush (.int 0)), tIret]) (fun _ => rfl) <| g_pushI (c := 0) rfl <| g_iretW hf) (fun kq s3 hf => (db_if hf (fun hc hf => ⟨(3, 5), g_hk hc rfl, fun L5 p6 => g_blk (os := fun cl => [oS (gPush (.int 1)), tIret]) (fun _ => rfl) <| g_pushI (c := 1) rfl <| g_iretW hf⟩) (fun hc0 hf => (db_if hf (fun hc hf => ⟨(5, 5), g_hkn hc0 (g_hk hc rfl), fun L7 p8 => g_blk (os := fun cl => [oS (gPush (.int 2)), tIret]) (fun _ => rfl) <| g_pushI (c := 2) rfl <| g_iretW hf⟩) (fun hc1 hf => (by cases hf))))))
/-- BijectoryLaw.signs(LBijectory;II[J)I: kind W, depth 4 -/
noncomputable def f_L_signs (tb : List (List Int32)) (a0 : Nat) (a1 : Nat) (a2 : Nat) (a3 : Nat) (hs : kHS) : Option (dR Nat) := dchk hs (ob (dtag nS c_X9 hs.1 a0) fun _ => obX (f_X9_signs tb a0 a1 a2 hs) (fun x1 s2 => ob (dast nS 101 s2 a3 0 (.long (lN (xi x1)))) fun s4 => some (.inl 0, s4)) (fun kq s3 => bif Nat.beq kq 2 then (some (.inl 1, s3)) else (bif Nat.beq kq 0 then (some (.inl 2, s3)) else (none))))
set_option maxRecDepth 20000 in
set_option maxHeartbeats 4000000 in
theorem T_L_signs {tb : List (List Int32)} (htb : kTab tb) (a0 : Nat) (a1 : Nat) (a2 : Nat) (a3 : Nat) (hs : kHS) (y : dR Nat) (hf : f_L_signs tb a0 a1 a2 a3 hs = some y) : kEv (kM tb) kML 205 4 [rv a0, .int (nI a1), .int (nI a2), rv a3] hs (eW eI y) := by
  have hd : 3 ≤ 3 := Nat.le_refl _
  refine g_metW rfl (kszR (kszI (kszI (kszR ksz0)))) rfl hf (fun hf => ?_)
  have hL : lv_args 0 [rv a0, .int (nI a1), .int (nI a2), rv a3] = [(0, rv a0), (1, .int (nI a1)), (2, .int (nI a2)), (3, rv a3)] := lvR (lvI (lvI (lvR (lv_a0 _))))
  have h0 : kget (lv_args 0 [rv a0, .int (nI a1), .int (nI a2), rv a3]) 0 = some (rv a0) := by rw [hL]; rfl
  have h1 : kget (lv_args 0 [rv a0, .int (nI a1), .int (nI a2), rv a3]) 1 = some (.int (nI a1)) := by rw [hL]; rfl
  have h2 : kget (lv_args 0 [rv a0, .int (nI a1), .int (nI a2), rv a3]) 2 = some (.int (nI a2)) := by rw [hL]; rfl
  have h3 : kget (lv_args 0 [rv a0, .int (nI a1), .int (nI a2), rv a3]) 3 = some (rv a3) := by rw [hL]; rfl
  generalize lv_args 0 [rv a0, .int (nI a1), .int (nI a2), rv a3] = L at h0 h1 h2 h3 ⊢
  exact g_blk (os := fun cl => [oLoadR 3, oS (gPush (.int 0)), oLoadR 0, oLoadI 1, oLoadI 2, oCallVX cl 88 2 8 20 (hkL [(2, 3, 4), (0, 5, 4)]) 1]) (fun _ => rfl) <| g_loadR h3 <| g_pushI (c := 0) rfl <| g_loadR h0 <| g_loadI h1 <| g_loadI h2 <| g_callVX (e := eI) (S1 := fun v => .int (nI v) :: .int (nI 0) :: rv a3 :: []) hf rfl (T_X9_signs htb a0 a1 a2 hs) (Nat.le_trans (Nat.le_of_ble_eq_true rfl) hd) rfl (hz_mk rfl (kszI (kszR ksz0)) rfl) (fun _ => rfl) (fun x1 s2 hf => g_blk (os := fun cl => [oS gI2l, oLast 20, tGo 6]) (fun _ => rfl) <| g_i2l <| g_last hf fun s4 hf => g_goto <| g_blk (os := fun cl => [oS (gPush (.int 0)), tIret]) (fun _ => rfl) <| g_pushI (c := 0) rfl <| g_iretW hf) (fun kq s3 hf => (db_if hf (fun hc hf => ⟨(3, 4), g_hk hc rfl, fun L5 p6 => g_blk (os := fun cl => [oS (gPush (.int 1)), tIret]) (fun _ => rfl) <| g_pushI (c := 1) rfl <| g_iretW hf⟩) (fun hc0 hf => (db_if hf (fun hc hf => ⟨(5, 4), g_hkn hc0 (g_hk hc rfl), fun L7 p8 => g_blk (os := fun cl => [oS (gPush (.int 2)), tIret]) (fun _ => rfl) <| g_pushI (c := 2) rfl <| g_iretW hf⟩) (fun hc1 hf => (by cases hf))))))
/-- BijectoryLaw.alike(LBijectory;IIII[J)I: kind W, depth 4 -/
noncomputable def f_L_alike (tb : List (List Int32)) (a0 : Nat) (a1 : Nat) (a2 : Nat) (a3 : Nat) (a4 : Nat) (a5 : Nat) (hs : kHS) : Option (dR Nat) := dchk hs (ob (dtag nS c_X9 hs.1 a0) fun _ => obX (f_X9_alike tb a0 a1 a2 a3 a4 hs) (fun x1 s2 => bif weq x1 0 then (ob (dast nS 101 s2 a5 0 (.long (lN 0))) fun s4 => some (.inl 0, s4)) else (ob (dast nS 101 s2 a5 0 (.long (lN 1))) fun s5 => some (.inl 0, s5))) (fun kq s3 => bif Nat.beq kq 2 then (some (.inl 1, s3)) else (bif Nat.beq kq 0 then (some (.inl 2, s3)) else (none))))
set_option maxRecDepth 20000 in
set_option maxHeartbeats 4000000 in
theorem T_L_alike {tb : List (List Int32)} (htb : kTab tb) (a0 : Nat) (a1 : Nat) (a2 : Nat) (a3 : Nat) (a4 : Nat) (a5 : Nat) (hs : kHS) (y : dR Nat) (hf : f_L_alike tb a0 a1 a2 a3 a4 a5 hs = some y) : kEv (kM tb) kML 206 4 [rv a0, .int (nI a1), .int (nI a2), .int (nI a3), .int (nI a4), rv a5] hs (eW eI y) := by
  have hd : 3 ≤ 3 := Nat.le_refl _
  refine g_metW rfl (kszR (kszI (kszI (kszI (kszI (kszR ksz0)))))) rfl hf (fun hf => ?_)
  have hL : lv_args 0 [rv a0, .int (nI a1), .int (nI a2), .int (nI a3), .int (nI a4), rv a5] = [(0, rv a0), (1, .int (nI a1)), (2, .int (nI a2)), (3, .int (nI a3)), (4, .int (nI a4)), (5, rv a5)] := lvR (lvI (lvI (lvI (lvI (lvR (lv_a0 _))))))
  have h0 : kget (lv_args 0 [rv a0, .int (nI a1), .int (nI a2), .int (nI a3), .int (nI a4), rv a5]) 0 = some (rv a0) := by rw [hL]; rfl
  have h1 : kget (lv_args 0 [rv a0, .int (nI a1), .int (nI a2), .int (nI a3), .int (nI a4), rv a5]) 1 = some (.int (nI a1)) := by rw [hL]; rfl
  have h2 : kget (lv_args 0 [rv a0, .int (nI a1), .int (nI a2), .int (nI a3), .int (nI a4), rv a5]) 2 = some (.int (nI a2)) := by rw [hL]; rfl
  have h3 : kget (lv_args 0 [rv a0, .int (nI a1), .int (nI a2), .int (nI a3), .int (nI a4), rv a5]) 3 = some (.int (nI a3)) := by rw [hL]; rfl
  have h4 : kget (lv_args 0 [rv a0, .int (nI a1), .int (nI a2), .int (nI a3), .int (nI a4), rv a5]) 4 = some (.int (nI a4)) := by rw [hL]; rfl
  have h5 : kget (lv_args 0 [rv a0, .int (nI a1), .int (nI a2), .int (nI a3), .int (nI a4), rv a5]) 5 = some (rv a5) := by rw [hL]; rfl
  generalize lv_args 0 [rv a0, .int (nI a1), .int (nI a2), .int (nI a3), .int (nI a4), rv a5] = L at h0 h1 h2 h3 h4 h5 ⊢
  exact g_blk (os := fun cl => [oLoadR 5, oS (gPush (.int 0)), oLoadR 0, oLoadI 1, oLoadI 2, oLoadI 3, oLoadI 4, oCallVX cl 89 4 8 20 (hkL [(2, 6, 6), (0, 8, 6)]) 1]) (fun _ => rfl) <| g_loadR h5 <| g_pushI (c := 0) rfl <| g_loadR h0 <| g_loadI h1 <| g_loadI h2 <| g_loadI h3 <| g_loadI h4 <| g_callVX (e := eI) (S1 := fun v => .int (nI v) :: .int (nI 0) :: rv a5 :: []) hf rfl (T_X9_alike htb a0 a1 a2 a3 a4 hs) (Nat.le_trans (Nat.le_of_ble_eq_true rfl) hd) rfl (hz_mk rfl (kszI (kszR ksz0)) rfl) (fun _ => rfl) (fun x1 s2 hf => g_blk (os := fun cl => [tIf (fun x => decide (x = 0)) 3 2]) (fun _ => rfl) <| g_if hf (w_eq _ _) (fun hc hf => g_blk (os := fun cl => [oS (gPush (.long 0)), tGo 4]) (fun _ => rfl) <| g_pushL (c := 0) rfl <| g_goto <| g_blk (os := fun cl => [oLast 20, tGo 9]) (fun _ => rfl) <| g_last hf fun s4 hf => g_goto <| g_blk (os := fun cl => [oS (gPush (.int 0)), tIret]) (fun _ => rfl) <| g_pushI (c := 0) rfl <| g_iretW hf) (fun hc hf => g_blk (os := fun cl => [oS (gPush (.long 1)), tGo 4]) (fun _ => rfl) <| g_pushL (c := 1) rfl <| g_goto <| g_blk (os := fun cl => [oLast 20, tGo 9]) (fun _ => rfl) <| g_last hf fun s5 hf => g_goto <| g_blk (os := fun cl => [oS (gPush (.int 0)), tIret]) (fun _ => rfl) <| g_pushI (c := 0) rfl <| g_iretW hf)) (fun kq s3 hf => (db_if hf (fun hc hf => ⟨(6, 6), g_hk hc rfl, fun L6 p7 => g_blk (os := fun cl => [oS (gPush (.int 1)), tIret]) (fun _ => rfl) <| g_pushI (c := 1) rfl <| g_iretW hf⟩) (fun hc0 hf => (db_if hf (fun hc hf => ⟨(8, 6), g_hkn hc0 (g_hk hc rfl), fun L8 p9 => g_blk (os := fun cl => [oS (gPush (.int 2)), tIret]) (fun _ => rfl) <| g_pushI (c := 2) rfl <| g_iretW hf⟩) (fun hc1 hf => (by cases hf))))))
/-- BijectoryLaw.contains(LBijectory;II[J)I: kind W, depth 5 -/
noncomputable def f_L_contains (tb : List (List Int32)) (a0 : Nat) (a1 : Nat) (a2 : Nat) (a3 : Nat) (hs : kHS) : Option (dR Nat) := dchk hs (ob (dtag nS c_X9 hs.1 a0) fun _ => obX (f_X9_contains tb a0 a1 a2 hs) (fun x1 s2 => ob (dast nS 101 s2 a3 0 (.long (lN (xi x1)))) fun s4 => some (.inl 0, s4)) (fun kq s3 => bif Nat.beq kq 2 then (some (.inl 1, s3)) else (bif Nat.beq kq 0 then (some (.inl 2, s3)) else (none))))
set_option maxRecDepth 20000 in
set_option maxHeartbeats 4000000 in
theorem T_L_contains {tb : List (List Int32)} (htb : kTab tb) (a0 : Nat) (a1 : Nat) (a2 : Nat) (a3 : Nat) (hs : kHS) (y : dR Nat) (hf : f_L_contains tb a0 a1 a2 a3 hs = some y) : kEv (kM tb) kML 207 5 [rv a0, .int (nI a1), .int (nI a2), rv a3] hs (eW eI y) := by
  have hd : 4 ≤ 4 := Nat.le_refl _
  refine g_metW rfl (kszR (kszI (kszI (kszR ksz0)))) rfl hf (fun hf => ?_)
  have hL : lv_args 0 [rv a0, .int (nI a1), .int (nI a2), rv a3] = [(0, rv a0), (1, .int (nI a1)), (2, .int (nI a2)), (3, rv a3)] := lvR (lvI (lvI (lvR (lv_a0 _))))
  have h0 : kget (lv_args 0 [rv a0, .int (nI a1), .int (nI a2), rv a3]) 0 = some (rv a0) := by rw [hL]; rfl
  have h1 : kget (lv_args 0 [rv a0, .int (nI a1), .int (nI a2), rv a3]) 1 = some (.int (nI a1)) := by rw [hL]; rfl
  have h2 : kget (lv_args 0 [rv a0, .int (nI a1), .int (nI a2), rv a3]) 2 = some (.int (nI a2)) := by rw [hL]; rfl
  have h3 : kget (lv_args 0 [rv a0, .int (nI a1), .int (nI a2), rv a3]) 3 = some (rv a3) := by rw [hL]; rfl
  generalize lv_args 0 [rv a0, .int (nI a1), .int (nI a2), rv a3] = L at h0 h1 h2 h3 ⊢
  exact g_blk (os := fun cl => [oLoadR 3, oS (gPush (.int 0)), oLoadR 0, oLoadI 1, oLoadI 2, oCallVX cl 90 2 8 20 (hkL [(2, 3, 4), (0, 5, 4)]) 1]) (fun _ => rfl) <| g_loadR h3 <| g_pushI (c := 0) rfl <| g_loadR h0 <| g_loadI h1 <| g_loadI h2 <| g_callVX (e := eI) (S1 := fun v => .int (nI v) :: .int (nI 0) :: rv a3 :: []) hf rfl (T_X9_contains htb a0 a1 a2 hs) (Nat.le_trans (Nat.le_of_ble_eq_true rfl) hd) rfl (hz_mk rfl (kszI (kszR ksz0)) rfl) (fun _ => rfl) (fun x1 s2 hf => g_blk (os := fun cl => [oS gI2l, oLast 20, tGo 6]) (fun _ => rfl) <| g_i2l <| g_last hf fun s4 hf => g_goto <| g_blk (os := fun cl => [oS (gPush (.int 0)), tIret]) (fun _ => rfl) <| g_pushI (c := 0) rfl <| g_iretW hf) (fun kq s3 hf => (db_if hf (fun hc hf => ⟨(3, 4), g_hk hc rfl, fun L5 p6 => g_blk (os := fun cl => [oS (gPush (.int 1)), tIret]) (fun _ => rfl) <| g_pushI (c := 1) rfl <| g_iretW hf⟩) (fun hc0 hf => (db_if hf (fun hc hf => ⟨(5, 4), g_hkn hc0 (g_hk hc rfl), fun L7 p8 => g_blk (os := fun cl => [oS (gPush (.int 2)), tIret]) (fun _ => rfl) <| g_pushI (c := 2) rfl <| g_iretW hf⟩) (fun hc1 hf => (by cases hf))))))
/-- BijectoryLaw.sorted(LBijectory;I[J)I: kind W, depth 4 -/
noncomputable def f_L_sorted (tb : List (List Int32)) (a0 : Nat) (a1 : Nat) (a2 : Nat) (hs : kHS) : Option (dR Nat) := dchk hs (ob (dtag nS c_X9 hs.1 a0) fun _ => obX (f_X9_sorted tb a0 a1 hs) (fun x1 s2 => ob (dast nS 101 s2 a2 0 (.long (lN (xi x1)))) fun s4 => some (.inl 0, s4)) (fun kq s3 => bif Nat.beq kq 0 then (some (.inl 1, s3)) else (none)))
set_option maxRecDepth 20000 in
set_option maxHeartbeats 4000000 in
theorem T_L_sorted {tb : List (List Int32)} (htb : kTab tb) (a0 : Nat) (a1 : Nat) (a2 : Nat) (hs : kHS) (y : dR Nat) (hf : f_L_sorted tb a0 a1 a2 hs = some y) : kEv (kM tb) kML 208 4 [rv a0, .int (nI a1), rv a2] hs (eW eI y) := by
  have hd : 3 ≤ 3 := Nat.le_refl _
  refine g_metW rfl (kszR (kszI (kszR ksz0))) rfl hf (fun hf => ?_)
  have hL : lv_args 0 [rv a0, .int (nI a1), rv a2] = [(0, rv a0), (1, .int (nI a1)), (2, rv a2)] := lvR (lvI (lvR (lv_a0 _)))
  have h0 : kget (lv_args 0 [rv a0, .int (nI a1), rv a2]) 0 = some (rv a0) := by rw [hL]; rfl
  have h1 : kget (lv_args 0 [rv a0, .int (nI a1), rv a2]) 1 = some (.int (nI a1)) := by rw [hL]; rfl
  have h2 : kget (lv_args 0 [rv a0, .int (nI a1), rv a2]) 2 = some (rv a2) := by rw [hL]; rfl
  generalize lv_args 0 [rv a0, .int (nI a1), rv a2] = L at h0 h1 h2 ⊢
  exact g_blk (os := fun cl => [oLoadR 2, oS (gPush (.int 0)), oLoadR 0, oLoadI 1, oCallVX cl 91 1 8 20 (hkL [(0, 3, 3)]) 1]) (fun _ => rfl) <| g_loadR h2 <| g_pushI (c := 0) rfl <| g_loadR h0 <| g_loadI h1 <| g_callVX (e := eI) (S1 := fun v => .int (nI v) :: .int (nI 0) :: rv a2 :: []) hf rfl (T_X9_sorted htb a0 a1 hs) (Nat.le_trans (Nat.le_of_ble_eq_true rfl) hd) rfl (hz_mk rfl (kszI (kszR ksz0)) rfl) (fun _ => rfl) (fun x1 s2 hf => g_blk (os := fun cl => [oS gI2l, oLast 20, tGo 4]) (fun _ => rfl) <| g_i2l <| g_last hf fun s4 hf => g_goto <| g_blk (os := fun cl => [oS (gPush (.int 0)), tIret]) (fun _ => rfl) <| g_pushI (c := 0) rfl <| g_iretW hf) (fun kq s3 hf => (db_if hf (fun hc hf => ⟨(3, 3), g_hk hc rfl, fun L5 p6 => g_blk (os := fun cl => [oS (gPush (.int 1)), tIret]) (fun _ => rfl) <| g_pushI (c := 1) rfl <| g_iretW hf⟩) (fun hc0 hf => (by cases hf))))
/-- BijectoryLaw.ofMap(LBijectory;II[J)I: kind W, depth 6 -/
noncomputable def f_L_ofMap (tb : List (List Int32)) (a0 : Nat) (a1 : Nat) (a2 : Nat) (a3 : Nat) (hs : kHS) : Option (dR Nat) := dchk hs (ob (dtag nS c_X9 hs.1 a0) fun _ => obX (f_X9_ofMap tb a0 a1 a2 hs) (fun x1 s2 => ob (dast nS 101 s2 a3 0 (.long (lN (xi x1)))) fun s4 => some (.inl 0, s4)) (fun kq s3 => bif Nat.beq kq 2 then (some (.inl 1, s3)) else (bif Nat.beq kq 0 then (some (.inl 2, s3)) else (none))))
set_option maxRecDepth 20000 in
set_option maxHeartbeats 4000000 in
theorem T_L_ofMap {tb : List (List Int32)} (htb : kTab tb) (a0 : Nat) (a1 : Nat) (a2 : Nat) (a3 : Nat) (hs : kHS) (y : dR Nat) (hf : f_L_ofMap tb a0 a1 a2 a3 hs = some y) : kEv (kM tb) kML 209 6 [rv a0, .int (nI a1), .int (nI a2), rv a3] hs (eW eI y) := by
  have hd : 5 ≤ 5 := Nat.le_refl _
  refine g_metW rfl (kszR (kszI (kszI (kszR ksz0)))) rfl hf (fun hf => ?_)
  have hL : lv_args 0 [rv a0, .int (nI a1), .int (nI a2), rv a3] = [(0, rv a0), (1, .int (nI a1)), (2, .int (nI a2)), (3, rv a3)] := lvR (lvI (lvI (lvR (lv_a0 _))))
  have h0 : kget (lv_args 0 [rv a0, .int (nI a1), .int (nI a2), rv a3]) 0 = some (rv a0) := by rw [hL]; rfl
  have h1 : kget (lv_args 0 [rv a0, .int (nI a1), .int (nI a2), rv a3]) 1 = some (.int (nI a1)) := by rw [hL]; rfl
  have h2 : kget (lv_args 0 [rv a0, .int (nI a1), .int (nI a2), rv a3]) 2 = some (.int (nI a2)) := by rw [hL]; rfl
  have h3 : kget (lv_args 0 [rv a0, .int (nI a1), .int (nI a2), rv a3]) 3 = some (rv a3) := by rw [hL]; rfl
  generalize lv_args 0 [rv a0, .int (nI a1), .int (nI a2), rv a3] = L at h0 h1 h2 h3 ⊢
  exact g_blk (os := fun cl => [oLoadR 3, oS (gPush (.int 0)), oLoadR 0, oLoadI 1, oLoadI 2, oCallVX cl 92 2 8 20 (hkL [(2, 3, 4), (0, 5, 4)]) 1]) (fun _ => rfl) <| g_loadR h3 <| g_pushI (c := 0) rfl <| g_loadR h0 <| g_loadI h1 <| g_loadI h2 <| g_callVX (e := eI) (S1 := fun v => .int (nI v) :: .int (nI 0) :: rv a3 :: []) hf rfl (T_X9_ofMap htb a0 a1 a2 hs) (Nat.le_trans (Nat.le_of_ble_eq_true rfl) hd) rfl (hz_mk rfl (kszI (kszR ksz0)) rfl) (fun _ => rfl) (fun x1 s2 hf => g_blk (os := fun cl => [oS gI2l, oLast 20, tGo 6]) (fun _ => rfl) <| g_i2l <| g_last hf fun s4 hf => g_goto <| g_blk (os := fun cl => [oS (gPush (.int 0)), tIret]) (fun _ => rfl) <| g_pushI (c := 0) rfl <| g_iretW hf) (fun kq s3 hf => (db_if hf (fun hc hf => ⟨(3, 4), g_hk hc rfl, fun L5 p6 => g_blk (os := fun cl => [oS (gPush (.int 1)), tIret]) (fun _ => rfl) <| g_pushI (c := 1) rfl <| g_iretW hf⟩) (fun hc0 hf => (db_if hf (fun hc hf => ⟨(5, 4), g_hkn hc0 (g_hk hc rfl), fun L7 p8 => g_blk (os := fun cl => [oS (gPush (.int 2)), tIret]) (fun _ => rfl) <| g_pushI (c := 2) rfl <| g_iretW hf⟩) (fun hc1 hf => (by cases hf))))))
/-- BijectoryLaw.image(LBijectory;II[J)I: kind W, depth 5 -/
noncomputable def f_L_image (tb : List (List Int32)) (a0 : Nat) (a1 : Nat) (a2 : Nat) (a3 : Nat) (hs : kHS) : Option (dR Nat) := dchk hs (ob (dtag nS c_X9 hs.1 a0) fun _ => obX (f_X9_image tb a0 a1 a2 hs) (fun x1 s2 => ob (dast nS 101 s2 a3 0 (.long (lN (xi x1)))) fun s4 => some (.inl 0, s4)) (fun kq s3 => bif Nat.beq kq 2 then (some (.inl 1, s3)) else (none)))
set_option maxRecDepth 20000 in
set_option maxHeartbeats 4000000 in
theorem T_L_image {tb : List (List Int32)} (htb : kTab tb) (a0 : Nat) (a1 : Nat) (a2 : Nat) (a3 : Nat) (hs : kHS) (y : dR Nat) (hf : f_L_image tb a0 a1 a2 a3 hs = some y) : kEv (kM tb) kML 210 5 [rv a0, .int (nI a1), .int (nI a2), rv a3] hs (eW eI y) := by
  have hd : 4 ≤ 4 := Nat.le_refl _
  refine g_metW rfl (kszR (kszI (kszI (kszR ksz0)))) rfl hf (fun hf => ?_)
  have hL : lv_args 0 [rv a0, .int (nI a1), .int (nI a2), rv a3] = [(0, rv a0), (1, .int (nI a1)), (2, .int (nI a2)), (3, rv a3)] := lvR (lvI (lvI (lvR (lv_a0 _))))
  have h0 : kget (lv_args 0 [rv a0, .int (nI a1), .int (nI a2), rv a3]) 0 = some (rv a0) := by rw [hL]; rfl
  have h1 : kget (lv_args 0 [rv a0, .int (nI a1), .int (nI a2), rv a3]) 1 = some (.int (nI a1)) := by rw [hL]; rfl
  have h2 : kget (lv_args 0 [rv a0, .int (nI a1), .int (nI a2), rv a3]) 2 = some (.int (nI a2)) := by rw [hL]; rfl
  have h3 : kget (lv_args 0 [rv a0, .int (nI a1), .int (nI a2), rv a3]) 3 = some (rv a3) := by rw [hL]; rfl
  generalize lv_args 0 [rv a0, .int (nI a1), .int (nI a2), rv a3] = L at h0 h1 h2 h3 ⊢
  exact g_blk (os := fun cl => [oLoadR 3, oS (gPush (.int 0)), oLoadR 0, oLoadI 1, oLoadI 2, oCallVX cl 93 2 8 20 (hkL [(2, 3, 4)]) 1]) (fun _ => rfl) <| g_loadR h3 <| g_pushI (c := 0) rfl <| g_loadR h0 <| g_loadI h1 <| g_loadI h2 <| g_callVX (e := eI) (S1 := fun v => .int (nI v) :: .int (nI 0) :: rv a3 :: []) hf rfl (T_X9_image htb a0 a1 a2 hs) (Nat.le_trans (Nat.le_of_ble_eq_true rfl) hd) rfl (hz_mk rfl (kszI (kszR ksz0)) rfl) (fun _ => rfl) (fun x1 s2 hf => g_blk (os := fun cl => [oS gI2l, oLast 20, tGo 4]) (fun _ => rfl) <| g_i2l <| g_last hf fun s4 hf => g_goto <| g_blk (os := fun cl => [oS (gPush (.int 0)), tIret]) (fun _ => rfl) <| g_pushI (c := 0) rfl <| g_iretW hf) (fun kq s3 hf => (db_if hf (fun hc hf => ⟨(3, 4), g_hk hc rfl, fun L5 p6 => g_blk (os := fun cl => [oS (gPush (.int 1)), tIret]) (fun _ => rfl) <| g_pushI (c := 1) rfl <| g_iretW hf⟩) (fun hc0 hf => (by cases hf))))
/-- BijectoryLaw.source(LBijectory;II[J)I: kind W, depth 5 -/
noncomputable def f_L_source (tb : List (List Int32)) (a0 : Nat) (a1 : Nat) (a2 : Nat) (a3 : Nat) (hs : kHS) : Option (dR Nat) := dchk hs (ob (dtag nS c_X9 hs.1 a0) fun _ => obX (f_X9_source tb a0 a1 a2 hs) (fun x1 s2 => ob (dast nS 101 s2 a3 0 (.long (lN (xi x1)))) fun s4 => some (.inl 0, s4)) (fun kq s3 => bif Nat.beq kq 2 then (some (.inl 1, s3)) else (none)))
set_option maxRecDepth 20000 in
set_option maxHeartbeats 4000000 in
theorem T_L_source {tb : List (List Int32)} (htb : kTab tb) (a0 : Nat) (a1 : Nat) (a2 : Nat) (a3 : Nat) (hs : kHS) (y : dR Nat) (hf : f_L_source tb a0 a1 a2 a3 hs = some y) : kEv (kM tb) kML 211 5 [rv a0, .int (nI a1), .int (nI a2), rv a3] hs (eW eI y) := by
  have hd : 4 ≤ 4 := Nat.le_refl _
  refine g_metW rfl (kszR (kszI (kszI (kszR ksz0)))) rfl hf (fun hf => ?_)
  have hL : lv_args 0 [rv a0, .int (nI a1), .int (nI a2), rv a3] = [(0, rv a0), (1, .int (nI a1)), (2, .int (nI a2)), (3, rv a3)] := lvR (lvI (lvI (lvR (lv_a0 _))))
  have h0 : kget (lv_args 0 [rv a0, .int (nI a1), .int (nI a2), rv a3]) 0 = some (rv a0) := by rw [hL]; rfl
  have h1 : kget (lv_args 0 [rv a0, .int (nI a1), .int (nI a2), rv a3]) 1 = some (.int (nI a1)) := by rw [hL]; rfl
  have h2 : kget (lv_args 0 [rv a0, .int (nI a1), .int (nI a2), rv a3]) 2 = some (.int (nI a2)) := by rw [hL]; rfl
  have h3 : kget (lv_args 0 [rv a0, .int (nI a1), .int (nI a2), rv a3]) 3 = some (rv a3) := by rw [hL]; rfl
  generalize lv_args 0 [rv a0, .int (nI a1), .int (nI a2), rv a3] = L at h0 h1 h2 h3 ⊢
  exact g_blk (os := fun cl => [oLoadR 3, oS (gPush (.int 0)), oLoadR 0, oLoadI 1, oLoadI 2, oCallVX cl 94 2 8 20 (hkL [(2, 3, 4)]) 1]) (fun _ => rfl) <| g_loadR h3 <| g_pushI (c := 0) rfl <| g_loadR h0 <| g_loadI h1 <| g_loadI h2 <| g_callVX (e := eI) (S1 := fun v => .int (nI v) :: .int (nI 0) :: rv a3 :: []) hf rfl (T_X9_source htb a0 a1 a2 hs) (Nat.le_trans (Nat.le_of_ble_eq_true rfl) hd) rfl (hz_mk rfl (kszI (kszR ksz0)) rfl) (fun _ => rfl) (fun x1 s2 hf => g_blk (os := fun cl => [oS gI2l, oLast 20, tGo 4]) (fun _ => rfl) <| g_i2l <| g_last hf fun s4 hf => g_goto <| g_blk (os := fun cl => [oS (gPush (.int 0)), tIret]) (fun _ => rfl) <| g_pushI (c := 0) rfl <| g_iretW hf) (fun kq s3 hf => (db_if hf (fun hc hf => ⟨(3, 4), g_hk hc rfl, fun L5 p6 => g_blk (os := fun cl => [oS (gPush (.int 1)), tIret]) (fun _ => rfl) <| g_pushI (c := 1) rfl <| g_iretW hf⟩) (fun hc0 hf => (by cases hf))))
/-- BijectoryLaw.rounds(LBijectory;I[J)I: kind W, depth 6 -/
noncomputable def f_L_rounds (tb : List (List Int32)) (a0 : Nat) (a1 : Nat) (a2 : Nat) (hs : kHS) : Option (dR Nat) := dchk hs (ob (dtag nS c_X9 hs.1 a0) fun _ => obX (f_X9_rounds tb a0 a1 hs) (fun x1 s2 => ob (dast nS 101 s2 a2 0 (.long (lN (xi x1)))) fun s4 => some (.inl 0, s4)) (fun kq s3 => bif Nat.beq kq 2 then (some (.inl 1, s3)) else (none)))
set_option maxRecDepth 20000 in
set_option maxHeartbeats 4000000 in
theorem T_L_rounds {tb : List (List Int32)} (htb : kTab tb) (a0 : Nat) (a1 : Nat) (a2 : Nat) (hs : kHS) (y : dR Nat) (hf : f_L_rounds tb a0 a1 a2 hs = some y) : kEv (kM tb) kML 212 6 [rv a0, .int (nI a1), rv a2] hs (eW eI y) := by
  have hd : 5 ≤ 5 := Nat.le_refl _
  refine g_metW rfl (kszR (kszI (kszR ksz0))) rfl hf (fun hf => ?_)
  have hL : lv_args 0 [rv a0, .int (nI a1), rv a2] = [(0, rv a0), (1, .int (nI a1)), (2, rv a2)] := lvR (lvI (lvR (lv_a0 _)))
  have h0 : kget (lv_args 0 [rv a0, .int (nI a1), rv a2]) 0 = some (rv a0) := by rw [hL]; rfl
  have h1 : kget (lv_args 0 [rv a0, .int (nI a1), rv a2]) 1 = some (.int (nI a1)) := by rw [hL]; rfl
  have h2 : kget (lv_args 0 [rv a0, .int (nI a1), rv a2]) 2 = some (rv a2) := by rw [hL]; rfl
  generalize lv_args 0 [rv a0, .int (nI a1), rv a2] = L at h0 h1 h2 ⊢
  exact g_blk (os := fun cl => [oLoadR 2, oS (gPush (.int 0)), oLoadR 0, oLoadI 1, oCallVX cl 95 1 8 20 (hkL [(2, 3, 3)]) 1]) (fun _ => rfl) <| g_loadR h2 <| g_pushI (c := 0) rfl <| g_loadR h0 <| g_loadI h1 <| g_callVX (e := eI) (S1 := fun v => .int (nI v) :: .int (nI 0) :: rv a2 :: []) hf rfl (T_X9_rounds htb a0 a1 hs) (Nat.le_trans (Nat.le_of_ble_eq_true rfl) hd) rfl (hz_mk rfl (kszI (kszR ksz0)) rfl) (fun _ => rfl) (fun x1 s2 hf => g_blk (os := fun cl => [oS gI2l, oLast 20, tGo 4]) (fun _ => rfl) <| g_i2l <| g_last hf fun s4 hf => g_goto <| g_blk (os := fun cl => [oS (gPush (.int 0)), tIret]) (fun _ => rfl) <| g_pushI (c := 0) rfl <| g_iretW hf) (fun kq s3 hf => (db_if hf (fun hc hf => ⟨(3, 3), g_hk hc rfl, fun L5 p6 => g_blk (os := fun cl => [oS (gPush (.int 1)), tIret]) (fun _ => rfl) <| g_pushI (c := 1) rfl <| g_iretW hf⟩) (fun hc0 hf => (by cases hf))))
/-- BijectoryLaw.period(LBijectory;I[J)I: kind W, depth 6 -/
noncomputable def f_L_period (tb : List (List Int32)) (a0 : Nat) (a1 : Nat) (a2 : Nat) (hs : kHS) : Option (dR Nat) := dchk hs (ob (dtag nS c_X9 hs.1 a0) fun _ => obX (f_X9_period tb a0 a1 hs) (fun x1 s2 => ob (dast nS 101 s2 a2 0 (.long (lN x1))) fun s4 => some (.inl 0, s4)) (fun kq s3 => bif Nat.beq kq 2 then (some (.inl 1, s3)) else (none)))
set_option maxRecDepth 20000 in
set_option maxHeartbeats 4000000 in
theorem T_L_period {tb : List (List Int32)} (htb : kTab tb) (a0 : Nat) (a1 : Nat) (a2 : Nat) (hs : kHS) (y : dR Nat) (hf : f_L_period tb a0 a1 a2 hs = some y) : kEv (kM tb) kML 213 6 [rv a0, .int (nI a1), rv a2] hs (eW eI y) := by
  have hd : 5 ≤ 5 := Nat.le_refl _
  refine g_metW rfl (kszR (kszI (kszR ksz0))) rfl hf (fun hf => ?_)
  have hL : lv_args 0 [rv a0, .int (nI a1), rv a2] = [(0, rv a0), (1, .int (nI a1)), (2, rv a2)] := lvR (lvI (lvR (lv_a0 _)))
  have h0 : kget (lv_args 0 [rv a0, .int (nI a1), rv a2]) 0 = some (rv a0) := by rw [hL]; rfl
  have h1 : kget (lv_args 0 [rv a0, .int (nI a1), rv a2]) 1 = some (.int (nI a1)) := by rw [hL]; rfl
  have h2 : kget (lv_args 0 [rv a0, .int (nI a1), rv a2]) 2 = some (rv a2) := by rw [hL]; rfl
  generalize lv_args 0 [rv a0, .int (nI a1), rv a2] = L at h0 h1 h2 ⊢
  exact g_blk (os := fun cl => [oLoadR 2, oS (gPush (.int 0)), oLoadR 0, oLoadI 1, oCallVX cl 96 1 8 20 (hkL [(2, 3, 3)]) 1]) (fun _ => rfl) <| g_loadR h2 <| g_pushI (c := 0) rfl <| g_loadR h0 <| g_loadI h1 <| g_callVX (e := eL) (S1 := fun v => .long (lN v) :: .int (nI 0) :: rv a2 :: []) hf rfl (T_X9_period htb a0 a1 hs) (Nat.le_trans (Nat.le_of_ble_eq_true rfl) hd) rfl (hz_mk rfl (kszI (kszR ksz0)) rfl) (fun _ => rfl) (fun x1 s2 hf => g_blk (os := fun cl => [oLast 20, tGo 4]) (fun _ => rfl) <| g_last hf fun s4 hf => g_goto <| g_blk (os := fun cl => [oS (gPush (.int 0)), tIret]) (fun _ => rfl) <| g_pushI (c := 0) rfl <| g_iretW hf) (fun kq s3 hf => (db_if hf (fun hc hf => ⟨(3, 3), g_hk hc rfl, fun L5 p6 => g_blk (os := fun cl => [oS (gPush (.int 1)), tIret]) (fun _ => rfl) <| g_pushI (c := 1) rfl <| g_iretW hf⟩) (fun hc0 hf => (by cases hf))))
/-- BijectoryLaw.against(LBijectory;III[J)I: kind W, depth 5 -/
noncomputable def f_L_against (tb : List (List Int32)) (a0 : Nat) (a1 : Nat) (a2 : Nat) (a3 : Nat) (a4 : Nat) (hs : kHS) : Option (dR Nat) := dchk hs (ob (dtag nS c_X9 hs.1 a0) fun _ => obX (f_X9_against tb a0 a1 a2 a3 hs) (fun x1 s2 => ob (dast nS 101 s2 a4 0 (.long (lN (xi x1)))) fun s4 => some (.inl 0, s4)) (fun kq s3 => bif Nat.beq kq 2 then (some (.inl 1, s3)) else (bif Nat.beq kq 0 then (some (.inl 2, s3)) else (none))))
set_option maxRecDepth 20000 in
set_option maxHeartbeats 4000000 in
theorem T_L_against {tb : List (List Int32)} (htb : kTab tb) (a0 : Nat) (a1 : Nat) (a2 : Nat) (a3 : Nat) (a4 : Nat) (hs : kHS) (y : dR Nat) (hf : f_L_against tb a0 a1 a2 a3 a4 hs = some y) : kEv (kM tb) kML 214 5 [rv a0, .int (nI a1), .int (nI a2), .int (nI a3), rv a4] hs (eW eI y) := by
  have hd : 4 ≤ 4 := Nat.le_refl _
  refine g_metW rfl (kszR (kszI (kszI (kszI (kszR ksz0))))) rfl hf (fun hf => ?_)
  have hL : lv_args 0 [rv a0, .int (nI a1), .int (nI a2), .int (nI a3), rv a4] = [(0, rv a0), (1, .int (nI a1)), (2, .int (nI a2)), (3, .int (nI a3)), (4, rv a4)] := lvR (lvI (lvI (lvI (lvR (lv_a0 _)))))
  have h0 : kget (lv_args 0 [rv a0, .int (nI a1), .int (nI a2), .int (nI a3), rv a4]) 0 = some (rv a0) := by rw [hL]; rfl
  have h1 : kget (lv_args 0 [rv a0, .int (nI a1), .int (nI a2), .int (nI a3), rv a4]) 1 = some (.int (nI a1)) := by rw [hL]; rfl
  have h2 : kget (lv_args 0 [rv a0, .int (nI a1), .int (nI a2), .int (nI a3), rv a4]) 2 = some (.int (nI a2)) := by rw [hL]; rfl
  have h3 : kget (lv_args 0 [rv a0, .int (nI a1), .int (nI a2), .int (nI a3), rv a4]) 3 = some (.int (nI a3)) := by rw [hL]; rfl
  have h4 : kget (lv_args 0 [rv a0, .int (nI a1), .int (nI a2), .int (nI a3), rv a4]) 4 = some (rv a4) := by rw [hL]; rfl
  generalize lv_args 0 [rv a0, .int (nI a1), .int (nI a2), .int (nI a3), rv a4] = L at h0 h1 h2 h3 h4 ⊢
  exact g_blk (os := fun cl => [oLoadR 4, oS (gPush (.int 0)), oLoadR 0, oLoadI 1, oLoadI 2, oLoadI 3, oCallVX cl 97 3 8 20 (hkL [(2, 3, 5), (0, 5, 5)]) 1]) (fun _ => rfl) <| g_loadR h4 <| g_pushI (c := 0) rfl <| g_loadR h0 <| g_loadI h1 <| g_loadI h2 <| g_loadI h3 <| g_callVX (e := eI) (S1 := fun v => .int (nI v) :: .int (nI 0) :: rv a4 :: []) hf rfl (T_X9_against htb a0 a1 a2 a3 hs) (Nat.le_trans (Nat.le_of_ble_eq_true rfl) hd) rfl (hz_mk rfl (kszI (kszR ksz0)) rfl) (fun _ => rfl) (fun x1 s2 hf => g_blk (os := fun cl => [oS gI2l, oLast 20, tGo 6]) (fun _ => rfl) <| g_i2l <| g_last hf fun s4 hf => g_goto <| g_blk (os := fun cl => [oS (gPush (.int 0)), tIret]) (fun _ => rfl) <| g_pushI (c := 0) rfl <| g_iretW hf) (fun kq s3 hf => (db_if hf (fun hc hf => ⟨(3, 5), g_hk hc rfl, fun L5 p6 => g_blk (os := fun cl => [oS (gPush (.int 1)), tIret]) (fun _ => rfl) <| g_pushI (c := 1) rfl <| g_iretW hf⟩) (fun hc0 hf => (db_if hf (fun hc hf => ⟨(5, 5), g_hkn hc0 (g_hk hc rfl), fun L7 p8 => g_blk (os := fun cl => [oS (gPush (.int 2)), tIret]) (fun _ => rfl) <| g_pushI (c := 2) rfl <| g_iretW hf⟩) (fun hc1 hf => (by cases hf))))))
/-- BijectoryLaw.cancels(LBijectory;II[J)I: kind W, depth 5 -/
noncomputable def f_L_cancels (tb : List (List Int32)) (a0 : Nat) (a1 : Nat) (a2 : Nat) (a3 : Nat) (hs : kHS) : Option (dR Nat) := dchk hs (ob (dtag nS c_X9 hs.1 a0) fun _ => obX (f_X9_cancels tb a0 a1 a2 hs) (fun x1 s2 => bif weq x1 0 then (ob (dast nS 101 s2 a3 0 (.long (lN 0))) fun s4 => some (.inl 0, s4)) else (ob (dast nS 101 s2 a3 0 (.long (lN 1))) fun s5 => some (.inl 0, s5))) (fun kq s3 => bif Nat.beq kq 2 then (some (.inl 1, s3)) else (bif Nat.beq kq 0 then (some (.inl 2, s3)) else (none))))
set_option maxRecDepth 20000 in
set_option maxHeartbeats 4000000 in
theorem T_L_cancels {tb : List (List Int32)} (htb : kTab tb) (a0 : Nat) (a1 : Nat) (a2 : Nat) (a3 : Nat) (hs : kHS) (y : dR Nat) (hf : f_L_cancels tb a0 a1 a2 a3 hs = some y) : kEv (kM tb) kML 215 5 [rv a0, .int (nI a1), .int (nI a2), rv a3] hs (eW eI y) := by
  have hd : 4 ≤ 4 := Nat.le_refl _
  refine g_metW rfl (kszR (kszI (kszI (kszR ksz0)))) rfl hf (fun hf => ?_)
  have hL : lv_args 0 [rv a0, .int (nI a1), .int (nI a2), rv a3] = [(0, rv a0), (1, .int (nI a1)), (2, .int (nI a2)), (3, rv a3)] := lvR (lvI (lvI (lvR (lv_a0 _))))
  have h0 : kget (lv_args 0 [rv a0, .int (nI a1), .int (nI a2), rv a3]) 0 = some (rv a0) := by rw [hL]; rfl
  have h1 : kget (lv_args 0 [rv a0, .int (nI a1), .int (nI a2), rv a3]) 1 = some (.int (nI a1)) := by rw [hL]; rfl
  have h2 : kget (lv_args 0 [rv a0, .int (nI a1), .int (nI a2), rv a3]) 2 = some (.int (nI a2)) := by rw [hL]; rfl
  have h3 : kget (lv_args 0 [rv a0, .int (nI a1), .int (nI a2), rv a3]) 3 = some (rv a3) := by rw [hL]; rfl
  generalize lv_args 0 [rv a0, .int (nI a1), .int (nI a2), rv a3] = L at h0 h1 h2 h3 ⊢
  exact g_blk (os := fun cl => [oLoadR 3, oS (gPush (.int 0)), oLoadR 0, oLoadI 1, oLoadI 2, oCallVX cl 98 2 8 20 (hkL [(2, 6, 4), (0, 8, 4)]) 1]) (fun _ => rfl) <| g_loadR h3 <| g_pushI (c := 0) rfl <| g_loadR h0 <| g_loadI h1 <| g_loadI h2 <| g_callVX (e := eI) (S1 := fun v => .int (nI v) :: .int (nI 0) :: rv a3 :: []) hf rfl (T_X9_cancels htb a0 a1 a2 hs) (Nat.le_trans (Nat.le_of_ble_eq_true rfl) hd) rfl (hz_mk rfl (kszI (kszR ksz0)) rfl) (fun _ => rfl) (fun x1 s2 hf => g_blk (os := fun cl => [tIf (fun x => decide (x = 0)) 3 2]) (fun _ => rfl) <| g_if hf (w_eq _ _) (fun hc hf => g_blk (os := fun cl => [oS (gPush (.long 0)), tGo 4]) (fun _ => rfl) <| g_pushL (c := 0) rfl <| g_goto <| g_blk (os := fun cl => [oLast 20, tGo 9]) (fun _ => rfl) <| g_last hf fun s4 hf => g_goto <| g_blk (os := fun cl => [oS (gPush (.int 0)), tIret]) (fun _ => rfl) <| g_pushI (c := 0) rfl <| g_iretW hf) (fun hc hf => g_blk (os := fun cl => [oS (gPush (.long 1)), tGo 4]) (fun _ => rfl) <| g_pushL (c := 1) rfl <| g_goto <| g_blk (os := fun cl => [oLast 20, tGo 9]) (fun _ => rfl) <| g_last hf fun s5 hf => g_goto <| g_blk (os := fun cl => [oS (gPush (.int 0)), tIret]) (fun _ => rfl) <| g_pushI (c := 0) rfl <| g_iretW hf)) (fun kq s3 hf => (db_if hf (fun hc hf => ⟨(6, 4), g_hk hc rfl, fun L6 p7 => g_blk (os := fun cl => [oS (gPush (.int 1)), tIret]) (fun _ => rfl) <| g_pushI (c := 1) rfl <| g_iretW hf⟩) (fun hc0 hf => (db_if hf (fun hc hf => ⟨(8, 4), g_hkn hc0 (g_hk hc rfl), fun L8 p9 => g_blk (os := fun cl => [oS (gPush (.int 2)), tIret]) (fun _ => rfl) <| g_pushI (c := 2) rfl <| g_iretW hf⟩) (fun hc1 hf => (by cases hf))))))
/-- BijectoryLaw.ofWalker(LBijectory;II[J)I: kind W, depth 4 -/
noncomputable def f_L_ofWalker (tb : List (List Int32)) (a0 : Nat) (a1 : Nat) (a2 : Nat) (a3 : Nat) (hs : kHS) : Option (dR Nat) := dchk hs (ob (dtag nS c_X9 hs.1 a0) fun _ => obX (f_X9_ofWalker tb a0 a1 a2 hs) (fun x1 s2 => ob (dast nS 101 s2 a3 0 (.long (lN (xi x1)))) fun s4 => some (.inl 0, s4)) (fun kq s3 => bif Nat.beq kq 2 then (some (.inl 1, s3)) else (bif Nat.beq kq 0 then (some (.inl 2, s3)) else (none))))
set_option maxRecDepth 20000 in
set_option maxHeartbeats 4000000 in
theorem T_L_ofWalker {tb : List (List Int32)} (htb : kTab tb) (a0 : Nat) (a1 : Nat) (a2 : Nat) (a3 : Nat) (hs : kHS) (y : dR Nat) (hf : f_L_ofWalker tb a0 a1 a2 a3 hs = some y) : kEv (kM tb) kML 216 4 [rv a0, .int (nI a1), .int (nI a2), rv a3] hs (eW eI y) := by
  have hd : 3 ≤ 3 := Nat.le_refl _
  refine g_metW rfl (kszR (kszI (kszI (kszR ksz0)))) rfl hf (fun hf => ?_)
  have hL : lv_args 0 [rv a0, .int (nI a1), .int (nI a2), rv a3] = [(0, rv a0), (1, .int (nI a1)), (2, .int (nI a2)), (3, rv a3)] := lvR (lvI (lvI (lvR (lv_a0 _))))
  have h0 : kget (lv_args 0 [rv a0, .int (nI a1), .int (nI a2), rv a3]) 0 = some (rv a0) := by rw [hL]; rfl
  have h1 : kget (lv_args 0 [rv a0, .int (nI a1), .int (nI a2), rv a3]) 1 = some (.int (nI a1)) := by rw [hL]; rfl
  have h2 : kget (lv_args 0 [rv a0, .int (nI a1), .int (nI a2), rv a3]) 2 = some (.int (nI a2)) := by rw [hL]; rfl
  have h3 : kget (lv_args 0 [rv a0, .int (nI a1), .int (nI a2), rv a3]) 3 = some (rv a3) := by rw [hL]; rfl
  generalize lv_args 0 [rv a0, .int (nI a1), .int (nI a2), rv a3] = L at h0 h1 h2 h3 ⊢
  exact g_blk (os := fun cl => [oLoadR 3, oS (gPush (.int 0)), oLoadR 0, oLoadI 1, oLoadI 2, oCallVX cl 99 2 8 20 (hkL [(2, 3, 4), (0, 5, 4)]) 1]) (fun _ => rfl) <| g_loadR h3 <| g_pushI (c := 0) rfl <| g_loadR h0 <| g_loadI h1 <| g_loadI h2 <| g_callVX (e := eI) (S1 := fun v => .int (nI v) :: .int (nI 0) :: rv a3 :: []) hf rfl (T_X9_ofWalker htb a0 a1 a2 hs) (Nat.le_trans (Nat.le_of_ble_eq_true rfl) hd) rfl (hz_mk rfl (kszI (kszR ksz0)) rfl) (fun _ => rfl) (fun x1 s2 hf => g_blk (os := fun cl => [oS gI2l, oLast 20, tGo 6]) (fun _ => rfl) <| g_i2l <| g_last hf fun s4 hf => g_goto <| g_blk (os := fun cl => [oS (gPush (.int 0)), tIret]) (fun _ => rfl) <| g_pushI (c := 0) rfl <| g_iretW hf) (fun kq s3 hf => (db_if hf (fun hc hf => ⟨(3, 4), g_hk hc rfl, fun L5 p6 => g_blk (os := fun cl => [oS (gPush (.int 1)), tIret]) (fun _ => rfl) <| g_pushI (c := 1) rfl <| g_iretW hf⟩) (fun hc0 hf => (db_if hf (fun hc hf => ⟨(5, 4), g_hkn hc0 (g_hk hc rfl), fun L7 p8 => g_blk (os := fun cl => [oS (gPush (.int 2)), tIret]) (fun _ => rfl) <| g_pushI (c := 2) rfl <| g_iretW hf⟩) (fun hc1 hf => (by cases hf))))))
/-- BijectoryLaw.ofClaim(LBijectory;II[J)I: kind W, depth 3 -/
noncomputable def f_L_ofClaim (tb : List (List Int32)) (a0 : Nat) (a1 : Nat) (a2 : Nat) (a3 : Nat) (hs : kHS) : Option (dR Nat) := dchk hs (ob (dtag nS c_X9 hs.1 a0) fun _ => obX (f_X9_ofClaim tb a0 a1 a2 hs) (fun x1 s2 => ob (dast nS 101 s2 a3 0 (.long (lN (xi x1)))) fun s4 => some (.inl 0, s4)) (fun kq s3 => bif Nat.beq kq 2 then (some (.inl 1, s3)) else (bif Nat.beq kq 0 then (some (.inl 2, s3)) else (none))))
set_option maxRecDepth 20000 in
set_option maxHeartbeats 4000000 in
theorem T_L_ofClaim {tb : List (List Int32)} (htb : kTab tb) (a0 : Nat) (a1 : Nat) (a2 : Nat) (a3 : Nat) (hs : kHS) (y : dR Nat) (hf : f_L_ofClaim tb a0 a1 a2 a3 hs = some y) : kEv (kM tb) kML 217 3 [rv a0, .int (nI a1), .int (nI a2), rv a3] hs (eW eI y) := by
  have hd : 2 ≤ 2 := Nat.le_refl _
  refine g_metW rfl (kszR (kszI (kszI (kszR ksz0)))) rfl hf (fun hf => ?_)
  have hL : lv_args 0 [rv a0, .int (nI a1), .int (nI a2), rv a3] = [(0, rv a0), (1, .int (nI a1)), (2, .int (nI a2)), (3, rv a3)] := lvR (lvI (lvI (lvR (lv_a0 _))))
  have h0 : kget (lv_args 0 [rv a0, .int (nI a1), .int (nI a2), rv a3]) 0 = some (rv a0) := by rw [hL]; rfl
  have h1 : kget (lv_args 0 [rv a0, .int (nI a1), .int (nI a2), rv a3]) 1 = some (.int (nI a1)) := by rw [hL]; rfl
  have h2 : kget (lv_args 0 [rv a0, .int (nI a1), .int (nI a2), rv a3]) 2 = some (.int (nI a2)) := by rw [hL]; rfl
  have h3 : kget (lv_args 0 [rv a0, .int (nI a1), .int (nI a2), rv a3]) 3 = some (rv a3) := by rw [hL]; rfl
  generalize lv_args 0 [rv a0, .int (nI a1), .int (nI a2), rv a3] = L at h0 h1 h2 h3 ⊢
  exact g_blk (os := fun cl => [oLoadR 3, oS (gPush (.int 0)), oLoadR 0, oLoadI 1, oLoadI 2, oCallVX cl 100 2 8 20 (hkL [(2, 3, 4), (0, 5, 4)]) 1]) (fun _ => rfl) <| g_loadR h3 <| g_pushI (c := 0) rfl <| g_loadR h0 <| g_loadI h1 <| g_loadI h2 <| g_callVX (e := eI) (S1 := fun v => .int (nI v) :: .int (nI 0) :: rv a3 :: []) hf rfl (T_X9_ofClaim htb a0 a1 a2 hs) (Nat.le_trans (Nat.le_of_ble_eq_true rfl) hd) rfl (hz_mk rfl (kszI (kszR ksz0)) rfl) (fun _ => rfl) (fun x1 s2 hf => g_blk (os := fun cl => [oS gI2l, oLast 20, tGo 6]) (fun _ => rfl) <| g_i2l <| g_last hf fun s4 hf => g_goto <| g_blk (os := fun cl => [oS (gPush (.int 0)), tIret]) (fun _ => rfl) <| g_pushI (c := 0) rfl <| g_iretW hf) (fun kq s3 hf => (db_if hf (fun hc hf => ⟨(3, 4), g_hk hc rfl, fun L5 p6 => g_blk (os := fun cl => [oS (gPush (.int 1)), tIret]) (fun _ => rfl) <| g_pushI (c := 1) rfl <| g_iretW hf⟩) (fun hc0 hf => (db_if hf (fun hc hf => ⟨(5, 4), g_hkn hc0 (g_hk hc rfl), fun L7 p8 => g_blk (os := fun cl => [oS (gPush (.int 2)), tIret]) (fun _ => rfl) <| g_pushI (c := 2) rfl <| g_iretW hf⟩) (fun hc1 hf => (by cases hf))))))
/-- BijectoryLaw.many(LBijectory;I[J)I: kind W, depth 4 -/
noncomputable def f_L_many (tb : List (List Int32)) (a0 : Nat) (a1 : Nat) (a2 : Nat) (hs : kHS) : Option (dR Nat) := dchk hs (ob (dtag nS c_X9 hs.1 a0) fun _ => obX (f_X9_many tb a0 a1 hs) (fun x1 s2 => ob (dast nS 101 s2 a2 0 (.long (lN (xi x1)))) fun s4 => some (.inl 0, s4)) (fun kq s3 => bif Nat.beq kq 0 then (some (.inl 1, s3)) else (none)))
set_option maxRecDepth 20000 in
set_option maxHeartbeats 4000000 in
theorem T_L_many {tb : List (List Int32)} (htb : kTab tb) (a0 : Nat) (a1 : Nat) (a2 : Nat) (hs : kHS) (y : dR Nat) (hf : f_L_many tb a0 a1 a2 hs = some y) : kEv (kM tb) kML 218 4 [rv a0, .int (nI a1), rv a2] hs (eW eI y) := by
  have hd : 3 ≤ 3 := Nat.le_refl _
  refine g_metW rfl (kszR (kszI (kszR ksz0))) rfl hf (fun hf => ?_)
  have hL : lv_args 0 [rv a0, .int (nI a1), rv a2] = [(0, rv a0), (1, .int (nI a1)), (2, rv a2)] := lvR (lvI (lvR (lv_a0 _)))
  have h0 : kget (lv_args 0 [rv a0, .int (nI a1), rv a2]) 0 = some (rv a0) := by rw [hL]; rfl
  have h1 : kget (lv_args 0 [rv a0, .int (nI a1), rv a2]) 1 = some (.int (nI a1)) := by rw [hL]; rfl
  have h2 : kget (lv_args 0 [rv a0, .int (nI a1), rv a2]) 2 = some (rv a2) := by rw [hL]; rfl
  generalize lv_args 0 [rv a0, .int (nI a1), rv a2] = L at h0 h1 h2 ⊢
  exact g_blk (os := fun cl => [oLoadR 2, oS (gPush (.int 0)), oLoadR 0, oLoadI 1, oCallVX cl 101 1 8 20 (hkL [(0, 3, 3)]) 1]) (fun _ => rfl) <| g_loadR h2 <| g_pushI (c := 0) rfl <| g_loadR h0 <| g_loadI h1 <| g_callVX (e := eI) (S1 := fun v => .int (nI v) :: .int (nI 0) :: rv a2 :: []) hf rfl (T_X9_many htb a0 a1 hs) (Nat.le_trans (Nat.le_of_ble_eq_true rfl) hd) rfl (hz_mk rfl (kszI (kszR ksz0)) rfl) (fun _ => rfl) (fun x1 s2 hf => g_blk (os := fun cl => [oS gI2l, oLast 20, tGo 4]) (fun _ => rfl) <| g_i2l <| g_last hf fun s4 hf => g_goto <| g_blk (os := fun cl => [oS (gPush (.int 0)), tIret]) (fun _ => rfl) <| g_pushI (c := 0) rfl <| g_iretW hf) (fun kq s3 hf => (db_if hf (fun hc hf => ⟨(3, 3), g_hk hc rfl, fun L5 p6 => g_blk (os := fun cl => [oS (gPush (.int 1)), tIret]) (fun _ => rfl) <| g_pushI (c := 1) rfl <| g_iretW hf⟩) (fun hc0 hf => (by cases hf))))
