/-! ===== the orders of size 6, a sixth at a time ===== -/
noncomputable def sG1 : kHS := (hG.set 104 (100, ints (p6.take 132 ++ List.replicate 0 0)), 105, 20330)
noncomputable def sG2 : kHS := (sG1.1 ++ [(100, List.replicate (Nat.mod 132 4294967296) (kdef 100))], 106, 20462)
noncomputable def sG3 : kHS := (sG2.1.set 50 (104, [rv 126, .ref 78, .ref 79]), 106, 20462)
noncomputable def sG4 : kHS := (sG3.1.set 105 (100, (ints (p6.take 132 ++ List.replicate 0 0)).take (Nat.mod 132 4294967296) ++ (List.replicate (Nat.mod 132 4294967296) (kdef 100)).drop (Nat.mod 132 4294967296)), 106, 20462)
noncomputable def sG5 : kHS := (sG4.1.set 50 (104, [rv 126, rv 126, .ref 79]), 106, 20462)
noncomputable def sG6 : kHS := (sG5.1 ++ [(100, List.replicate (Nat.mod 720 4294967296) (kdef 100))], 107, 21182)
noncomputable def sG7 : kHS := (sG6.1.set 50 (104, [rv 126, rv 126, rv 127]), 107, 21182)
noncomputable def sG8 : kHS := (sG7.1 ++ [(100, List.replicate (Nat.mod 1 4294967296) (kdef 100))], 108, 21183)
noncomputable def sG9 : kHS := (sG8.1.set 107 (100, [.int (nI 0)]), 108, 21183)
set_option maxRecDepth 100000 in
theorem gro_0 (n : Nat) : lp_X12_grow tb0 (n + 1) 0 70 6 125 132 4096 0 sG1 = lp_X12_grow tb0 n 1 70 6 0 0 1 2 sG5 := by
  rw [lp_X12_grow_s0]
  unfold lb0_X12_grow
  rw [show wmul 2 6 = 12 by decide +kernel, show wshl 1 12 = 4096 by decide +kernel, show wle 4096 4096 = true by decide +kernel, cond_true, ob_mk (show dgR nS c_X12 2 sG1.1 70 = some 71 from rfl), ob_mk (show dnewa nS 100 132 sG1 = some (126, sG2) from rfl), ob_mk (show dastA nS 104 100 sG2 71 0 126 = some sG3 from rfl), ob_mk (show dgR nS c_X12 2 sG3.1 70 = some 71 from rfl), ob_mk (show daldA nS sG3.1 71 0 = some 126 from rfl), ob_mk (show dcopy nS sG3 125 0 126 0 132 = some sG4 from rfl), ob_mk (show dgR nS c_X12 2 sG4.1 70 = some 71 from rfl), ob_mk (show dgR nS c_X12 2 sG4.1 70 = some 71 from rfl), ob_mk (show daldA nS sG4.1 71 0 = some 126 from rfl), ob_mk (show dastA nS 104 100 sG4 71 1 126 = some sG5 from rfl)]
theorem gro_2 (n : Nat) (s : kHS) : lp_X12_grow tb0 (n + 1) 1 70 6 0 0 1 2 s = lp_X12_grow tb0 n 1 70 6 0 0 2 3 s := by
  rw [lp_X12_grow_s1]
  unfold lb1_X12_grow
  rw [show wlt 6 2 = false by decide +kernel, cond_false, dl_2, dl_2, show wmul 1 2 = 2 by decide +kernel, show wadd 2 1 = 3 by decide +kernel]
theorem gro_3 (n : Nat) (s : kHS) : lp_X12_grow tb0 (n + 1) 1 70 6 0 0 2 3 s = lp_X12_grow tb0 n 1 70 6 0 0 6 4 s := by
  rw [lp_X12_grow_s1]
  unfold lb1_X12_grow
  rw [show wlt 6 3 = false by decide +kernel, cond_false, dl_2, dl_2, show wmul 2 3 = 6 by decide +kernel, show wadd 3 1 = 4 by decide +kernel]
theorem gro_4 (n : Nat) (s : kHS) : lp_X12_grow tb0 (n + 1) 1 70 6 0 0 6 4 s = lp_X12_grow tb0 n 1 70 6 0 0 24 5 s := by
  rw [lp_X12_grow_s1]
  unfold lb1_X12_grow
  rw [show wlt 6 4 = false by decide +kernel, cond_false, dl_2, dl_2, show wmul 6 4 = 24 by decide +kernel, show wadd 4 1 = 5 by decide +kernel]
theorem gro_5 (n : Nat) (s : kHS) : lp_X12_grow tb0 (n + 1) 1 70 6 0 0 24 5 s = lp_X12_grow tb0 n 1 70 6 0 0 120 6 s := by
  rw [lp_X12_grow_s1]
  unfold lb1_X12_grow
  rw [show wlt 6 5 = false by decide +kernel, cond_false, dl_2, dl_2, show wmul 24 5 = 120 by decide +kernel, show wadd 5 1 = 6 by decide +kernel]
theorem gro_6 (n : Nat) (s : kHS) : lp_X12_grow tb0 (n + 1) 1 70 6 0 0 120 6 s = lp_X12_grow tb0 n 1 70 6 0 0 720 7 s := by
  rw [lp_X12_grow_s1]
  unfold lb1_X12_grow
  rw [show wlt 6 6 = false by decide +kernel, cond_false, dl_2, dl_2, show wmul 120 6 = 720 by decide +kernel, show wadd 6 1 = 7 by decide +kernel]
set_option maxRecDepth 100000 in
theorem gro_7 (n : Nat) : lp_X12_grow tb0 (n + 1) 1 70 6 0 0 720 7 sG5 = obW (f_X12_fill tb0 12 70 0 0 128 sG9) fun _ s51 => some (.inl (), s51) := by
  rw [lp_X12_grow_s1]
  unfold lb1_X12_grow
  rw [show wlt 6 7 = true by decide +kernel, cond_true, ob_mk (show dgR nS c_X12 2 sG5.1 70 = some 71 from rfl), ob_mk (show dnewa nS 100 720 sG5 = some (127, sG6) from rfl), ob_mk (show dastA nS 104 100 sG6 71 2 127 = some sG7 from rfl), ob_mk (show dnewa nS 100 1 sG7 = some (128, sG8) from rfl), ob_mk (show dast nS 100 sG8 128 0 (.int (nI 0)) = some sG9 from rfl), ob_mk (show dtag nS c_X12 sG9.1 70 = some () from rfl)]
theorem gro_all : lp_X12_grow tb0 95904 0 70 6 125 132 4096 0 sG1 = obW (f_X12_fill tb0 12 70 0 0 128 sG9) fun _ s51 => some (.inl (), s51) := by
  rw [show 95904 = 95903 + 1 from rfl, gro_0, show 95903 = 95902 + 1 from rfl, gro_2, show 95902 = 95901 + 1 from rfl, gro_3, show 95901 = 95900 + 1 from rfl, gro_4, show 95900 = 95899 + 1 from rfl, gro_5, show 95899 = 95898 + 1 from rfl, gro_6, show 95898 = 95897 + 1 from rfl, gro_7]
theorem split_mid {l front back : List kCel} (hl : 104 ≤ l.length) (h1 : l.take 64 = front) (h2 : l.drop 104 = back) : l = front ++ (List.range 40).map (fun k => l.getD (64 + k) (0, [])) ++ back := by
  have e1 : (l.drop 64).take 40 = (List.range 40).map (fun k => l.getD (64 + k) (0, [])) := by
    apply List.ext_getElem?
    intro j
    rw [List.getElem?_map]
    by_cases hj : j < 40
    · rw [List.getElem?_take, if_pos hj, List.getElem?_drop, List.getElem?_range hj, Option.map_some, List.getD_eq_getElem?_getD, List.getElem?_eq_getElem (by omega)]
      rfl
    · rw [List.getElem?_take, if_neg hj, List.getElem?_eq_none (by rw [List.length_range]; omega)]
      rfl
  rw [← h1, ← h2, ← e1, ← show (l.drop 64).drop 40 = l.drop 104 from List.drop_drop .., List.append_assoc, List.take_append_drop, List.take_append_drop]
def fA6 : List kCel := hI ++ [(c_X4, [.int (nI 6), .ref 84, .ref 85, .ref 86, .ref 98, .ref 111])]
def frontF : List kCel := (((((fA6.set 1 (108, [.null, .null, .null, .ref 28, .null, .null, .ref 83])).set 0 (c_X9, [.ref 21, .ref 22, .ref 25, .ref 26, .ref 27, .ref 83, .int (nI 0), .int (nI 0), .int (nI 0), .int (nI 0), .int (nI 0)])).set 61 (101, [.long (lN 0)])).set 49 (c_X12, [.int (nI 0), .int (nI 6), .ref 70, .ref 71, .ref 72, .ref 73, .int (nI 0), .int (nI 0), .ref 74, .ref 75, .ref 76])).set 52 (c_Jx4a65c, [.int (nI 1), .ref 8, .int (nI 0)])).set 50 (104, [.ref 125, .ref 125, .ref 126])
def backF (k : Nat) : List kCel := [(100, ints p6), (100, ints p6), (100, ints (o6.take (120 * k) ++ List.replicate (720 - 120 * k) 0)), (100, ints [120 * k])]
noncomputable def chkF (k : Nat) (y : Option (dR Unit)) : Bool := match y with
  | some (.inl _, s) => (decide (s.1.take 64 = frontF) && decide (s.1.drop 104 = backF k)) && (Nat.ble 104 s.1.length && decide (s.2 = (108, 21183)))
  | _ => false
noncomputable def nxt (y : Option (dR Unit)) : List kCel := match y with
  | some (.inl _, s) => s.1
  | _ => []
noncomputable def mkF (k : Nat) (rc : Nat → kCel) : kHS := (frontF ++ (List.range 40).map rc ++ backF k, 108, 21183)
theorem chkF_spec {k : Nat} {y : Option (dR Unit)} (h : chkF k y = true) : y = some (.inl (), mkF k (fun j => (nxt y).getD (64 + j) (0, []))) := by
  unfold chkF at h
  split at h
  · rename_i u s
    simp only [Bool.and_eq_true, decide_eq_true_eq] at h
    obtain ⟨⟨h1, h2⟩, h3, h4⟩ := h
    obtain ⟨l, c⟩ := s
    have e := split_mid (Nat.le_of_ble_eq_true h3) h1 h2
    dsimp only at h4
    subst h4
    exact congrArg (fun z => some (Sum.inl (), (z, (108, 21183)))) e
  · cases h
set_option maxRecDepth 100000 in
theorem fk_0 : chkF 1 (f_X12_fill tb0 11 70 1 1 128 sG9) = true := by decide +kernel
noncomputable def rcF1 (j : Nat) : kCel := (nxt (f_X12_fill tb0 11 70 1 1 128 sG9)).getD (64 + j) (0, [])
noncomputable def sF1 : kHS := mkF 1 rcF1
theorem fs_0 : f_X12_fill tb0 11 70 1 1 128 sG9 = some (.inl (), sF1) := chkF_spec fk_0
set_option maxRecDepth 100000 in
theorem fk_1 : chkF 2 (f_X12_fill tb0 11 70 2 2 128 sF1) = true := by decide +kernel
noncomputable def rcF2 (j : Nat) : kCel := (nxt (f_X12_fill tb0 11 70 2 2 128 sF1)).getD (64 + j) (0, [])
noncomputable def sF2 : kHS := mkF 2 rcF2
theorem fs_1 : f_X12_fill tb0 11 70 2 2 128 sF1 = some (.inl (), sF2) := chkF_spec fk_1
set_option maxRecDepth 100000 in
theorem fk_2 : chkF 3 (f_X12_fill tb0 11 70 3 4 128 sF2) = true := by decide +kernel
noncomputable def rcF3 (j : Nat) : kCel := (nxt (f_X12_fill tb0 11 70 3 4 128 sF2)).getD (64 + j) (0, [])
noncomputable def sF3 : kHS := mkF 3 rcF3
theorem fs_2 : f_X12_fill tb0 11 70 3 4 128 sF2 = some (.inl (), sF3) := chkF_spec fk_2
set_option maxRecDepth 100000 in
theorem fk_3 : chkF 4 (f_X12_fill tb0 11 70 4 8 128 sF3) = true := by decide +kernel
noncomputable def rcF4 (j : Nat) : kCel := (nxt (f_X12_fill tb0 11 70 4 8 128 sF3)).getD (64 + j) (0, [])
noncomputable def sF4 : kHS := mkF 4 rcF4
theorem fs_3 : f_X12_fill tb0 11 70 4 8 128 sF3 = some (.inl (), sF4) := chkF_spec fk_3
set_option maxRecDepth 100000 in
theorem fk_4 : chkF 5 (f_X12_fill tb0 11 70 5 16 128 sF4) = true := by decide +kernel
noncomputable def rcF5 (j : Nat) : kCel := (nxt (f_X12_fill tb0 11 70 5 16 128 sF4)).getD (64 + j) (0, [])
noncomputable def sF5 : kHS := mkF 5 rcF5
theorem fs_4 : f_X12_fill tb0 11 70 5 16 128 sF4 = some (.inl (), sF5) := chkF_spec fk_4
noncomputable def okE (y : Option (dR Unit)) : Bool := okG 20198 y && (match y with
  | some (.inl _, s) => decide (dgI nS c_X12 1 s.1 70 = some 6) && (Nat.ble 108 s.2.1 && Nat.ble 21183 s.2.2)
  | _ => false)
theorem okE_spec {y : Option (dR Unit)} (h : okE y = true) : okG 20198 y = true ∧ ∃ s : kHS, y = some (.inl (), s) ∧ dgI nS c_X12 1 s.1 70 = some 6 ∧ 108 ≤ s.2.1 ∧ 21183 ≤ s.2.2 := by
  unfold okE at h
  rw [Bool.and_eq_true] at h
  refine ⟨h.1, ?_⟩
  have h2 := h.2
  split at h2
  · rename_i u s
    simp only [Bool.and_eq_true, decide_eq_true_eq] at h2
    exact ⟨s, rfl, h2.1, Nat.le_of_ble_eq_true h2.2.1, Nat.le_of_ble_eq_true h2.2.2⟩
  · cases h2
set_option maxRecDepth 100000 in
theorem fk_5 : okE (f_X12_fill tb0 11 70 6 32 128 sF5) = true := by decide +kernel
theorem fl_s (k : Nat) (n : Nat) (s : kHS) (hk : k < 6) (h6 : dgI nS c_X12 1 s.1 70 = some 6) (ht : dtag nS c_X12 s.1 70 = some ()) : lp_X12_fill tb0 (f_X12_fill tb0 11) (n + 1) 70 0 0 128 k s = obW (f_X12_fill tb0 11 70 (k + 1) (2 ^ k) 128 s) fun _ s16 => lp_X12_fill tb0 (f_X12_fill tb0 11) n 70 0 0 128 (k + 1) s16 := by
  rw [lp_X12_fill_s0]
  unfold lb0_X12_fill
  rw [ob_mk h6]
  rcases (show k = 0 ∨ k = 1 ∨ k = 2 ∨ k = 3 ∨ k = 4 ∨ k = 5 by omega) with rfl | rfl | rfl | rfl | rfl | rfl
  · rw [show wle 6 0 = false by decide +kernel, cond_false, show (!weq (wand (wshr 0 0) 1) 0) = false by decide +kernel, cond_false, ob_mk ht, show wadd (wadd (wmul 10 0) 0) 1 = 0 + 1 by decide +kernel, show wor 0 (wshl 1 0) = 2 ^ 0 by decide +kernel]
    congr 1
  · rw [show wle 6 1 = false by decide +kernel, cond_false, show (!weq (wand (wshr 0 1) 1) 0) = false by decide +kernel, cond_false, ob_mk ht, show wadd (wadd (wmul 10 0) 1) 1 = 1 + 1 by decide +kernel, show wor 0 (wshl 1 1) = 2 ^ 1 by decide +kernel]
    congr 1
  · rw [show wle 6 2 = false by decide +kernel, cond_false, show (!weq (wand (wshr 0 2) 1) 0) = false by decide +kernel, cond_false, ob_mk ht, show wadd (wadd (wmul 10 0) 2) 1 = 2 + 1 by decide +kernel, show wor 0 (wshl 1 2) = 2 ^ 2 by decide +kernel]
    congr 1
  · rw [show wle 6 3 = false by decide +kernel, cond_false, show (!weq (wand (wshr 0 3) 1) 0) = false by decide +kernel, cond_false, ob_mk ht, show wadd (wadd (wmul 10 0) 3) 1 = 3 + 1 by decide +kernel, show wor 0 (wshl 1 3) = 2 ^ 3 by decide +kernel]
    congr 1
  · rw [show wle 6 4 = false by decide +kernel, cond_false, show (!weq (wand (wshr 0 4) 1) 0) = false by decide +kernel, cond_false, ob_mk ht, show wadd (wadd (wmul 10 0) 4) 1 = 4 + 1 by decide +kernel, show wor 0 (wshl 1 4) = 2 ^ 4 by decide +kernel]
    congr 1
  · rw [show wle 6 5 = false by decide +kernel, cond_false, show (!weq (wand (wshr 0 5) 1) 0) = false by decide +kernel, cond_false, ob_mk ht, show wadd (wadd (wmul 10 0) 5) 1 = 5 + 1 by decide +kernel, show wor 0 (wshl 1 5) = 2 ^ 5 by decide +kernel]
    congr 1
set_option maxRecDepth 100000 in
theorem fl_all : ∃ s : kHS, lp_X12_fill tb0 (f_X12_fill tb0 11) dF 70 0 0 128 0 sG9 = some (.inl (), s) ∧ okG 20198 (some (.inl (), s)) = true ∧ 108 ≤ s.2.1 ∧ 21183 ≤ s.2.2 := by
  obtain ⟨g0, s, g1, g2, g3, g4⟩ := okE_spec fk_5
  rw [g1] at g0
  refine ⟨s, ?_, g0, g3, g4⟩
  rw [show dF = 99993 + 1 + 1 + 1 + 1 + 1 + 1 + 1 from rfl]
  rw [fl_s 0 _ sG9 (by decide) rfl rfl, show 0 + 1 = 1 from rfl, show 2 ^ 0 = 1 from rfl, fs_0, obW_l]
  rw [fl_s 1 _ sF1 (by decide) rfl rfl, show 1 + 1 = 2 from rfl, show 2 ^ 1 = 2 from rfl, fs_1, obW_l]
  rw [fl_s 2 _ sF2 (by decide) rfl rfl, show 2 + 1 = 3 from rfl, show 2 ^ 2 = 4 from rfl, fs_2, obW_l]
  rw [fl_s 3 _ sF3 (by decide) rfl rfl, show 3 + 1 = 4 from rfl, show 2 ^ 3 = 8 from rfl, fs_3, obW_l]
  rw [fl_s 4 _ sF4 (by decide) rfl rfl, show 4 + 1 = 5 from rfl, show 2 ^ 4 = 16 from rfl, fs_4, obW_l]
  rw [fl_s 5 _ sF5 (by decide) rfl rfl, show 5 + 1 = 6 from rfl, show 2 ^ 5 = 32 from rfl, g1, obW_l, lp_X12_fill_s0]
  unfold lb0_X12_fill
  rw [ob_mk g2, show wle 6 6 = true by decide +kernel, cond_true]
set_option maxRecDepth 100000 in
theorem grow_fin : okG 20198 (dchk sY6 (lp_X12_grow tb0 95904 0 70 6 125 132 4096 0 sG1)) = true := by
  obtain ⟨s, h1, h2, h3, h4⟩ := fl_all
  have hf : f_X12_fill tb0 12 70 0 0 128 sG9 = some (.inl (), s) := by
    rw [show 12 = 11 + 1 from rfl, f_X12_fill_s]
    unfold fb_X12_fill
    rw [ob_mk (show dgI nS c_X12 1 sG9.1 70 = some 6 from rfl), show (!weq 0 (wsub (wshl 1 6) 1)) = true by decide +kernel, cond_true, h1]
    exact dchk_eq h3 h4
  rw [gro_all, hf, obW_l]
  have e : dchk sY6 (some (Sum.inl (), s) : Option (dR Unit)) = some (.inl (), s) := dchk_eq (Nat.le_trans (show 104 ≤ 108 by decide) h3) (Nat.le_trans (show 20198 ≤ 21183 by decide) h4)
  rw [e]
  exact h2
