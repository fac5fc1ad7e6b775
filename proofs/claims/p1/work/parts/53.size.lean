/-! ===== size(5), size(6): the class makes a realm whose rows need not be known; the reference runs by its codes ===== -/
theorem of_n {n pc oc : Nat} {P O : List Nat} (g : ∃ I V C, Good n pc oc P O I V C) : ∃ h', f_X4_of tb0 n sI = some (.inl 84, (h', (104, 2301 + 6 + (pc + oc + 11 + 11 * oc + 12 + 12 * oc + 12 + 12 * 37)))) ∧ h'.length = 104 ∧ (∀ q, q < 63 → h'[q]? = hI[q]?) ∧ h'[63]? = some (c_X4, [.int (nI n), .ref 84, .ref 85, .ref 86, .ref 98, .ref 111]) := by
  obtain ⟨I, V, C, g⟩ := g
  obtain ⟨h', e, r, hl, hf⟩ := realm_of (tb := tb0) rfl g hI 63 2301
  exact ⟨h', e, hl, hf, r.1⟩
theorem split_63 {l : List kCel} {x : kCel} (hl : l.length = 104) (h1 : ∀ q, q < 63 → l[q]? = hI[q]?) (h2 : l[63]? = some x) : l = hI ++ x :: (List.range 40).map (fun k => l.getD (64 + k) (0, [])) := by
  apply List.ext_getElem?
  intro i
  have hlen : hI.length = 63 := rfl
  by_cases hi : i < 63
  · rw [h1 i hi, List.getElem?_append_left (by omega)]
  · rw [List.getElem?_append_right (by omega), hlen]
    by_cases hi2 : i = 63
    · subst hi2
      exact h2
    · obtain ⟨j, rfl⟩ : ∃ j, i = 64 + j := ⟨i - 64, by omega⟩
      rw [show 64 + j - 63 = j + 1 by omega, List.getElem?_cons_succ, List.getElem?_map]
      by_cases hj : j < 40
      · rw [List.getElem?_range hj, Option.map_some, List.getD_eq_getElem?_getD, List.getElem?_eq_getElem (by omega)]
        rfl
      · rw [List.getElem?_eq_none (by omega), List.getElem?_eq_none (by rw [List.length_range]; omega)]
        rfl
noncomputable def okG (lo : Nat) (y : Option (dR Unit)) : Bool := match y with
  | some (.inl _, s) => ((match f_X12_thrown s.1 70, dtag nS c_X12 s.1 70, dald nS 101 vL s.1 82 0 with | some w, some _, some z => Nat.beq w 0 && Nat.beq z 0 | _, _, _ => false) && (Nat.ble s.2.1 600000 && Nat.ble s.2.2 7302000)) && (Nat.ble 104 s.2.1 && Nat.ble lo s.2.2)
  | _ => false
theorem okG_spec {lo : Nat} {y : Option (dR Unit)} (h : okG lo y = true) : ∃ s : kHS, y = some (.inl (), s) ∧ f_X12_thrown s.1 70 = some 0 ∧ dtag nS c_X12 s.1 70 = some () ∧ dald nS 101 vL s.1 82 0 = some 0 ∧ (Nat.ble s.2.1 600000 && Nat.ble s.2.2 7302000) = true ∧ 104 ≤ s.2.1 ∧ lo ≤ s.2.2 := by
  unfold okG at h
  split at h
  · rename_i u s
    simp only [Bool.and_eq_true] at h
    obtain ⟨⟨h1, h2, h3⟩, h4, h5⟩ := h
    split at h1
    · rename_i w v z e1 e2 e3
      simp only [Bool.and_eq_true] at h1
      refine ⟨s, rfl, by rw [e1, Nat.eq_of_beq_eq_true h1.1], e2, by rw [e3, Nat.eq_of_beq_eq_true h1.2], by rw [h2, h3]; rfl, Nat.le_of_ble_eq_true h4, Nat.le_of_ble_eq_true h5⟩
    · cases h1
  · cases h
noncomputable def hS5 : List kCel := (of_n good_ex5).choose
noncomputable def rc5 (k : Nat) : kCel := hS5.getD (64 + k) (0, [])
noncomputable def hE5 : List kCel := hI ++ (c_X4, [.int (nI 5), .ref 84, .ref 85, .ref 86, .ref 98, .ref 111]) :: (List.range 40).map rc5
theorem of_5 : f_X4_of tb0 5 sI = some (.inl 84, (hE5, 104, 5708)) := by
  have h := (of_n good_ex5).choose_spec
  have e : hE5 = hS5 := (split_63 h.2.1 h.2.2.1 h.2.2.2).symm
  rw [e]
  exact h.1
noncomputable def hX5 : List kCel := (((hE5.set 1 (108, [.null, .null, .null, .ref 28, .null, .ref 83, .null])).set 0 (c_X9, [.ref 21, .ref 22, .ref 25, .ref 26, .ref 27, .ref 83, .int (nI 0), .int (nI 0), .int (nI 0), .int (nI 0), .int (nI 0)])).set 0 (c_X9, [.ref 21, .ref 22, .ref 25, .ref 26, .ref 27, .ref 83, .int (nI 0), .int (nI 0), .int (nI 0), .int (nI 0), .int (nI 0)])).set 61 (101, [.long (lN (xi 0))])
noncomputable def sX5 : kHS := (hX5, 104, 5708)
set_option maxRecDepth 100000 in
theorem C0_5 : f_L_size tb0 21 5 82 sI = some (.inl 0, sX5) := by
  unfold f_L_size f_X9_size
  rw [ob_mk (show dtag nS c_X9 sI.1 21 = some () from rfl), show wlt 5 1 = false by decide +kernel, cond_false, show wlt 6 5 = false by decide +kernel, cond_false, ob_mk (show dgR nS c_X9 0 sI.1 21 = some 22 from rfl), ob_mk (show dalenG tb0 sI.1 22 = some 7 from rfl), show wlt 5 7 = true by decide +kernel, cond_true, ob_mk (show dgR nS c_X9 0 sI.1 21 = some 22 from rfl), ob_mk (show daldA nS sI.1 22 5 = some 0 from rfl), show Nat.beq 0 0 = true from rfl, cond_true, of_5, obW_l]
  rfl
noncomputable def sY5 : kHS := ((((hX5.set 49 (c_X12, [.int (nI 0), .int (nI 3), .ref 70, .ref 71, .ref 72, .ref 73, .int (nI 0), .int (nI 0), .ref 74, .ref 75, .ref 76])).set 52 (c_Jx4a65c, [.int (nI (wadd 0 1)), .ref 8, .int (nI 0)])).set 52 (c_Jx4a65c, [.int (nI (wadd 0 1)), .ref 8, .int (nI 0)])), 104, 5708)
noncomputable def hS6 : List kCel := (of_n good_ex6).choose
noncomputable def rc6 (k : Nat) : kCel := hS6.getD (64 + k) (0, [])
noncomputable def hE6 : List kCel := hI ++ (c_X4, [.int (nI 6), .ref 84, .ref 85, .ref 86, .ref 98, .ref 111]) :: (List.range 40).map rc6
theorem of_6 : f_X4_of tb0 6 sI = some (.inl 84, (hE6, 104, 20198)) := by
  have h := (of_n good_ex6).choose_spec
  have e : hE6 = hS6 := (split_63 h.2.1 h.2.2.1 h.2.2.2).symm
  rw [e]
  exact h.1
noncomputable def hX6 : List kCel := (((hE6.set 1 (108, [.null, .null, .null, .ref 28, .null, .null, .ref 83])).set 0 (c_X9, [.ref 21, .ref 22, .ref 25, .ref 26, .ref 27, .ref 83, .int (nI 0), .int (nI 0), .int (nI 0), .int (nI 0), .int (nI 0)])).set 0 (c_X9, [.ref 21, .ref 22, .ref 25, .ref 26, .ref 27, .ref 83, .int (nI 0), .int (nI 0), .int (nI 0), .int (nI 0), .int (nI 0)])).set 61 (101, [.long (lN (xi 0))])
noncomputable def sX6 : kHS := (hX6, 104, 20198)
set_option maxRecDepth 100000 in
theorem C0_6 : f_L_size tb0 21 6 82 sI = some (.inl 0, sX6) := by
  unfold f_L_size f_X9_size
  rw [ob_mk (show dtag nS c_X9 sI.1 21 = some () from rfl), show wlt 6 1 = false by decide +kernel, cond_false, show wlt 6 6 = false by decide +kernel, cond_false, ob_mk (show dgR nS c_X9 0 sI.1 21 = some 22 from rfl), ob_mk (show dalenG tb0 sI.1 22 = some 7 from rfl), show wlt 6 7 = true by decide +kernel, cond_true, ob_mk (show dgR nS c_X9 0 sI.1 21 = some 22 from rfl), ob_mk (show daldA nS sI.1 22 6 = some 0 from rfl), show Nat.beq 0 0 = true from rfl, cond_true, of_6, obW_l]
  rfl
noncomputable def sY6 : kHS := ((((hX6.set 49 (c_X12, [.int (nI 0), .int (nI 3), .ref 70, .ref 71, .ref 72, .ref 73, .int (nI 0), .int (nI 0), .ref 74, .ref 75, .ref 76])).set 52 (c_Jx4a65c, [.int (nI (wadd 0 1)), .ref 8, .int (nI 0)])).set 52 (c_Jx4a65c, [.int (nI (wadd 0 1)), .ref 8, .int (nI 0)])), 104, 20198)
